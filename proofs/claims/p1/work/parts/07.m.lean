/-! the reference, on a fresh object. Laid by a program (wip/tool) -/
set_option maxHeartbeats 4000000 in
set_option maxRecDepth 100000 in
theorem cf_X12_within (l : Launch) (D : va_G) (ca : Nat → ClassId) (za h : Nat → Nat) (hh : sgH 26 h) (f : sg_F) (L : sg_L) (Q : sg_Q) (x0 : Int64) (x1 : Int64) (x2 : Int64) (sz : Nat) : Met l yX12_within gwX12_within { frames := 0, cells := 0, slots := 0, locals := 0 } (sgP D vwCl (tyX ca) 26 h (eM ca h) zcM za f L Q sz [.long x0, .long x1, .long x2]) (sgQi D vwCl 26 h (eM ca h) sz (fun r f1 L1 Q1 => (f1 = f ∧ L1 = L ∧ Q1 = Q) ∧ ((r = 1 ∧ (x1.toInt ≤ x0.toInt ∧ x0.toInt ≤ x2.toInt)) ∨ (r = 0 ∧ (¬ (x1.toInt ≤ x0.toInt ∧ x0.toInt ≤ x2.toInt)))))) 0 0 (sgA 26 h sz) := by
  refine sg_ofWz (cc := cX12_within) (maxL := 6) RX12 (by decide) rfl rfl (Nat.le_of_ble_eq_true rfl) ?_
  intro p e s m below meth cd Qz ls hx hb hml hown hts hK hZ hP hS hl hret
  have hA := sgY.self (n := 26) (h := h) (sz := s.heap.size)
  have hl : lv_has ls 6 [(0, .long x0), (2, .long x1), (4, .long x2)] := hl
  obtain ⟨H, hH⟩ : ∃ z : Heap, z = s.heap := ⟨_, rfl⟩
  obtain ⟨locs, hlo⟩ : ∃ z : List Loc, z = [] := ⟨_, rfl⟩
  have hP : va_P D vwCl (sgw 26 h (eM ca h) f L Q) H := by rw [hH]; exact hP
  have hS : va_S (sgA 26 h s.heap.size) s.heap H locs := by rw [hH, hlo]; exact hS
  suffices hgo : W p l e ({ frames := 0, cells := 0, slots := 0, locals := 0 }) s m ([.long x0, .long x1, .long x2] : List Value).toArray below meth cd H locs 0 0 Qz (F0 m 0 ls []) by rw [hH, hlo] at hgo; exact hgo
  refine lv_lload_n hx hb dX12_within_0 rfl (lv_at hl 0 rfl) ?_
  refine lv_lload_n hx hb dX12_within_1 rfl (lv_at hl 1 rfl) ?_
  refine W.lcmp hx hb dX12_within_2 ?_
  refine lv_topi (fun v_1 ev_1 => ?_)
  have q_2 : (v_1.toInt = -1 ∧ x0.toInt < x1.toInt) ∨ (v_1.toInt = 0 ∧ x0.toInt = x1.toInt) ∨ (v_1.toInt = 1 ∧ x1.toInt < x0.toInt) := by rw [ev_1]; exact bn_lcmpI x0 x1
  refine lv_if_lt (tgt := 17) hx hb dX12_within_3 (by decide) (fun c => ?_) (fun c => ?_)
  · skip
    have c_3 : v_1.toInt < 0 := (by have z := bn_lt c; have k1 : (0 : Int32).toInt = 0 := (by decide); omega)
    refine lv_iconst (v := 0) hx hb dX12_within_17 (by decide) ?_
    exact hret _ _ _ _ (0) f L Q dX12_within_18 (by decide) hP hS ⟨⟨rfl, rfl, rfl⟩, Or.inr (⟨rfl, by omega⟩)⟩
  · skip
    have c_4 : 0 ≤ v_1.toInt := (by have z := bn_nlt c; have k1 : (0 : Int32).toInt = 0 := (by decide); omega)
    refine lv_lload_n hx hb dX12_within_6 rfl (lv_at hl 0 rfl) ?_
    refine lv_lload hx hb dX12_within_7 (lv_at hl 2 rfl) ?_
    refine W.lcmp hx hb dX12_within_9 ?_
    refine lv_topi (fun v_5 ev_5 => ?_)
    have q_6 : (v_5.toInt = -1 ∧ x0.toInt < x2.toInt) ∨ (v_5.toInt = 0 ∧ x0.toInt = x2.toInt) ∨ (v_5.toInt = 1 ∧ x2.toInt < x0.toInt) := by rw [ev_5]; exact bn_lcmpI x0 x2
    refine lv_if_gt (tgt := 17) hx hb dX12_within_10 (by decide) (fun c => ?_) (fun c => ?_)
    · skip
      have c_7 : 0 < v_5.toInt := (by have z := bn_lt c; have k1 : (0 : Int32).toInt = 0 := (by decide); omega)
      refine lv_iconst (v := 0) hx hb dX12_within_17 (by decide) ?_
      exact hret _ _ _ _ (0) f L Q dX12_within_18 (by decide) hP hS ⟨⟨rfl, rfl, rfl⟩, Or.inr (⟨rfl, by omega⟩)⟩
    · skip
      have c_8 : v_5.toInt ≤ 0 := (by have z := bn_nlt c; have k1 : (0 : Int32).toInt = 0 := (by decide); omega)
      refine lv_iconst (v := 1) hx hb dX12_within_13 (by decide) ?_
      refine lv_goto (tgt := 18) hx hb dX12_within_14 (by decide) ?_
      exact hret _ _ _ _ (1) f L Q dX12_within_18 (by decide) hP hS ⟨⟨rfl, rfl, rfl⟩, Or.inl ⟨rfl, by omega⟩⟩

set_option maxHeartbeats 4000000 in
set_option maxRecDepth 100000 in
theorem cf_X12_isPart (l : Launch) (D : va_G) (ca : Nat → ClassId) (za h : Nat → Nat) (hh : sgH 26 h) (f : sg_F) (L : sg_L) (Q : sg_Q) (x0 : Int32) (sz : Nat) : Met l yX12_isPart gwX12_isPart { frames := 1, cells := 0, slots := 0, locals := 25 } (sgP D vwCl (tyX ca) 26 h (eM ca h) zcM za f L Q sz [.int x0]) (sgQi D vwCl 26 h (eM ca h) sz (fun r f1 L1 Q1 => (f1 = f ∧ L1 = L ∧ Q1 = Q) ∧ ((r = 1 ∧ (0 ≤ x0.toInt ∧ x0.toInt ≤ 2)) ∨ (r = 0 ∧ (¬ (0 ≤ x0.toInt ∧ x0.toInt ≤ 2)))))) 0 0 (sgA 26 h sz) := by
  refine sg_ofWz (cc := cX12_isPart) (maxL := 1) RX12 (by decide) rfl rfl (Nat.le_of_ble_eq_true rfl) ?_
  intro p e s m below meth cd Qz ls hx hb hml hown hts hK hZ hP hS hl hret
  have hA := sgY.self (n := 26) (h := h) (sz := s.heap.size)
  have hl : lv_has ls 1 [(0, .int x0)] := hl
  obtain ⟨H, hH⟩ : ∃ z : Heap, z = s.heap := ⟨_, rfl⟩
  obtain ⟨locs, hlo⟩ : ∃ z : List Loc, z = [] := ⟨_, rfl⟩
  have hP : va_P D vwCl (sgw 26 h (eM ca h) f L Q) H := by rw [hH]; exact hP
  have hS : va_S (sgA 26 h s.heap.size) s.heap H locs := by rw [hH, hlo]; exact hS
  suffices hgo : W p l e ({ frames := 1, cells := 0, slots := 0, locals := 25 }) s m ([.int x0] : List Value).toArray below meth cd H locs 0 0 Qz (F0 m 0 ls []) by rw [hH, hlo] at hgo; exact hgo
  refine lv_iload_n hx hb dX12_isPart_0 rfl (lv_at hl 0 rfl) ?_
  obtain ⟨w_1, ew_1⟩ : ∃ z : Int64, z = x0.toInt64 := ⟨_, rfl⟩
  have q_2 : w_1.toInt = x0.toInt := by rw [ew_1]; exact Int32.toInt_toInt64 _
  refine lv_i2l (v := w_1) hx hb dX12_isPart_1 ew_1.symm ?_
  refine lv_lconst (v := 0) hx hb dX12_isPart_2 (by decide) ?_
  refine lv_ldc2 (v := 2) hx hb hown (hts _ (List.mem_cons_of_mem _ mw_213)) dX12_isPart_3 ?_
  refine sg_calli (va_runS (As := [.long w_1, .long 0, .long 2]) (rest := []) ⟨hx, hb, hml, hown, hts⟩ (cf_X12_within l D ca za h hh f L Q w_1 0 2 H.size) (va_cwS 3 hts (gw_S (fun _ h => List.mem_cons_of_mem _ h) mw_215 mw_216 mw_217 mw_214) rfl rfl rfl (by decide +kernel) ⟨Nat.le_of_ble_eq_true rfl, Nat.le_of_ble_eq_true rfl⟩) (sg_preS hA hK hP hS hZ) rfl rfl hl.1 rfl (lv_room (Nat.le_of_ble_eq_true rfl)) dX12_isPart_6 ⟨Nat.le_refl _, Nat.le_refl _⟩) hA hS (fun r_6 f_3 L_4 Q_5 H locs hq hP hS => ?_)
  obtain ⟨⟨ef9, eL9, eQ9⟩, hq⟩ := hq
  rw [ef9, eL9, eQ9] at hP; clear ef9 eL9 eQ9
  have k_7 : (0 : Int64).toInt = 0 := by decide
  have k_8 : (2 : Int64).toInt = 2 := by decide
  rcases hq with ⟨rfl, hq⟩ | ⟨rfl, hq⟩
  · skip
    have q_9 := hq
    exact hret _ _ _ _ (1) f L Q dX12_isPart_9 (by decide) hP hS ⟨⟨rfl, rfl, rfl⟩, Or.inl ⟨rfl, by omega⟩⟩
  · skip
    have q_10 := hq
    exact hret _ _ _ _ (0) f L Q dX12_isPart_9 (by decide) hP hS ⟨⟨rfl, rfl, rfl⟩, Or.inr (⟨rfl, by omega⟩)⟩

set_option maxHeartbeats 4000000 in
set_option maxRecDepth 100000 in
theorem cf_X12_isSetting (l : Launch) (D : va_G) (ca : Nat → ClassId) (za h : Nat → Nat) (hh : sgH 26 h) (f : sg_F) (L : sg_L) (Q : sg_Q) (x0 : Int64) (sz : Nat) : Met l yX12_isSetting gwX12_isSetting { frames := 1, cells := 0, slots := 0, locals := 25 } (sgP D vwCl (tyX ca) 26 h (eM ca h) zcM za f L Q sz [.long x0]) (sgQi D vwCl 26 h (eM ca h) sz (fun r f1 L1 Q1 => (f1 = f ∧ L1 = L ∧ Q1 = Q) ∧ ((r = 1 ∧ (0 ≤ x0.toInt ∧ x0.toInt ≤ 60)) ∨ (r = 0 ∧ (¬ (0 ≤ x0.toInt ∧ x0.toInt ≤ 60)))))) 0 0 (sgA 26 h sz) := by
  refine sg_ofWz (cc := cX12_isSetting) (maxL := 2) RX12 (by decide) rfl rfl (Nat.le_of_ble_eq_true rfl) ?_
  intro p e s m below meth cd Qz ls hx hb hml hown hts hK hZ hP hS hl hret
  have hA := sgY.self (n := 26) (h := h) (sz := s.heap.size)
  have hl : lv_has ls 2 [(0, .long x0)] := hl
  obtain ⟨H, hH⟩ : ∃ z : Heap, z = s.heap := ⟨_, rfl⟩
  obtain ⟨locs, hlo⟩ : ∃ z : List Loc, z = [] := ⟨_, rfl⟩
  have hP : va_P D vwCl (sgw 26 h (eM ca h) f L Q) H := by rw [hH]; exact hP
  have hS : va_S (sgA 26 h s.heap.size) s.heap H locs := by rw [hH, hlo]; exact hS
  suffices hgo : W p l e ({ frames := 1, cells := 0, slots := 0, locals := 25 }) s m ([.long x0] : List Value).toArray below meth cd H locs 0 0 Qz (F0 m 0 ls []) by rw [hH, hlo] at hgo; exact hgo
  refine lv_lload_n hx hb dX12_isSetting_0 rfl (lv_at hl 0 rfl) ?_
  refine lv_lconst (v := 0) hx hb dX12_isSetting_1 (by decide) ?_
  refine lv_ldc2 (v := 60) hx hb hown (hts _ (List.mem_cons_of_mem _ mw_218)) dX12_isSetting_2 ?_
  refine sg_calli (va_runS (As := [.long x0, .long 0, .long 60]) (rest := []) ⟨hx, hb, hml, hown, hts⟩ (cf_X12_within l D ca za h hh f L Q x0 0 60 H.size) (va_cwS 3 hts (gw_S (fun _ h => List.mem_cons_of_mem _ h) mw_215 mw_216 mw_217 mw_214) rfl rfl rfl (by decide +kernel) ⟨Nat.le_of_ble_eq_true rfl, Nat.le_of_ble_eq_true rfl⟩) (sg_preS hA hK hP hS hZ) rfl rfl hl.1 rfl (lv_room (Nat.le_of_ble_eq_true rfl)) dX12_isSetting_5 ⟨Nat.le_refl _, Nat.le_refl _⟩) hA hS (fun r_4 f_1 L_2 Q_3 H locs hq hP hS => ?_)
  obtain ⟨⟨ef9, eL9, eQ9⟩, hq⟩ := hq
  rw [ef9, eL9, eQ9] at hP; clear ef9 eL9 eQ9
  have k_5 : (0 : Int64).toInt = 0 := by decide
  have k_6 : (60 : Int64).toInt = 60 := by decide
  rcases hq with ⟨rfl, hq⟩ | ⟨rfl, hq⟩
  · skip
    have q_7 := hq
    exact hret _ _ _ _ (1) f L Q dX12_isSetting_8 (by decide) hP hS ⟨⟨rfl, rfl, rfl⟩, Or.inl ⟨rfl, by omega⟩⟩
  · skip
    have q_8 := hq
    exact hret _ _ _ _ (0) f L Q dX12_isSetting_8 (by decide) hP hS ⟨⟨rfl, rfl, rfl⟩, Or.inr (⟨rfl, by omega⟩)⟩

set_option maxHeartbeats 4000000 in
set_option maxRecDepth 100000 in
theorem cf_X12_isShelf (l : Launch) (D : va_G) (ca : Nat → ClassId) (za h : Nat → Nat) (hh : sgH 26 h) (f : sg_F) (L : sg_L) (Q : sg_Q) (x0 : Int32) (sz : Nat) : Met l yX12_isShelf gwX12_isShelf { frames := 1, cells := 0, slots := 0, locals := 25 } (sgP D vwCl (tyX ca) 26 h (eM ca h) zcM za f L Q sz [.int x0]) (sgQi D vwCl 26 h (eM ca h) sz (fun r f1 L1 Q1 => (f1 = f ∧ L1 = L ∧ Q1 = Q) ∧ ((r = 1 ∧ (0 ≤ x0.toInt ∧ x0.toInt ≤ 5)) ∨ (r = 0 ∧ (¬ (0 ≤ x0.toInt ∧ x0.toInt ≤ 5)))))) 0 0 (sgA 26 h sz) := by
  refine sg_ofWz (cc := cX12_isShelf) (maxL := 1) RX12 (by decide) rfl rfl (Nat.le_of_ble_eq_true rfl) ?_
  intro p e s m below meth cd Qz ls hx hb hml hown hts hK hZ hP hS hl hret
  have hA := sgY.self (n := 26) (h := h) (sz := s.heap.size)
  have hl : lv_has ls 1 [(0, .int x0)] := hl
  obtain ⟨H, hH⟩ : ∃ z : Heap, z = s.heap := ⟨_, rfl⟩
  obtain ⟨locs, hlo⟩ : ∃ z : List Loc, z = [] := ⟨_, rfl⟩
  have hP : va_P D vwCl (sgw 26 h (eM ca h) f L Q) H := by rw [hH]; exact hP
  have hS : va_S (sgA 26 h s.heap.size) s.heap H locs := by rw [hH, hlo]; exact hS
  suffices hgo : W p l e ({ frames := 1, cells := 0, slots := 0, locals := 25 }) s m ([.int x0] : List Value).toArray below meth cd H locs 0 0 Qz (F0 m 0 ls []) by rw [hH, hlo] at hgo; exact hgo
  refine lv_iload_n hx hb dX12_isShelf_0 rfl (lv_at hl 0 rfl) ?_
  obtain ⟨w_1, ew_1⟩ : ∃ z : Int64, z = x0.toInt64 := ⟨_, rfl⟩
  have q_2 : w_1.toInt = x0.toInt := by rw [ew_1]; exact Int32.toInt_toInt64 _
  refine lv_i2l (v := w_1) hx hb dX12_isShelf_1 ew_1.symm ?_
  refine lv_lconst (v := 0) hx hb dX12_isShelf_2 (by decide) ?_
  refine lv_ldc2 (v := 5) hx hb hown (hts _ (List.mem_cons_of_mem _ mw_219)) dX12_isShelf_3 ?_
  refine sg_calli (va_runS (As := [.long w_1, .long 0, .long 5]) (rest := []) ⟨hx, hb, hml, hown, hts⟩ (cf_X12_within l D ca za h hh f L Q w_1 0 5 H.size) (va_cwS 3 hts (gw_S (fun _ h => List.mem_cons_of_mem _ h) mw_215 mw_216 mw_217 mw_214) rfl rfl rfl (by decide +kernel) ⟨Nat.le_of_ble_eq_true rfl, Nat.le_of_ble_eq_true rfl⟩) (sg_preS hA hK hP hS hZ) rfl rfl hl.1 rfl (lv_room (Nat.le_of_ble_eq_true rfl)) dX12_isShelf_6 ⟨Nat.le_refl _, Nat.le_refl _⟩) hA hS (fun r_6 f_3 L_4 Q_5 H locs hq hP hS => ?_)
  obtain ⟨⟨ef9, eL9, eQ9⟩, hq⟩ := hq
  rw [ef9, eL9, eQ9] at hP; clear ef9 eL9 eQ9
  have k_7 : (0 : Int64).toInt = 0 := by decide
  have k_8 : (5 : Int64).toInt = 5 := by decide
  rcases hq with ⟨rfl, hq⟩ | ⟨rfl, hq⟩
  · skip
    have q_9 := hq
    exact hret _ _ _ _ (1) f L Q dX12_isShelf_9 (by decide) hP hS ⟨⟨rfl, rfl, rfl⟩, Or.inl ⟨rfl, by omega⟩⟩
  · skip
    have q_10 := hq
    exact hret _ _ _ _ (0) f L Q dX12_isShelf_9 (by decide) hP hS ⟨⟨rfl, rfl, rfl⟩, Or.inr (⟨rfl, by omega⟩)⟩

set_option maxHeartbeats 4000000 in
set_option maxRecDepth 100000 in
theorem cf_X12_isSitter (l : Launch) (D : va_G) (ca : Nat → ClassId) (za h : Nat → Nat) (hh : sgH 26 h) (f : sg_F) (L : sg_L) (Q : sg_Q) (x0 : Int64) (hs : f 0 6 = 0) (sz : Nat) : Met l yX12_isSitter gwX12_isSitter { frames := 1, cells := 0, slots := 0, locals := 25 } (sgP D vwCl (tyX ca) 26 h (eM ca h) zcM za f L Q sz [.ref (h 0), .long x0]) (sgQi D vwCl 26 h (eM ca h) sz (fun r f1 L1 Q1 => (f1 = f ∧ L1 = L ∧ Q1 = Q) ∧ ((r = 0 ∧ (True))))) 0 0 (sgA 26 h sz) := by
  refine sg_ofWz (cc := cX12_isSitter) (maxL := 3) RX12 (by decide) rfl rfl (Nat.le_of_ble_eq_true rfl) ?_
  intro p e s m below meth cd Qz ls hx hb hml hown hts hK hZ hP hS hl hret
  have hA := sgY.self (n := 26) (h := h) (sz := s.heap.size)
  have hl : lv_has ls 3 [(0, .ref (h 0)), (1, .long x0)] := hl
  obtain ⟨H, hH⟩ : ∃ z : Heap, z = s.heap := ⟨_, rfl⟩
  obtain ⟨locs, hlo⟩ : ∃ z : List Loc, z = [] := ⟨_, rfl⟩
  have hP : va_P D vwCl (sgw 26 h (eM ca h) f L Q) H := by rw [hH]; exact hP
  have hS : va_S (sgA 26 h s.heap.size) s.heap H locs := by rw [hH, hlo]; exact hS
  suffices hgo : W p l e ({ frames := 1, cells := 0, slots := 0, locals := 25 }) s m ([.ref (h 0), .long x0] : List Value).toArray below meth cd H locs 0 0 Qz (F0 m 0 ls []) by rw [hH, hlo] at hgo; exact hgo
  refine lv_lload_n hx hb dX12_isSitter_0 rfl (lv_at hl 1 rfl) ?_
  refine lv_lconst (v := 0) hx hb dX12_isSitter_1 (by decide) ?_
  refine lv_aload_n hx hb dX12_isSitter_2 rfl (lv_at hl 0 rfl) ?_
  refine sg_get (ci := 12) (v := .int 0) (C := RX12) (T := TX12) (N := 55) hx hb hts (fun w h => List.mem_cons_of_mem _ (gx_12 w h)) hown hK hP 0 (by decide) rfl rfl 6 (by decide) (hts _ (List.mem_cons_of_mem _ mw_220)) (fun _ h9 => h9) (congrArg (fun z => some (Value.int z)) (show f 0 6 = 0 from hs)) dX12_isSitter_3 ?_
  refine lv_iconst (v := 1) hx hb dX12_isSitter_6 (by decide) ?_
  refine lv_isub hx hb dX12_isSitter_7 ?_
  refine W.eq (g2 := F0 m 8 ls [.int (-1), .long 0, .long x0]) (by rw [show (0 - 1 : Int32) = (-1) from by decide]) ?_
  refine lv_i2l (v := (-1)) hx hb dX12_isSitter_8 (by decide) ?_
  refine sg_calli (va_runS (As := [.long x0, .long 0, .long (-1)]) (rest := []) ⟨hx, hb, hml, hown, hts⟩ (cf_X12_within l D ca za h hh f L Q x0 0 (-1) H.size) (va_cwS 3 hts (gw_S (fun _ h => List.mem_cons_of_mem _ h) mw_215 mw_216 mw_217 mw_214) rfl rfl rfl (by decide +kernel) ⟨Nat.le_of_ble_eq_true rfl, Nat.le_of_ble_eq_true rfl⟩) (sg_preS hA hK hP hS hZ) rfl rfl hl.1 rfl (lv_room (Nat.le_of_ble_eq_true rfl)) dX12_isSitter_9 ⟨Nat.le_refl _, Nat.le_refl _⟩) hA hS (fun r_4 f_1 L_2 Q_3 H locs hq hP hS => ?_)
  obtain ⟨⟨ef9, eL9, eQ9⟩, hq⟩ := hq
  rw [ef9, eL9, eQ9] at hP; clear ef9 eL9 eQ9
  have k_5 : (0 : Int64).toInt = 0 := by decide
  have k_6 : ((-1) : Int64).toInt = (-1) := by decide
  rcases hq with ⟨rfl, hq⟩ | ⟨rfl, hq⟩
  · skip
    have q_7 := hq
    exfalso; omega
  · skip
    have q_8 := hq
    exact hret _ _ _ _ (0) f L Q dX12_isSitter_12 (by decide) hP hS ⟨⟨rfl, rfl, rfl⟩, ⟨rfl, trivial⟩⟩

set_option maxHeartbeats 4000000 in
set_option maxRecDepth 100000 in
theorem cf_X12_isBody (l : Launch) (D : va_G) (ca : Nat → ClassId) (za h : Nat → Nat) (hh : sgH 26 h) (f : sg_F) (L : sg_L) (Q : sg_Q) (x0 : Int32) (hs : f 0 45 = 0) (sz : Nat) : Met l yX12_isBody gwX12_isBody { frames := 1, cells := 0, slots := 0, locals := 25 } (sgP D vwCl (tyX ca) 26 h (eM ca h) zcM za f L Q sz [.ref (h 0), .int x0]) (sgQi D vwCl 26 h (eM ca h) sz (fun r f1 L1 Q1 => (f1 = f ∧ L1 = L ∧ Q1 = Q) ∧ ((r = 0 ∧ (True))))) 0 0 (sgA 26 h sz) := by
  refine sg_ofWz (cc := cX12_isBody) (maxL := 2) RX12 (by decide) rfl rfl (Nat.le_of_ble_eq_true rfl) ?_
  intro p e s m below meth cd Qz ls hx hb hml hown hts hK hZ hP hS hl hret
  have hA := sgY.self (n := 26) (h := h) (sz := s.heap.size)
  have hl : lv_has ls 2 [(0, .ref (h 0)), (1, .int x0)] := hl
  obtain ⟨H, hH⟩ : ∃ z : Heap, z = s.heap := ⟨_, rfl⟩
  obtain ⟨locs, hlo⟩ : ∃ z : List Loc, z = [] := ⟨_, rfl⟩
  have hP : va_P D vwCl (sgw 26 h (eM ca h) f L Q) H := by rw [hH]; exact hP
  have hS : va_S (sgA 26 h s.heap.size) s.heap H locs := by rw [hH, hlo]; exact hS
  suffices hgo : W p l e ({ frames := 1, cells := 0, slots := 0, locals := 25 }) s m ([.ref (h 0), .int x0] : List Value).toArray below meth cd H locs 0 0 Qz (F0 m 0 ls []) by rw [hH, hlo] at hgo; exact hgo
  refine lv_iload_n hx hb dX12_isBody_0 rfl (lv_at hl 1 rfl) ?_
  obtain ⟨w_1, ew_1⟩ : ∃ z : Int64, z = x0.toInt64 := ⟨_, rfl⟩
  have q_2 : w_1.toInt = x0.toInt := by rw [ew_1]; exact Int32.toInt_toInt64 _
  refine lv_i2l (v := w_1) hx hb dX12_isBody_1 ew_1.symm ?_
  refine lv_lconst (v := 0) hx hb dX12_isBody_2 (by decide) ?_
  refine lv_aload_n hx hb dX12_isBody_3 rfl (lv_at hl 0 rfl) ?_
  refine sg_get (ci := 12) (v := .int 0) (C := RX12) (T := TX12) (N := 55) hx hb hts (fun w h => List.mem_cons_of_mem _ (gx_12 w h)) hown hK hP 0 (by decide) rfl rfl 45 (by decide) (hts _ (List.mem_cons_of_mem _ mw_221)) (fun _ h9 => h9) (congrArg (fun z => some (Value.int z)) (show f 0 45 = 0 from hs)) dX12_isBody_4 ?_
  refine lv_iconst (v := 1) hx hb dX12_isBody_7 (by decide) ?_
  refine lv_isub hx hb dX12_isBody_8 ?_
  refine W.eq (g2 := F0 m 9 ls [.int (-1), .long 0, .long w_1]) (by rw [show (0 - 1 : Int32) = (-1) from by decide]) ?_
  refine lv_i2l (v := (-1)) hx hb dX12_isBody_9 (by decide) ?_
  refine sg_calli (va_runS (As := [.long w_1, .long 0, .long (-1)]) (rest := []) ⟨hx, hb, hml, hown, hts⟩ (cf_X12_within l D ca za h hh f L Q w_1 0 (-1) H.size) (va_cwS 3 hts (gw_S (fun _ h => List.mem_cons_of_mem _ h) mw_215 mw_216 mw_217 mw_214) rfl rfl rfl (by decide +kernel) ⟨Nat.le_of_ble_eq_true rfl, Nat.le_of_ble_eq_true rfl⟩) (sg_preS hA hK hP hS hZ) rfl rfl hl.1 rfl (lv_room (Nat.le_of_ble_eq_true rfl)) dX12_isBody_10 ⟨Nat.le_refl _, Nat.le_refl _⟩) hA hS (fun r_6 f_3 L_4 Q_5 H locs hq hP hS => ?_)
  obtain ⟨⟨ef9, eL9, eQ9⟩, hq⟩ := hq
  rw [ef9, eL9, eQ9] at hP; clear ef9 eL9 eQ9
  have k_7 : (0 : Int64).toInt = 0 := by decide
  have k_8 : ((-1) : Int64).toInt = (-1) := by decide
  rcases hq with ⟨rfl, hq⟩ | ⟨rfl, hq⟩
  · skip
    have q_9 := hq
    exfalso; omega
  · skip
    have q_10 := hq
    exact hret _ _ _ _ (0) f L Q dX12_isBody_13 (by decide) hP hS ⟨⟨rfl, rfl, rfl⟩, ⟨rfl, trivial⟩⟩

set_option maxHeartbeats 4000000 in
set_option maxRecDepth 100000 in
theorem cf_X12_bytesIs (l : Launch) (D : va_G) (ca : Nat → ClassId) (za h : Nat → Nat) (hh : sgH 26 h) (x0 : Int32) (sz : Nat) : Met l yX12_bytesIs gwX12_bytesIs { frames := 2, cells := 0, slots := 0, locals := 45 } (sgP D vwCl (tyX ca) 26 h (eM ca h) zcM za f0M L0 Q0 sz [.ref (h 0), .int x0]) (sgQi D vwCl 26 h (eM ca h) sz (fun r f1 L1 Q1 => (f1 = f0M ∧ L1 = L0 ∧ Q1 = Q0) ∧ ((r = (-11) ∧ ((0 ≤ x0.toInt ∧ x0.toInt ≤ 5))) ∨ (r = (-1) ∧ (¬ ((0 ≤ x0.toInt ∧ x0.toInt ≤ 5))))))) 0 0 (sgA 26 h sz) := by
  refine sg_ofWi (cc := cX12_bytesIs) (maxL := 2) RX12 (by decide) rfl rfl (Nat.le_of_ble_eq_true rfl) ?_
  intro p e s m below meth cd Qz ls hx hb hml hown hts hK hZ hP hS hl hret
  have hA := sgY.self (n := 26) (h := h) (sz := s.heap.size)
  have hl : lv_has ls 2 [(0, .ref (h 0)), (1, .int x0)] := hl
  obtain ⟨H, hH⟩ : ∃ z : Heap, z = s.heap := ⟨_, rfl⟩
  obtain ⟨locs, hlo⟩ : ∃ z : List Loc, z = [] := ⟨_, rfl⟩
  have hP : va_P D vwCl (sgw 26 h (eM ca h) f0M L0 Q0) H := by rw [hH]; exact hP
  have hS : va_S (sgA 26 h s.heap.size) s.heap H locs := by rw [hH, hlo]; exact hS
  suffices hgo : W p l e ({ frames := 2, cells := 0, slots := 0, locals := 45 }) s m ([.ref (h 0), .int x0] : List Value).toArray below meth cd H locs 0 0 Qz (F0 m 0 ls []) by rw [hH, hlo] at hgo; exact hgo
  refine lv_iload_n hx hb dX12_bytesIs_0 rfl (lv_at hl 1 rfl) ?_
  refine sg_calli (va_runS (As := [.int x0]) (rest := []) ⟨hx, hb, hml, hown, hts⟩ (cf_X12_isShelf l D ca za h hh f0M L0 Q0 x0 H.size) (va_cwS 1 hts (gw_S (fun _ h => List.mem_cons_of_mem _ h) mw_223 mw_224 mw_217 mw_222) rfl rfl rfl (by decide +kernel) ⟨Nat.le_of_ble_eq_true rfl, Nat.le_of_ble_eq_true rfl⟩) (sg_preS hA hK hP hS hZ) rfl rfl hl.1 rfl (lv_room (Nat.le_of_ble_eq_true rfl)) dX12_bytesIs_1 ⟨Nat.le_refl _, Nat.le_refl _⟩) hA hS (fun r_4 f_1 L_2 Q_3 H locs hq hP hS => ?_)
  obtain ⟨⟨ef9, eL9, eQ9⟩, hq⟩ := hq
  rw [ef9, eL9, eQ9] at hP; clear ef9 eL9 eQ9
  rcases hq with ⟨rfl, hq⟩ | ⟨rfl, hq⟩
  · skip
    have q_5 := hq
    refine lv_if_ne (tgt := 11) hx hb dX12_bytesIs_4 (by decide) (fun c => ?_) (fun c => absurd c (by decide))
    refine lv_aload_n hx hb dX12_bytesIs_11 rfl (lv_at hl 0 rfl) ?_
    refine sg_get (ci := 12) (v := .ref (h 22)) (C := RX12) (T := TX12) (N := 55) hx hb hts (fun w h => List.mem_cons_of_mem _ (gx_12 w h)) hown hK hP 0 (by decide) rfl rfl 51 (by decide) (hts _ (List.mem_cons_of_mem _ mw_225)) (fun _ h9 => h9) rfl dX12_bytesIs_12 ?_
    refine lv_iload_n hx hb dX12_bytesIs_15 rfl (lv_at hl 1 rfl) ?_
    refine sg_iald hx hb hK hP 22 (by decide) 0 rfl rfl (i := x0) (vp_in_iff.mpr ⟨by omega, by omega⟩) dX12_bytesIs_16 ?_
    refine lv_topi (fun v_6 ev_6 => ?_)
    have q_7 : v_6.toInt = -1 := by rw [ev_6, f0M_sh (by omega) (by omega)]; decide
    refine lv_if_ge (tgt := 25) hx hb dX12_bytesIs_17 (by decide) (fun c => ?_) (fun c => ?_)
    · skip
      exfalso; have c_8 : 0 ≤ v_6.toInt := (by have z := bn_le c; have k1 : (0 : Int32).toInt = 0 := (by decide); omega); omega
    · skip
      have c_9 : v_6.toInt < 0 := (by have z := bn_nle c; have k1 : (0 : Int32).toInt = 0 := (by decide); omega)
      refine lv_bipush (v := (-11)) hx hb dX12_bytesIs_20 (by decide) ?_
      refine lv_goto (tgt := 42) hx hb dX12_bytesIs_22 (by decide) ?_
      exact hret _ _ _ _ (-11) f0M L0 Q0 dX12_bytesIs_42 hP hS ⟨⟨rfl, rfl, rfl⟩, Or.inl ⟨rfl, by omega⟩⟩
  · skip
    have q_10 := hq
    refine lv_if_ne (tgt := 11) hx hb dX12_bytesIs_4 (by decide) (fun c => absurd c (by decide)) (fun c => ?_)
    refine lv_iconst (v := (-1)) hx hb dX12_bytesIs_7 (by decide) ?_
    refine lv_goto (tgt := 42) hx hb dX12_bytesIs_8 (by decide) ?_
    exact hret _ _ _ _ (-1) f0M L0 Q0 dX12_bytesIs_42 hP hS ⟨⟨rfl, rfl, rfl⟩, Or.inr (⟨rfl, by omega⟩)⟩

set_option maxHeartbeats 4000000 in
set_option maxRecDepth 100000 in
theorem cf_X12_loss (l : Launch) (D : va_G) (ca : Nat → ClassId) (za h : Nat → Nat) (hh : sgH 26 h) (x0 : Int32) (x1 : Int32) (x2 : Int32) (sz : Nat) : Met l yX12_loss gwX12_loss { frames := 2, cells := 0, slots := 0, locals := 47 } (sgP D vwCl (tyX ca) 26 h (eM ca h) zcM za f0M L0 Q0 sz [.ref (h 0), .int x0, .int x1, .int x2]) (sgQi D vwCl 26 h (eM ca h) sz (fun r f1 L1 Q1 => True ∧ ((r = (-1) ∧ (True))))) 0 0 (sgA 26 h sz) := by
  refine sg_ofWi (cc := cX12_loss) (maxL := 4) RX12 (by decide) rfl rfl (Nat.le_of_ble_eq_true rfl) ?_
  intro p e s m below meth cd Qz ls hx hb hml hown hts hK hZ hP hS hl hret
  have hA := sgY.self (n := 26) (h := h) (sz := s.heap.size)
  have hl : lv_has ls 4 [(0, .ref (h 0)), (1, .int x0), (2, .int x1), (3, .int x2)] := hl
  obtain ⟨H, hH⟩ : ∃ z : Heap, z = s.heap := ⟨_, rfl⟩
  obtain ⟨locs, hlo⟩ : ∃ z : List Loc, z = [] := ⟨_, rfl⟩
  have hP : va_P D vwCl (sgw 26 h (eM ca h) f0M L0 Q0) H := by rw [hH]; exact hP
  have hS : va_S (sgA 26 h s.heap.size) s.heap H locs := by rw [hH, hlo]; exact hS
  suffices hgo : W p l e ({ frames := 2, cells := 0, slots := 0, locals := 47 }) s m ([.ref (h 0), .int x0, .int x1, .int x2] : List Value).toArray below meth cd H locs 0 0 Qz (F0 m 0 ls []) by rw [hH, hlo] at hgo; exact hgo
  refine lv_aload_n hx hb dX12_loss_0 rfl (lv_at hl 0 rfl) ?_
  refine lv_iload_n hx hb dX12_loss_1 rfl (lv_at hl 1 rfl) ?_
  obtain ⟨w_1, ew_1⟩ : ∃ z : Int64, z = x0.toInt64 := ⟨_, rfl⟩
  have q_2 : w_1.toInt = x0.toInt := by rw [ew_1]; exact Int32.toInt_toInt64 _
  refine lv_i2l (v := w_1) hx hb dX12_loss_2 ew_1.symm ?_
  refine sg_calli (va_runV (As := [.long w_1]) (rest := []) ⟨hx, hb, hml, hown, hts⟩ (cf_X12_isSitter l D ca za h hh f0M L0 Q0 w_1 rfl H.size) (cwV 1 hts (gw_V (fun _ h => List.mem_cons_of_mem _ h) mw_227 mw_228 mw_229 mw_217 mw_226) rfl rfl rfl (by decide +kernel) ⟨Nat.le_of_ble_eq_true rfl, Nat.le_of_ble_eq_true rfl⟩) (sg_preV (ci := 12) (C := RX12) (T := TX12) (N := 55) hA hK hP hS hZ 0 (by decide) rfl rfl) rfl rfl hl.1 rfl (lv_room (Nat.le_of_ble_eq_true rfl)) dX12_loss_3 ⟨Nat.le_refl _, Nat.le_refl _⟩) hA hS (fun r_6 f_3 L_4 Q_5 H locs hq hP hS => ?_)
  obtain ⟨⟨ef9, eL9, eQ9⟩, hq⟩ := hq
  rw [ef9, eL9, eQ9] at hP; clear ef9 eL9 eQ9
  obtain ⟨rfl, hq⟩ := hq
  have q_7 := hq
  refine lv_if_eq (tgt := 34) hx hb dX12_loss_6 (by decide) (fun c => ?_) (fun c => absurd c (by decide))
  refine lv_iconst (v := (-1)) hx hb dX12_loss_34 (by decide) ?_
  exact hret _ _ _ _ (-1) f0M L0 Q0 dX12_loss_35 hP hS ⟨trivial, ⟨rfl, trivial⟩⟩

set_option maxHeartbeats 4000000 in
set_option maxRecDepth 100000 in
theorem cf_X12_never (l : Launch) (D : va_G) (ca : Nat → ClassId) (za h : Nat → Nat) (hh : sgH 26 h) (x0 : Int32) (x1 : Int32) (x2 : Int32) (sz : Nat) : Met l yX12_never gwX12_never { frames := 3, cells := 0, slots := 0, locals := 66 } (sgP D vwCl (tyX ca) 26 h (eM ca h) zcM za f0M L0 Q0 sz [.ref (h 0), .int x0, .int x1, .int x2]) (sgQi D vwCl 26 h (eM ca h) sz (fun r f1 L1 Q1 => True ∧ ((r = (-11) ∧ ((0 ≤ x0.toInt ∧ x0.toInt ≤ 5) ∧ (0 ≤ x1.toInt ∧ x1.toInt ≤ 2) ∧ (0 ≤ x2.toInt ∧ x2.toInt ≤ 60))) ∨ (r = (-1) ∧ (¬ ((0 ≤ x0.toInt ∧ x0.toInt ≤ 5) ∧ (0 ≤ x1.toInt ∧ x1.toInt ≤ 2) ∧ (0 ≤ x2.toInt ∧ x2.toInt ≤ 60))))))) 0 0 (sgA 26 h sz) := by
  refine sg_ofWi (cc := cX12_never) (maxL := 4) RX12 (by decide) rfl rfl (Nat.le_of_ble_eq_true rfl) ?_
  intro p e s m below meth cd Qz ls hx hb hml hown hts hK hZ hP hS hl hret
  have hA := sgY.self (n := 26) (h := h) (sz := s.heap.size)
  have hl : lv_has ls 4 [(0, .ref (h 0)), (1, .int x0), (2, .int x1), (3, .int x2)] := hl
  obtain ⟨H, hH⟩ : ∃ z : Heap, z = s.heap := ⟨_, rfl⟩
  obtain ⟨locs, hlo⟩ : ∃ z : List Loc, z = [] := ⟨_, rfl⟩
  have hP : va_P D vwCl (sgw 26 h (eM ca h) f0M L0 Q0) H := by rw [hH]; exact hP
  have hS : va_S (sgA 26 h s.heap.size) s.heap H locs := by rw [hH, hlo]; exact hS
  suffices hgo : W p l e ({ frames := 3, cells := 0, slots := 0, locals := 66 }) s m ([.ref (h 0), .int x0, .int x1, .int x2] : List Value).toArray below meth cd H locs 0 0 Qz (F0 m 0 ls []) by rw [hH, hlo] at hgo; exact hgo
  refine lv_aload_n hx hb dX12_never_0 rfl (lv_at hl 0 rfl) ?_
  refine lv_iload_n hx hb dX12_never_1 rfl (lv_at hl 1 rfl) ?_
  refine sg_calli (va_runV (As := [.int x0]) (rest := []) ⟨hx, hb, hml, hown, hts⟩ (cf_X12_bytesIs l D ca za h hh x0 H.size) (cwV 1 hts (gw_V (fun _ h => List.mem_cons_of_mem _ h) mw_231 mw_232 mw_233 mw_217 mw_230) rfl rfl rfl (by decide +kernel) ⟨Nat.le_of_ble_eq_true rfl, Nat.le_of_ble_eq_true rfl⟩) (sg_preV (ci := 12) (C := RX12) (T := TX12) (N := 55) hA hK hP hS hZ 0 (by decide) rfl rfl) rfl rfl hl.1 rfl (lv_room (Nat.le_of_ble_eq_true rfl)) dX12_never_2 ⟨Nat.le_refl _, Nat.le_refl _⟩) hA hS (fun r_4 f_1 L_2 Q_3 H locs hq hP hS => ?_)
  obtain ⟨⟨ef9, eL9, eQ9⟩, hq⟩ := hq
  rw [ef9, eL9, eQ9] at hP; clear ef9 eL9 eQ9
  rcases hq with ⟨rfl, hq⟩ | ⟨rfl, hq⟩
  · skip
    have q_5 := hq
    refine lv_iconst (v := (-1)) hx hb dX12_never_5 (by decide) ?_
    refine lv_icmp_eq (tgt := 24) hx hb dX12_never_6 (by decide) (fun c => absurd c (by decide)) (fun c => ?_)
    refine lv_iload_n hx hb dX12_never_9 rfl (lv_at hl 2 rfl) ?_
    refine sg_calli (va_runS (As := [.int x1]) (rest := []) ⟨hx, hb, hml, hown, hts⟩ (cf_X12_isPart l D ca za h hh f0M L0 Q0 x1 H.size) (va_cwS 1 hts (gw_S (fun _ h => List.mem_cons_of_mem _ h) mw_235 mw_236 mw_217 mw_234) rfl rfl rfl (by decide +kernel) ⟨Nat.le_of_ble_eq_true rfl, Nat.le_of_ble_eq_true rfl⟩) (sg_preS hA hK hP hS hZ) rfl rfl hl.1 rfl (lv_room (Nat.le_of_ble_eq_true rfl)) dX12_never_10 ⟨Nat.le_refl _, Nat.le_refl _⟩) hA hS (fun r_9 f_6 L_7 Q_8 H locs hq hP hS => ?_)
    obtain ⟨⟨ef9, eL9, eQ9⟩, hq⟩ := hq
    rw [ef9, eL9, eQ9] at hP; clear ef9 eL9 eQ9
    rcases hq with ⟨rfl, hq⟩ | ⟨rfl, hq⟩
    · skip
      have q_10 := hq
      refine lv_if_eq (tgt := 24) hx hb dX12_never_13 (by decide) (fun c => absurd c (by decide)) (fun c => ?_)
      refine lv_iload_n hx hb dX12_never_16 rfl (lv_at hl 3 rfl) ?_
      obtain ⟨w_11, ew_11⟩ : ∃ z : Int64, z = x2.toInt64 := ⟨_, rfl⟩
      have q_12 : w_11.toInt = x2.toInt := by rw [ew_11]; exact Int32.toInt_toInt64 _
      refine lv_i2l (v := w_11) hx hb dX12_never_17 ew_11.symm ?_
      refine sg_calli (va_runS (As := [.long w_11]) (rest := []) ⟨hx, hb, hml, hown, hts⟩ (cf_X12_isSetting l D ca za h hh f0M L0 Q0 w_11 H.size) (va_cwS 1 hts (gw_S (fun _ h => List.mem_cons_of_mem _ h) mw_238 mw_239 mw_217 mw_237) rfl rfl rfl (by decide +kernel) ⟨Nat.le_of_ble_eq_true rfl, Nat.le_of_ble_eq_true rfl⟩) (sg_preS hA hK hP hS hZ) rfl rfl hl.1 rfl (lv_room (Nat.le_of_ble_eq_true rfl)) dX12_never_18 ⟨Nat.le_refl _, Nat.le_refl _⟩) hA hS (fun r_16 f_13 L_14 Q_15 H locs hq hP hS => ?_)
      obtain ⟨⟨ef9, eL9, eQ9⟩, hq⟩ := hq
      rw [ef9, eL9, eQ9] at hP; clear ef9 eL9 eQ9
      rcases hq with ⟨rfl, hq⟩ | ⟨rfl, hq⟩
      · skip
        have q_17 := hq
        refine lv_if_ne (tgt := 26) hx hb dX12_never_21 (by decide) (fun c => ?_) (fun c => absurd c (by decide))
        refine lv_aload_n hx hb dX12_never_26 rfl (lv_at hl 0 rfl) ?_
        refine lv_iload_n hx hb dX12_never_27 rfl (lv_at hl 1 rfl) ?_
        refine sg_calli (va_runV (As := [.int x0]) (rest := []) ⟨hx, hb, hml, hown, hts⟩ (cf_X12_bytesIs l D ca za h hh x0 H.size) (cwV 1 hts (gw_V (fun _ h => List.mem_cons_of_mem _ h) mw_231 mw_232 mw_233 mw_217 mw_230) rfl rfl rfl (by decide +kernel) ⟨Nat.le_of_ble_eq_true rfl, Nat.le_of_ble_eq_true rfl⟩) (sg_preV (ci := 12) (C := RX12) (T := TX12) (N := 55) hA hK hP hS hZ 0 (by decide) rfl rfl) rfl rfl hl.1 rfl (lv_room (Nat.le_of_ble_eq_true rfl)) dX12_never_28 ⟨Nat.le_refl _, Nat.le_refl _⟩) hA hS (fun r_21 f_18 L_19 Q_20 H locs hq hP hS => ?_)
        obtain ⟨⟨ef9, eL9, eQ9⟩, hq⟩ := hq
        rw [ef9, eL9, eQ9] at hP; clear ef9 eL9 eQ9
        rcases hq with ⟨rfl, hq⟩ | ⟨rfl, hq⟩
        · skip
          have q_22 := hq
          refine lv_if_ge (tgt := 42) hx hb dX12_never_31 (by decide) (fun c => absurd c (by decide)) (fun c => ?_)
          refine lv_aload_n hx hb dX12_never_34 rfl (lv_at hl 0 rfl) ?_
          refine lv_iload_n hx hb dX12_never_35 rfl (lv_at hl 1 rfl) ?_
          refine sg_calli (va_runV (As := [.int x0]) (rest := []) ⟨hx, hb, hml, hown, hts⟩ (cf_X12_bytesIs l D ca za h hh x0 H.size) (cwV 1 hts (gw_V (fun _ h => List.mem_cons_of_mem _ h) mw_231 mw_232 mw_233 mw_217 mw_230) rfl rfl rfl (by decide +kernel) ⟨Nat.le_of_ble_eq_true rfl, Nat.le_of_ble_eq_true rfl⟩) (sg_preV (ci := 12) (C := RX12) (T := TX12) (N := 55) hA hK hP hS hZ 0 (by decide) rfl rfl) rfl rfl hl.1 rfl (lv_room (Nat.le_of_ble_eq_true rfl)) dX12_never_36 ⟨Nat.le_refl _, Nat.le_refl _⟩) hA hS (fun r_26 f_23 L_24 Q_25 H locs hq hP hS => ?_)
          obtain ⟨⟨ef9, eL9, eQ9⟩, hq⟩ := hq
          rw [ef9, eL9, eQ9] at hP; clear ef9 eL9 eQ9
          rcases hq with ⟨rfl, hq⟩ | ⟨rfl, hq⟩
          · skip
            have q_27 := hq
            refine lv_goto (tgt := 49) hx hb dX12_never_39 (by decide) ?_
            exact hret _ _ _ _ (-11) f0M L0 Q0 dX12_never_49 hP hS ⟨trivial, Or.inl ⟨rfl, by omega⟩⟩
          · skip
            have q_28 := hq
            refine lv_goto (tgt := 49) hx hb dX12_never_39 (by decide) ?_
            exact hret _ _ _ _ (-1) f0M L0 Q0 dX12_never_49 hP hS ⟨trivial, Or.inr (⟨rfl, by omega⟩)⟩
        · skip
          have q_29 := hq
          refine lv_if_ge (tgt := 42) hx hb dX12_never_31 (by decide) (fun c => absurd c (by decide)) (fun c => ?_)
          refine lv_aload_n hx hb dX12_never_34 rfl (lv_at hl 0 rfl) ?_
          refine lv_iload_n hx hb dX12_never_35 rfl (lv_at hl 1 rfl) ?_
          refine sg_calli (va_runV (As := [.int x0]) (rest := []) ⟨hx, hb, hml, hown, hts⟩ (cf_X12_bytesIs l D ca za h hh x0 H.size) (cwV 1 hts (gw_V (fun _ h => List.mem_cons_of_mem _ h) mw_231 mw_232 mw_233 mw_217 mw_230) rfl rfl rfl (by decide +kernel) ⟨Nat.le_of_ble_eq_true rfl, Nat.le_of_ble_eq_true rfl⟩) (sg_preV (ci := 12) (C := RX12) (T := TX12) (N := 55) hA hK hP hS hZ 0 (by decide) rfl rfl) rfl rfl hl.1 rfl (lv_room (Nat.le_of_ble_eq_true rfl)) dX12_never_36 ⟨Nat.le_refl _, Nat.le_refl _⟩) hA hS (fun r_33 f_30 L_31 Q_32 H locs hq hP hS => ?_)
          obtain ⟨⟨ef9, eL9, eQ9⟩, hq⟩ := hq
          rw [ef9, eL9, eQ9] at hP; clear ef9 eL9 eQ9
          rcases hq with ⟨rfl, hq⟩ | ⟨rfl, hq⟩
          · skip
            have q_34 := hq
            refine lv_goto (tgt := 49) hx hb dX12_never_39 (by decide) ?_
            exact hret _ _ _ _ (-11) f0M L0 Q0 dX12_never_49 hP hS ⟨trivial, Or.inl ⟨rfl, by omega⟩⟩
          · skip
            have q_35 := hq
            refine lv_goto (tgt := 49) hx hb dX12_never_39 (by decide) ?_
            exact hret _ _ _ _ (-1) f0M L0 Q0 dX12_never_49 hP hS ⟨trivial, Or.inr (⟨rfl, by omega⟩)⟩
      · skip
        have q_36 := hq
        refine lv_if_ne (tgt := 26) hx hb dX12_never_21 (by decide) (fun c => absurd c (by decide)) (fun c => ?_)
        refine lv_iconst (v := (-1)) hx hb dX12_never_24 (by decide) ?_
        exact hret _ _ _ _ (-1) f0M L0 Q0 dX12_never_25 hP hS ⟨trivial, Or.inr (⟨rfl, by omega⟩)⟩
    · skip
      have q_37 := hq
      refine lv_if_eq (tgt := 24) hx hb dX12_never_13 (by decide) (fun c => ?_) (fun c => absurd c (by decide))
      refine lv_iconst (v := (-1)) hx hb dX12_never_24 (by decide) ?_
      exact hret _ _ _ _ (-1) f0M L0 Q0 dX12_never_25 hP hS ⟨trivial, Or.inr (⟨rfl, by omega⟩)⟩
  · skip
    have q_38 := hq
    refine lv_iconst (v := (-1)) hx hb dX12_never_5 (by decide) ?_
    refine lv_icmp_eq (tgt := 24) hx hb dX12_never_6 (by decide) (fun c => ?_) (fun c => absurd c (by decide))
    refine lv_iconst (v := (-1)) hx hb dX12_never_24 (by decide) ?_
    exact hret _ _ _ _ (-1) f0M L0 Q0 dX12_never_25 hP hS ⟨trivial, Or.inr (⟨rfl, by omega⟩)⟩

set_option maxHeartbeats 4000000 in
set_option maxRecDepth 100000 in
theorem cf_X12_best (l : Launch) (D : va_G) (ca : Nat → ClassId) (za h : Nat → Nat) (hh : sgH 26 h) (x0 : Int32) (x1 : Int32) (x2 : Int32) (sz : Nat) : Met l yX12_best gwX12_best { frames := 3, cells := 0, slots := 0, locals := 66 } (sgP D vwCl (tyX ca) 26 h (eM ca h) zcM za f0M L0 Q0 sz [.ref (h 0), .int x0, .int x1, .int x2]) (sgQi D vwCl 26 h (eM ca h) sz (fun r f1 L1 Q1 => True ∧ ((r = (-11) ∧ ((0 ≤ x0.toInt ∧ x0.toInt ≤ 5) ∧ (0 ≤ x1.toInt ∧ x1.toInt ≤ 2) ∧ (0 ≤ x2.toInt ∧ x2.toInt ≤ 3))) ∨ (r = (-1) ∧ (¬ ((0 ≤ x0.toInt ∧ x0.toInt ≤ 5) ∧ (0 ≤ x1.toInt ∧ x1.toInt ≤ 2) ∧ (0 ≤ x2.toInt ∧ x2.toInt ≤ 3))))))) 0 0 (sgA 26 h sz) := by
  refine sg_ofWi (cc := cX12_best) (maxL := 8) RX12 (by decide) rfl rfl (Nat.le_of_ble_eq_true rfl) ?_
  intro p e s m below meth cd Qz ls hx hb hml hown hts hK hZ hP hS hl hret
  have hA := sgY.self (n := 26) (h := h) (sz := s.heap.size)
  have hl : lv_has ls 8 [(0, .ref (h 0)), (1, .int x0), (2, .int x1), (3, .int x2)] := hl
  obtain ⟨H, hH⟩ : ∃ z : Heap, z = s.heap := ⟨_, rfl⟩
  obtain ⟨locs, hlo⟩ : ∃ z : List Loc, z = [] := ⟨_, rfl⟩
  have hP : va_P D vwCl (sgw 26 h (eM ca h) f0M L0 Q0) H := by rw [hH]; exact hP
  have hS : va_S (sgA 26 h s.heap.size) s.heap H locs := by rw [hH, hlo]; exact hS
  suffices hgo : W p l e ({ frames := 3, cells := 0, slots := 0, locals := 66 }) s m ([.ref (h 0), .int x0, .int x1, .int x2] : List Value).toArray below meth cd H locs 0 0 Qz (F0 m 0 ls []) by rw [hH, hlo] at hgo; exact hgo
  refine lv_aload_n hx hb dX12_best_0 rfl (lv_at hl 0 rfl) ?_
  refine lv_iload_n hx hb dX12_best_1 rfl (lv_at hl 1 rfl) ?_
  refine sg_calli (va_runV (As := [.int x0]) (rest := []) ⟨hx, hb, hml, hown, hts⟩ (cf_X12_bytesIs l D ca za h hh x0 H.size) (cwV 1 hts (gw_V (fun _ h => List.mem_cons_of_mem _ h) mw_231 mw_232 mw_233 mw_217 mw_230) rfl rfl rfl (by decide +kernel) ⟨Nat.le_of_ble_eq_true rfl, Nat.le_of_ble_eq_true rfl⟩) (sg_preV (ci := 12) (C := RX12) (T := TX12) (N := 55) hA hK hP hS hZ 0 (by decide) rfl rfl) rfl rfl hl.1 rfl (lv_room (Nat.le_of_ble_eq_true rfl)) dX12_best_2 ⟨Nat.le_refl _, Nat.le_refl _⟩) hA hS (fun r_4 f_1 L_2 Q_3 H locs hq hP hS => ?_)
  obtain ⟨⟨ef9, eL9, eQ9⟩, hq⟩ := hq
  rw [ef9, eL9, eQ9] at hP; clear ef9 eL9 eQ9
  rcases hq with ⟨rfl, hq⟩ | ⟨rfl, hq⟩
  · skip
    have q_5 := hq
    refine lv_iconst (v := (-1)) hx hb dX12_best_5 (by decide) ?_
    refine lv_icmp_eq (tgt := 28) hx hb dX12_best_6 (by decide) (fun c => absurd c (by decide)) (fun c => ?_)
    refine lv_iload_n hx hb dX12_best_9 rfl (lv_at hl 2 rfl) ?_
    refine sg_calli (va_runS (As := [.int x1]) (rest := []) ⟨hx, hb, hml, hown, hts⟩ (cf_X12_isPart l D ca za h hh f0M L0 Q0 x1 H.size) (va_cwS 1 hts (gw_S (fun _ h => List.mem_cons_of_mem _ h) mw_235 mw_236 mw_217 mw_234) rfl rfl rfl (by decide +kernel) ⟨Nat.le_of_ble_eq_true rfl, Nat.le_of_ble_eq_true rfl⟩) (sg_preS hA hK hP hS hZ) rfl rfl hl.1 rfl (lv_room (Nat.le_of_ble_eq_true rfl)) dX12_best_10 ⟨Nat.le_refl _, Nat.le_refl _⟩) hA hS (fun r_9 f_6 L_7 Q_8 H locs hq hP hS => ?_)
    obtain ⟨⟨ef9, eL9, eQ9⟩, hq⟩ := hq
    rw [ef9, eL9, eQ9] at hP; clear ef9 eL9 eQ9
    rcases hq with ⟨rfl, hq⟩ | ⟨rfl, hq⟩
    · skip
      have q_10 := hq
      refine lv_if_eq (tgt := 28) hx hb dX12_best_13 (by decide) (fun c => absurd c (by decide)) (fun c => ?_)
      refine lv_iload_n hx hb dX12_best_16 rfl (lv_at hl 3 rfl) ?_
      obtain ⟨w_11, ew_11⟩ : ∃ z : Int64, z = x2.toInt64 := ⟨_, rfl⟩
      have q_12 : w_11.toInt = x2.toInt := by rw [ew_11]; exact Int32.toInt_toInt64 _
      refine lv_i2l (v := w_11) hx hb dX12_best_17 ew_11.symm ?_
      refine lv_lconst (v := 0) hx hb dX12_best_18 (by decide) ?_
      refine lv_ldc2 (v := 3) hx hb hown (hts _ (List.mem_cons_of_mem _ mw_240)) dX12_best_19 ?_
      refine sg_calli (va_runS (As := [.long w_11, .long 0, .long 3]) (rest := []) ⟨hx, hb, hml, hown, hts⟩ (cf_X12_within l D ca za h hh f0M L0 Q0 w_11 0 3 H.size) (va_cwS 3 hts (gw_S (fun _ h => List.mem_cons_of_mem _ h) mw_215 mw_216 mw_217 mw_214) rfl rfl rfl (by decide +kernel) ⟨Nat.le_of_ble_eq_true rfl, Nat.le_of_ble_eq_true rfl⟩) (sg_preS hA hK hP hS hZ) rfl rfl hl.1 rfl (lv_room (Nat.le_of_ble_eq_true rfl)) dX12_best_22 ⟨Nat.le_refl _, Nat.le_refl _⟩) hA hS (fun r_16 f_13 L_14 Q_15 H locs hq hP hS => ?_)
      obtain ⟨⟨ef9, eL9, eQ9⟩, hq⟩ := hq
      rw [ef9, eL9, eQ9] at hP; clear ef9 eL9 eQ9
      have k_17 : (0 : Int64).toInt = 0 := by decide
      have k_18 : (3 : Int64).toInt = 3 := by decide
      rcases hq with ⟨rfl, hq⟩ | ⟨rfl, hq⟩
      · skip
        have q_19 := hq
        refine lv_if_ne (tgt := 30) hx hb dX12_best_25 (by decide) (fun c => ?_) (fun c => absurd c (by decide))
        refine lv_aload_n hx hb dX12_best_30 rfl (lv_at hl 0 rfl) ?_
        refine lv_iload_n hx hb dX12_best_31 rfl (lv_at hl 1 rfl) ?_
        refine sg_calli (va_runV (As := [.int x0]) (rest := []) ⟨hx, hb, hml, hown, hts⟩ (cf_X12_bytesIs l D ca za h hh x0 H.size) (cwV 1 hts (gw_V (fun _ h => List.mem_cons_of_mem _ h) mw_231 mw_232 mw_233 mw_217 mw_230) rfl rfl rfl (by decide +kernel) ⟨Nat.le_of_ble_eq_true rfl, Nat.le_of_ble_eq_true rfl⟩) (sg_preV (ci := 12) (C := RX12) (T := TX12) (N := 55) hA hK hP hS hZ 0 (by decide) rfl rfl) rfl rfl hl.1 rfl (lv_room (Nat.le_of_ble_eq_true rfl)) dX12_best_32 ⟨Nat.le_refl _, Nat.le_refl _⟩) hA hS (fun r_23 f_20 L_21 Q_22 H locs hq hP hS => ?_)
        obtain ⟨⟨ef9, eL9, eQ9⟩, hq⟩ := hq
        rw [ef9, eL9, eQ9] at hP; clear ef9 eL9 eQ9
        rcases hq with ⟨rfl, hq⟩ | ⟨rfl, hq⟩
        · skip
          have q_24 := hq
          refine lv_if_ge (tgt := 44) hx hb dX12_best_35 (by decide) (fun c => absurd c (by decide)) (fun c => ?_)
          refine lv_aload_n hx hb dX12_best_38 rfl (lv_at hl 0 rfl) ?_
          refine lv_iload_n hx hb dX12_best_39 rfl (lv_at hl 1 rfl) ?_
          refine sg_calli (va_runV (As := [.int x0]) (rest := []) ⟨hx, hb, hml, hown, hts⟩ (cf_X12_bytesIs l D ca za h hh x0 H.size) (cwV 1 hts (gw_V (fun _ h => List.mem_cons_of_mem _ h) mw_231 mw_232 mw_233 mw_217 mw_230) rfl rfl rfl (by decide +kernel) ⟨Nat.le_of_ble_eq_true rfl, Nat.le_of_ble_eq_true rfl⟩) (sg_preV (ci := 12) (C := RX12) (T := TX12) (N := 55) hA hK hP hS hZ 0 (by decide) rfl rfl) rfl rfl hl.1 rfl (lv_room (Nat.le_of_ble_eq_true rfl)) dX12_best_40 ⟨Nat.le_refl _, Nat.le_refl _⟩) hA hS (fun r_28 f_25 L_26 Q_27 H locs hq hP hS => ?_)
          obtain ⟨⟨ef9, eL9, eQ9⟩, hq⟩ := hq
          rw [ef9, eL9, eQ9] at hP; clear ef9 eL9 eQ9
          rcases hq with ⟨rfl, hq⟩ | ⟨rfl, hq⟩
          · skip
            have q_29 := hq
            exact hret _ _ _ _ (-11) f0M L0 Q0 dX12_best_43 hP hS ⟨trivial, Or.inl ⟨rfl, by omega⟩⟩
          · skip
            have q_30 := hq
            exact hret _ _ _ _ (-1) f0M L0 Q0 dX12_best_43 hP hS ⟨trivial, Or.inr (⟨rfl, by omega⟩)⟩
        · skip
          have q_31 := hq
          refine lv_if_ge (tgt := 44) hx hb dX12_best_35 (by decide) (fun c => absurd c (by decide)) (fun c => ?_)
          refine lv_aload_n hx hb dX12_best_38 rfl (lv_at hl 0 rfl) ?_
          refine lv_iload_n hx hb dX12_best_39 rfl (lv_at hl 1 rfl) ?_
          refine sg_calli (va_runV (As := [.int x0]) (rest := []) ⟨hx, hb, hml, hown, hts⟩ (cf_X12_bytesIs l D ca za h hh x0 H.size) (cwV 1 hts (gw_V (fun _ h => List.mem_cons_of_mem _ h) mw_231 mw_232 mw_233 mw_217 mw_230) rfl rfl rfl (by decide +kernel) ⟨Nat.le_of_ble_eq_true rfl, Nat.le_of_ble_eq_true rfl⟩) (sg_preV (ci := 12) (C := RX12) (T := TX12) (N := 55) hA hK hP hS hZ 0 (by decide) rfl rfl) rfl rfl hl.1 rfl (lv_room (Nat.le_of_ble_eq_true rfl)) dX12_best_40 ⟨Nat.le_refl _, Nat.le_refl _⟩) hA hS (fun r_35 f_32 L_33 Q_34 H locs hq hP hS => ?_)
          obtain ⟨⟨ef9, eL9, eQ9⟩, hq⟩ := hq
          rw [ef9, eL9, eQ9] at hP; clear ef9 eL9 eQ9
          rcases hq with ⟨rfl, hq⟩ | ⟨rfl, hq⟩
          · skip
            have q_36 := hq
            exact hret _ _ _ _ (-11) f0M L0 Q0 dX12_best_43 hP hS ⟨trivial, Or.inl ⟨rfl, by omega⟩⟩
          · skip
            have q_37 := hq
            exact hret _ _ _ _ (-1) f0M L0 Q0 dX12_best_43 hP hS ⟨trivial, Or.inr (⟨rfl, by omega⟩)⟩
      · skip
        have q_38 := hq
        refine lv_if_ne (tgt := 30) hx hb dX12_best_25 (by decide) (fun c => absurd c (by decide)) (fun c => ?_)
        refine lv_iconst (v := (-1)) hx hb dX12_best_28 (by decide) ?_
        exact hret _ _ _ _ (-1) f0M L0 Q0 dX12_best_29 hP hS ⟨trivial, Or.inr (⟨rfl, by omega⟩)⟩
    · skip
      have q_39 := hq
      refine lv_if_eq (tgt := 28) hx hb dX12_best_13 (by decide) (fun c => ?_) (fun c => absurd c (by decide))
      refine lv_iconst (v := (-1)) hx hb dX12_best_28 (by decide) ?_
      exact hret _ _ _ _ (-1) f0M L0 Q0 dX12_best_29 hP hS ⟨trivial, Or.inr (⟨rfl, by omega⟩)⟩
  · skip
    have q_40 := hq
    refine lv_iconst (v := (-1)) hx hb dX12_best_5 (by decide) ?_
    refine lv_icmp_eq (tgt := 28) hx hb dX12_best_6 (by decide) (fun c => ?_) (fun c => absurd c (by decide))
    refine lv_iconst (v := (-1)) hx hb dX12_best_28 (by decide) ?_
    exact hret _ _ _ _ (-1) f0M L0 Q0 dX12_best_29 hP hS ⟨trivial, Or.inr (⟨rfl, by omega⟩)⟩

set_option maxHeartbeats 4000000 in
set_option maxRecDepth 100000 in
theorem cf_X12_middle (l : Launch) (D : va_G) (ca : Nat → ClassId) (za h : Nat → Nat) (hh : sgH 26 h) (x0 : Int32) (x1 : Int32) (sz : Nat) : Met l yX12_middle gwX12_middle { frames := 3, cells := 0, slots := 0, locals := 66 } (sgP D vwCl (tyX ca) 26 h (eM ca h) zcM za f0M L0 Q0 sz [.ref (h 0), .int x0, .int x1]) (sgQi D vwCl 26 h (eM ca h) sz (fun r f1 L1 Q1 => True ∧ ((r = (-11) ∧ ((0 ≤ x0.toInt ∧ x0.toInt ≤ 5) ∧ (0 ≤ x1.toInt ∧ x1.toInt ≤ 2))) ∨ (r = (-1) ∧ (¬ ((0 ≤ x0.toInt ∧ x0.toInt ≤ 5) ∧ (0 ≤ x1.toInt ∧ x1.toInt ≤ 2))))))) 0 0 (sgA 26 h sz) := by
  refine sg_ofWi (cc := cX12_middle) (maxL := 5) RX12 (by decide) rfl rfl (Nat.le_of_ble_eq_true rfl) ?_
  intro p e s m below meth cd Qz ls hx hb hml hown hts hK hZ hP hS hl hret
  have hA := sgY.self (n := 26) (h := h) (sz := s.heap.size)
  have hl : lv_has ls 5 [(0, .ref (h 0)), (1, .int x0), (2, .int x1)] := hl
  obtain ⟨H, hH⟩ : ∃ z : Heap, z = s.heap := ⟨_, rfl⟩
  obtain ⟨locs, hlo⟩ : ∃ z : List Loc, z = [] := ⟨_, rfl⟩
  have hP : va_P D vwCl (sgw 26 h (eM ca h) f0M L0 Q0) H := by rw [hH]; exact hP
  have hS : va_S (sgA 26 h s.heap.size) s.heap H locs := by rw [hH, hlo]; exact hS
  suffices hgo : W p l e ({ frames := 3, cells := 0, slots := 0, locals := 66 }) s m ([.ref (h 0), .int x0, .int x1] : List Value).toArray below meth cd H locs 0 0 Qz (F0 m 0 ls []) by rw [hH, hlo] at hgo; exact hgo
  refine lv_aload_n hx hb dX12_middle_0 rfl (lv_at hl 0 rfl) ?_
  refine lv_iload_n hx hb dX12_middle_1 rfl (lv_at hl 1 rfl) ?_
  refine sg_calli (va_runV (As := [.int x0]) (rest := []) ⟨hx, hb, hml, hown, hts⟩ (cf_X12_bytesIs l D ca za h hh x0 H.size) (cwV 1 hts (gw_V (fun _ h => List.mem_cons_of_mem _ h) mw_231 mw_232 mw_233 mw_217 mw_230) rfl rfl rfl (by decide +kernel) ⟨Nat.le_of_ble_eq_true rfl, Nat.le_of_ble_eq_true rfl⟩) (sg_preV (ci := 12) (C := RX12) (T := TX12) (N := 55) hA hK hP hS hZ 0 (by decide) rfl rfl) rfl rfl hl.1 rfl (lv_room (Nat.le_of_ble_eq_true rfl)) dX12_middle_2 ⟨Nat.le_refl _, Nat.le_refl _⟩) hA hS (fun r_4 f_1 L_2 Q_3 H locs hq hP hS => ?_)
  obtain ⟨⟨ef9, eL9, eQ9⟩, hq⟩ := hq
  rw [ef9, eL9, eQ9] at hP; clear ef9 eL9 eQ9
  rcases hq with ⟨rfl, hq⟩ | ⟨rfl, hq⟩
  · skip
    have q_5 := hq
    refine lv_iconst (v := (-1)) hx hb dX12_middle_5 (by decide) ?_
    refine lv_icmp_eq (tgt := 16) hx hb dX12_middle_6 (by decide) (fun c => absurd c (by decide)) (fun c => ?_)
    refine lv_iload_n hx hb dX12_middle_9 rfl (lv_at hl 2 rfl) ?_
    refine sg_calli (va_runS (As := [.int x1]) (rest := []) ⟨hx, hb, hml, hown, hts⟩ (cf_X12_isPart l D ca za h hh f0M L0 Q0 x1 H.size) (va_cwS 1 hts (gw_S (fun _ h => List.mem_cons_of_mem _ h) mw_235 mw_236 mw_217 mw_234) rfl rfl rfl (by decide +kernel) ⟨Nat.le_of_ble_eq_true rfl, Nat.le_of_ble_eq_true rfl⟩) (sg_preS hA hK hP hS hZ) rfl rfl hl.1 rfl (lv_room (Nat.le_of_ble_eq_true rfl)) dX12_middle_10 ⟨Nat.le_refl _, Nat.le_refl _⟩) hA hS (fun r_9 f_6 L_7 Q_8 H locs hq hP hS => ?_)
    obtain ⟨⟨ef9, eL9, eQ9⟩, hq⟩ := hq
    rw [ef9, eL9, eQ9] at hP; clear ef9 eL9 eQ9
    rcases hq with ⟨rfl, hq⟩ | ⟨rfl, hq⟩
    · skip
      have q_10 := hq
      refine lv_if_ne (tgt := 18) hx hb dX12_middle_13 (by decide) (fun c => ?_) (fun c => absurd c (by decide))
      refine lv_aload_n hx hb dX12_middle_18 rfl (lv_at hl 0 rfl) ?_
      refine lv_iload_n hx hb dX12_middle_19 rfl (lv_at hl 1 rfl) ?_
      refine sg_calli (va_runV (As := [.int x0]) (rest := []) ⟨hx, hb, hml, hown, hts⟩ (cf_X12_bytesIs l D ca za h hh x0 H.size) (cwV 1 hts (gw_V (fun _ h => List.mem_cons_of_mem _ h) mw_231 mw_232 mw_233 mw_217 mw_230) rfl rfl rfl (by decide +kernel) ⟨Nat.le_of_ble_eq_true rfl, Nat.le_of_ble_eq_true rfl⟩) (sg_preV (ci := 12) (C := RX12) (T := TX12) (N := 55) hA hK hP hS hZ 0 (by decide) rfl rfl) rfl rfl hl.1 rfl (lv_room (Nat.le_of_ble_eq_true rfl)) dX12_middle_20 ⟨Nat.le_refl _, Nat.le_refl _⟩) hA hS (fun r_14 f_11 L_12 Q_13 H locs hq hP hS => ?_)
      obtain ⟨⟨ef9, eL9, eQ9⟩, hq⟩ := hq
      rw [ef9, eL9, eQ9] at hP; clear ef9 eL9 eQ9
      rcases hq with ⟨rfl, hq⟩ | ⟨rfl, hq⟩
      · skip
        have q_15 := hq
        refine lv_if_ge (tgt := 32) hx hb dX12_middle_23 (by decide) (fun c => absurd c (by decide)) (fun c => ?_)
        refine lv_aload_n hx hb dX12_middle_26 rfl (lv_at hl 0 rfl) ?_
        refine lv_iload_n hx hb dX12_middle_27 rfl (lv_at hl 1 rfl) ?_
        refine sg_calli (va_runV (As := [.int x0]) (rest := []) ⟨hx, hb, hml, hown, hts⟩ (cf_X12_bytesIs l D ca za h hh x0 H.size) (cwV 1 hts (gw_V (fun _ h => List.mem_cons_of_mem _ h) mw_231 mw_232 mw_233 mw_217 mw_230) rfl rfl rfl (by decide +kernel) ⟨Nat.le_of_ble_eq_true rfl, Nat.le_of_ble_eq_true rfl⟩) (sg_preV (ci := 12) (C := RX12) (T := TX12) (N := 55) hA hK hP hS hZ 0 (by decide) rfl rfl) rfl rfl hl.1 rfl (lv_room (Nat.le_of_ble_eq_true rfl)) dX12_middle_28 ⟨Nat.le_refl _, Nat.le_refl _⟩) hA hS (fun r_19 f_16 L_17 Q_18 H locs hq hP hS => ?_)
        obtain ⟨⟨ef9, eL9, eQ9⟩, hq⟩ := hq
        rw [ef9, eL9, eQ9] at hP; clear ef9 eL9 eQ9
        rcases hq with ⟨rfl, hq⟩ | ⟨rfl, hq⟩
        · skip
          have q_20 := hq
          exact hret _ _ _ _ (-11) f0M L0 Q0 dX12_middle_31 hP hS ⟨trivial, Or.inl ⟨rfl, by omega⟩⟩
        · skip
          have q_21 := hq
          exact hret _ _ _ _ (-1) f0M L0 Q0 dX12_middle_31 hP hS ⟨trivial, Or.inr (⟨rfl, by omega⟩)⟩
      · skip
        have q_22 := hq
        refine lv_if_ge (tgt := 32) hx hb dX12_middle_23 (by decide) (fun c => absurd c (by decide)) (fun c => ?_)
        refine lv_aload_n hx hb dX12_middle_26 rfl (lv_at hl 0 rfl) ?_
        refine lv_iload_n hx hb dX12_middle_27 rfl (lv_at hl 1 rfl) ?_
        refine sg_calli (va_runV (As := [.int x0]) (rest := []) ⟨hx, hb, hml, hown, hts⟩ (cf_X12_bytesIs l D ca za h hh x0 H.size) (cwV 1 hts (gw_V (fun _ h => List.mem_cons_of_mem _ h) mw_231 mw_232 mw_233 mw_217 mw_230) rfl rfl rfl (by decide +kernel) ⟨Nat.le_of_ble_eq_true rfl, Nat.le_of_ble_eq_true rfl⟩) (sg_preV (ci := 12) (C := RX12) (T := TX12) (N := 55) hA hK hP hS hZ 0 (by decide) rfl rfl) rfl rfl hl.1 rfl (lv_room (Nat.le_of_ble_eq_true rfl)) dX12_middle_28 ⟨Nat.le_refl _, Nat.le_refl _⟩) hA hS (fun r_26 f_23 L_24 Q_25 H locs hq hP hS => ?_)
        obtain ⟨⟨ef9, eL9, eQ9⟩, hq⟩ := hq
        rw [ef9, eL9, eQ9] at hP; clear ef9 eL9 eQ9
        rcases hq with ⟨rfl, hq⟩ | ⟨rfl, hq⟩
        · skip
          have q_27 := hq
          exact hret _ _ _ _ (-11) f0M L0 Q0 dX12_middle_31 hP hS ⟨trivial, Or.inl ⟨rfl, by omega⟩⟩
        · skip
          have q_28 := hq
          exact hret _ _ _ _ (-1) f0M L0 Q0 dX12_middle_31 hP hS ⟨trivial, Or.inr (⟨rfl, by omega⟩)⟩
    · skip
      have q_29 := hq
      refine lv_if_ne (tgt := 18) hx hb dX12_middle_13 (by decide) (fun c => absurd c (by decide)) (fun c => ?_)
      refine lv_iconst (v := (-1)) hx hb dX12_middle_16 (by decide) ?_
      exact hret _ _ _ _ (-1) f0M L0 Q0 dX12_middle_17 hP hS ⟨trivial, Or.inr (⟨rfl, by omega⟩)⟩
  · skip
    have q_30 := hq
    refine lv_iconst (v := (-1)) hx hb dX12_middle_5 (by decide) ?_
    refine lv_icmp_eq (tgt := 16) hx hb dX12_middle_6 (by decide) (fun c => ?_) (fun c => absurd c (by decide))
    refine lv_iconst (v := (-1)) hx hb dX12_middle_16 (by decide) ?_
    exact hret _ _ _ _ (-1) f0M L0 Q0 dX12_middle_17 hP hS ⟨trivial, Or.inr (⟨rfl, by omega⟩)⟩

set_option maxHeartbeats 4000000 in
set_option maxRecDepth 100000 in
theorem cf_X12_shifts (l : Launch) (D : va_G) (ca : Nat → ClassId) (za h : Nat → Nat) (hh : sgH 26 h) (x0 : Int32) (x1 : Int32) (x2 : Int32) (sz : Nat) : Met l yX12_shifts gwX12_shifts { frames := 3, cells := 0, slots := 0, locals := 66 } (sgP D vwCl (tyX ca) 26 h (eM ca h) zcM za f0M L0 Q0 sz [.ref (h 0), .int x0, .int x1, .int x2]) (sgQi D vwCl 26 h (eM ca h) sz (fun r f1 L1 Q1 => True ∧ ((r = (-11) ∧ ((0 ≤ x0.toInt ∧ x0.toInt ≤ 5) ∧ (0 ≤ x1.toInt ∧ x1.toInt ≤ 2) ∧ -1 ≤ x2.toInt)) ∨ (r = (-1) ∧ (¬ ((0 ≤ x0.toInt ∧ x0.toInt ≤ 5) ∧ (0 ≤ x1.toInt ∧ x1.toInt ≤ 2) ∧ -1 ≤ x2.toInt)))))) 0 0 (sgA 26 h sz) := by
  refine sg_ofWi (cc := cX12_shifts) (maxL := 10) RX12 (by decide) rfl rfl (Nat.le_of_ble_eq_true rfl) ?_
  intro p e s m below meth cd Qz ls hx hb hml hown hts hK hZ hP hS hl hret
  have hA := sgY.self (n := 26) (h := h) (sz := s.heap.size)
  have hl : lv_has ls 10 [(0, .ref (h 0)), (1, .int x0), (2, .int x1), (3, .int x2)] := hl
  obtain ⟨H, hH⟩ : ∃ z : Heap, z = s.heap := ⟨_, rfl⟩
  obtain ⟨locs, hlo⟩ : ∃ z : List Loc, z = [] := ⟨_, rfl⟩
  have hP : va_P D vwCl (sgw 26 h (eM ca h) f0M L0 Q0) H := by rw [hH]; exact hP
  have hS : va_S (sgA 26 h s.heap.size) s.heap H locs := by rw [hH, hlo]; exact hS
  suffices hgo : W p l e ({ frames := 3, cells := 0, slots := 0, locals := 66 }) s m ([.ref (h 0), .int x0, .int x1, .int x2] : List Value).toArray below meth cd H locs 0 0 Qz (F0 m 0 ls []) by rw [hH, hlo] at hgo; exact hgo
  refine lv_aload_n hx hb dX12_shifts_0 rfl (lv_at hl 0 rfl) ?_
  refine lv_iload_n hx hb dX12_shifts_1 rfl (lv_at hl 1 rfl) ?_
  refine sg_calli (va_runV (As := [.int x0]) (rest := []) ⟨hx, hb, hml, hown, hts⟩ (cf_X12_bytesIs l D ca za h hh x0 H.size) (cwV 1 hts (gw_V (fun _ h => List.mem_cons_of_mem _ h) mw_231 mw_232 mw_233 mw_217 mw_230) rfl rfl rfl (by decide +kernel) ⟨Nat.le_of_ble_eq_true rfl, Nat.le_of_ble_eq_true rfl⟩) (sg_preV (ci := 12) (C := RX12) (T := TX12) (N := 55) hA hK hP hS hZ 0 (by decide) rfl rfl) rfl rfl hl.1 rfl (lv_room (Nat.le_of_ble_eq_true rfl)) dX12_shifts_2 ⟨Nat.le_refl _, Nat.le_refl _⟩) hA hS (fun r_4 f_1 L_2 Q_3 H locs hq hP hS => ?_)
  obtain ⟨⟨ef9, eL9, eQ9⟩, hq⟩ := hq
  rw [ef9, eL9, eQ9] at hP; clear ef9 eL9 eQ9
  rcases hq with ⟨rfl, hq⟩ | ⟨rfl, hq⟩
  · skip
    have q_5 := hq
    refine lv_iconst (v := (-1)) hx hb dX12_shifts_5 (by decide) ?_
    refine lv_icmp_eq (tgt := 21) hx hb dX12_shifts_6 (by decide) (fun c => absurd c (by decide)) (fun c => ?_)
    refine lv_iload_n hx hb dX12_shifts_9 rfl (lv_at hl 2 rfl) ?_
    refine sg_calli (va_runS (As := [.int x1]) (rest := []) ⟨hx, hb, hml, hown, hts⟩ (cf_X12_isPart l D ca za h hh f0M L0 Q0 x1 H.size) (va_cwS 1 hts (gw_S (fun _ h => List.mem_cons_of_mem _ h) mw_235 mw_236 mw_217 mw_234) rfl rfl rfl (by decide +kernel) ⟨Nat.le_of_ble_eq_true rfl, Nat.le_of_ble_eq_true rfl⟩) (sg_preS hA hK hP hS hZ) rfl rfl hl.1 rfl (lv_room (Nat.le_of_ble_eq_true rfl)) dX12_shifts_10 ⟨Nat.le_refl _, Nat.le_refl _⟩) hA hS (fun r_9 f_6 L_7 Q_8 H locs hq hP hS => ?_)
    obtain ⟨⟨ef9, eL9, eQ9⟩, hq⟩ := hq
    rw [ef9, eL9, eQ9] at hP; clear ef9 eL9 eQ9
    rcases hq with ⟨rfl, hq⟩ | ⟨rfl, hq⟩
    · skip
      have q_10 := hq
      refine lv_if_eq (tgt := 21) hx hb dX12_shifts_13 (by decide) (fun c => absurd c (by decide)) (fun c => ?_)
      refine lv_iload_n hx hb dX12_shifts_16 rfl (lv_at hl 3 rfl) ?_
      refine lv_iconst (v := (-1)) hx hb dX12_shifts_17 (by decide) ?_
      refine lv_icmp_ge (tgt := 23) hx hb dX12_shifts_18 (by decide) (fun c => ?_) (fun c => ?_)
      · skip
        have c_11 : (-1) ≤ x2.toInt := (by have z := bn_le c; have k1 : ((-1) : Int32).toInt = (-1) := (by decide); omega)
        refine lv_aload_n hx hb dX12_shifts_23 rfl (lv_at hl 0 rfl) ?_
        refine lv_iload_n hx hb dX12_shifts_24 rfl (lv_at hl 1 rfl) ?_
        refine sg_calli (va_runV (As := [.int x0]) (rest := []) ⟨hx, hb, hml, hown, hts⟩ (cf_X12_bytesIs l D ca za h hh x0 H.size) (cwV 1 hts (gw_V (fun _ h => List.mem_cons_of_mem _ h) mw_231 mw_232 mw_233 mw_217 mw_230) rfl rfl rfl (by decide +kernel) ⟨Nat.le_of_ble_eq_true rfl, Nat.le_of_ble_eq_true rfl⟩) (sg_preV (ci := 12) (C := RX12) (T := TX12) (N := 55) hA hK hP hS hZ 0 (by decide) rfl rfl) rfl rfl hl.1 rfl (lv_room (Nat.le_of_ble_eq_true rfl)) dX12_shifts_25 ⟨Nat.le_refl _, Nat.le_refl _⟩) hA hS (fun r_16 f_13 L_14 Q_15 H locs hq hP hS => ?_)
        obtain ⟨⟨ef9, eL9, eQ9⟩, hq⟩ := hq
        rw [ef9, eL9, eQ9] at hP; clear ef9 eL9 eQ9
        rcases hq with ⟨rfl, hq⟩ | ⟨rfl, hq⟩
        · skip
          have q_17 := hq
          refine lv_if_ge (tgt := 37) hx hb dX12_shifts_28 (by decide) (fun c => absurd c (by decide)) (fun c => ?_)
          refine lv_aload_n hx hb dX12_shifts_31 rfl (lv_at hl 0 rfl) ?_
          refine lv_iload_n hx hb dX12_shifts_32 rfl (lv_at hl 1 rfl) ?_
          refine sg_calli (va_runV (As := [.int x0]) (rest := []) ⟨hx, hb, hml, hown, hts⟩ (cf_X12_bytesIs l D ca za h hh x0 H.size) (cwV 1 hts (gw_V (fun _ h => List.mem_cons_of_mem _ h) mw_231 mw_232 mw_233 mw_217 mw_230) rfl rfl rfl (by decide +kernel) ⟨Nat.le_of_ble_eq_true rfl, Nat.le_of_ble_eq_true rfl⟩) (sg_preV (ci := 12) (C := RX12) (T := TX12) (N := 55) hA hK hP hS hZ 0 (by decide) rfl rfl) rfl rfl hl.1 rfl (lv_room (Nat.le_of_ble_eq_true rfl)) dX12_shifts_33 ⟨Nat.le_refl _, Nat.le_refl _⟩) hA hS (fun r_21 f_18 L_19 Q_20 H locs hq hP hS => ?_)
          obtain ⟨⟨ef9, eL9, eQ9⟩, hq⟩ := hq
          rw [ef9, eL9, eQ9] at hP; clear ef9 eL9 eQ9
          rcases hq with ⟨rfl, hq⟩ | ⟨rfl, hq⟩
          · skip
            have q_22 := hq
            exact hret _ _ _ _ (-11) f0M L0 Q0 dX12_shifts_36 hP hS ⟨trivial, Or.inl ⟨rfl, by omega⟩⟩
          · skip
            have q_23 := hq
            exact hret _ _ _ _ (-1) f0M L0 Q0 dX12_shifts_36 hP hS ⟨trivial, Or.inr (⟨rfl, by omega⟩)⟩
        · skip
          have q_24 := hq
          refine lv_if_ge (tgt := 37) hx hb dX12_shifts_28 (by decide) (fun c => absurd c (by decide)) (fun c => ?_)
          refine lv_aload_n hx hb dX12_shifts_31 rfl (lv_at hl 0 rfl) ?_
          refine lv_iload_n hx hb dX12_shifts_32 rfl (lv_at hl 1 rfl) ?_
          refine sg_calli (va_runV (As := [.int x0]) (rest := []) ⟨hx, hb, hml, hown, hts⟩ (cf_X12_bytesIs l D ca za h hh x0 H.size) (cwV 1 hts (gw_V (fun _ h => List.mem_cons_of_mem _ h) mw_231 mw_232 mw_233 mw_217 mw_230) rfl rfl rfl (by decide +kernel) ⟨Nat.le_of_ble_eq_true rfl, Nat.le_of_ble_eq_true rfl⟩) (sg_preV (ci := 12) (C := RX12) (T := TX12) (N := 55) hA hK hP hS hZ 0 (by decide) rfl rfl) rfl rfl hl.1 rfl (lv_room (Nat.le_of_ble_eq_true rfl)) dX12_shifts_33 ⟨Nat.le_refl _, Nat.le_refl _⟩) hA hS (fun r_28 f_25 L_26 Q_27 H locs hq hP hS => ?_)
          obtain ⟨⟨ef9, eL9, eQ9⟩, hq⟩ := hq
          rw [ef9, eL9, eQ9] at hP; clear ef9 eL9 eQ9
          rcases hq with ⟨rfl, hq⟩ | ⟨rfl, hq⟩
          · skip
            have q_29 := hq
            exact hret _ _ _ _ (-11) f0M L0 Q0 dX12_shifts_36 hP hS ⟨trivial, Or.inl ⟨rfl, by omega⟩⟩
          · skip
            have q_30 := hq
            exact hret _ _ _ _ (-1) f0M L0 Q0 dX12_shifts_36 hP hS ⟨trivial, Or.inr (⟨rfl, by omega⟩)⟩
      · skip
        have c_12 : x2.toInt < (-1) := (by have z := bn_nle c; have k1 : ((-1) : Int32).toInt = (-1) := (by decide); omega)
        refine lv_iconst (v := (-1)) hx hb dX12_shifts_21 (by decide) ?_
        exact hret _ _ _ _ (-1) f0M L0 Q0 dX12_shifts_22 hP hS ⟨trivial, Or.inr (⟨rfl, by omega⟩)⟩
    · skip
      have q_31 := hq
      refine lv_if_eq (tgt := 21) hx hb dX12_shifts_13 (by decide) (fun c => ?_) (fun c => absurd c (by decide))
      refine lv_iconst (v := (-1)) hx hb dX12_shifts_21 (by decide) ?_
      exact hret _ _ _ _ (-1) f0M L0 Q0 dX12_shifts_22 hP hS ⟨trivial, Or.inr (⟨rfl, by omega⟩)⟩
  · skip
    have q_32 := hq
    refine lv_iconst (v := (-1)) hx hb dX12_shifts_5 (by decide) ?_
    refine lv_icmp_eq (tgt := 21) hx hb dX12_shifts_6 (by decide) (fun c => ?_) (fun c => absurd c (by decide))
    refine lv_iconst (v := (-1)) hx hb dX12_shifts_21 (by decide) ?_
    exact hret _ _ _ _ (-1) f0M L0 Q0 dX12_shifts_22 hP hS ⟨trivial, Or.inr (⟨rfl, by omega⟩)⟩

set_option maxHeartbeats 4000000 in
set_option maxRecDepth 100000 in
theorem cf_X12_once (l : Launch) (D : va_G) (ca : Nat → ClassId) (za h : Nat → Nat) (hh : sgH 26 h) (x0 : Int32) (x1 : Int32) (x2 : Int32) (sz : Nat) : Met l yX12_once gwX12_once { frames := 3, cells := 0, slots := 0, locals := 66 } (sgP D vwCl (tyX ca) 26 h (eM ca h) zcM za f0M L0 Q0 sz [.ref (h 0), .int x0, .int x1, .int x2]) (sgQi D vwCl 26 h (eM ca h) sz (fun r f1 L1 Q1 => True ∧ ((r = (-11) ∧ ((0 ≤ x0.toInt ∧ x0.toInt ≤ 5) ∧ (0 ≤ x1.toInt ∧ x1.toInt ≤ 2) ∧ (0 ≤ x2.toInt ∧ x2.toInt ≤ 2))) ∨ (r = (-1) ∧ (¬ ((0 ≤ x0.toInt ∧ x0.toInt ≤ 5) ∧ (0 ≤ x1.toInt ∧ x1.toInt ≤ 2) ∧ (0 ≤ x2.toInt ∧ x2.toInt ≤ 2))))))) 0 0 (sgA 26 h sz) := by
  refine sg_ofWi (cc := cX12_once) (maxL := 13) RX12 (by decide) rfl rfl (Nat.le_of_ble_eq_true rfl) ?_
  intro p e s m below meth cd Qz ls hx hb hml hown hts hK hZ hP hS hl hret
  have hA := sgY.self (n := 26) (h := h) (sz := s.heap.size)
  have hl : lv_has ls 13 [(0, .ref (h 0)), (1, .int x0), (2, .int x1), (3, .int x2)] := hl
  obtain ⟨H, hH⟩ : ∃ z : Heap, z = s.heap := ⟨_, rfl⟩
  obtain ⟨locs, hlo⟩ : ∃ z : List Loc, z = [] := ⟨_, rfl⟩
  have hP : va_P D vwCl (sgw 26 h (eM ca h) f0M L0 Q0) H := by rw [hH]; exact hP
  have hS : va_S (sgA 26 h s.heap.size) s.heap H locs := by rw [hH, hlo]; exact hS
  suffices hgo : W p l e ({ frames := 3, cells := 0, slots := 0, locals := 66 }) s m ([.ref (h 0), .int x0, .int x1, .int x2] : List Value).toArray below meth cd H locs 0 0 Qz (F0 m 0 ls []) by rw [hH, hlo] at hgo; exact hgo
  refine lv_aload_n hx hb dX12_once_0 rfl (lv_at hl 0 rfl) ?_
  refine lv_iload_n hx hb dX12_once_1 rfl (lv_at hl 1 rfl) ?_
  refine sg_calli (va_runV (As := [.int x0]) (rest := []) ⟨hx, hb, hml, hown, hts⟩ (cf_X12_bytesIs l D ca za h hh x0 H.size) (cwV 1 hts (gw_V (fun _ h => List.mem_cons_of_mem _ h) mw_231 mw_232 mw_233 mw_217 mw_230) rfl rfl rfl (by decide +kernel) ⟨Nat.le_of_ble_eq_true rfl, Nat.le_of_ble_eq_true rfl⟩) (sg_preV (ci := 12) (C := RX12) (T := TX12) (N := 55) hA hK hP hS hZ 0 (by decide) rfl rfl) rfl rfl hl.1 rfl (lv_room (Nat.le_of_ble_eq_true rfl)) dX12_once_2 ⟨Nat.le_refl _, Nat.le_refl _⟩) hA hS (fun r_4 f_1 L_2 Q_3 H locs hq hP hS => ?_)
  obtain ⟨⟨ef9, eL9, eQ9⟩, hq⟩ := hq
  rw [ef9, eL9, eQ9] at hP; clear ef9 eL9 eQ9
  rcases hq with ⟨rfl, hq⟩ | ⟨rfl, hq⟩
  · skip
    have q_5 := hq
    refine lv_iconst (v := (-1)) hx hb dX12_once_5 (by decide) ?_
    refine lv_icmp_eq (tgt := 28) hx hb dX12_once_6 (by decide) (fun c => absurd c (by decide)) (fun c => ?_)
    refine lv_iload_n hx hb dX12_once_9 rfl (lv_at hl 2 rfl) ?_
    refine sg_calli (va_runS (As := [.int x1]) (rest := []) ⟨hx, hb, hml, hown, hts⟩ (cf_X12_isPart l D ca za h hh f0M L0 Q0 x1 H.size) (va_cwS 1 hts (gw_S (fun _ h => List.mem_cons_of_mem _ h) mw_235 mw_236 mw_217 mw_234) rfl rfl rfl (by decide +kernel) ⟨Nat.le_of_ble_eq_true rfl, Nat.le_of_ble_eq_true rfl⟩) (sg_preS hA hK hP hS hZ) rfl rfl hl.1 rfl (lv_room (Nat.le_of_ble_eq_true rfl)) dX12_once_10 ⟨Nat.le_refl _, Nat.le_refl _⟩) hA hS (fun r_9 f_6 L_7 Q_8 H locs hq hP hS => ?_)
    obtain ⟨⟨ef9, eL9, eQ9⟩, hq⟩ := hq
    rw [ef9, eL9, eQ9] at hP; clear ef9 eL9 eQ9
    rcases hq with ⟨rfl, hq⟩ | ⟨rfl, hq⟩
    · skip
      have q_10 := hq
      refine lv_if_eq (tgt := 28) hx hb dX12_once_13 (by decide) (fun c => absurd c (by decide)) (fun c => ?_)
      refine lv_iload_n hx hb dX12_once_16 rfl (lv_at hl 3 rfl) ?_
      obtain ⟨w_11, ew_11⟩ : ∃ z : Int64, z = x2.toInt64 := ⟨_, rfl⟩
      have q_12 : w_11.toInt = x2.toInt := by rw [ew_11]; exact Int32.toInt_toInt64 _
      refine lv_i2l (v := w_11) hx hb dX12_once_17 ew_11.symm ?_
      refine lv_lconst (v := 0) hx hb dX12_once_18 (by decide) ?_
      refine lv_ldc2 (v := 2) hx hb hown (hts _ (List.mem_cons_of_mem _ mw_213)) dX12_once_19 ?_
      refine sg_calli (va_runS (As := [.long w_11, .long 0, .long 2]) (rest := []) ⟨hx, hb, hml, hown, hts⟩ (cf_X12_within l D ca za h hh f0M L0 Q0 w_11 0 2 H.size) (va_cwS 3 hts (gw_S (fun _ h => List.mem_cons_of_mem _ h) mw_215 mw_216 mw_217 mw_214) rfl rfl rfl (by decide +kernel) ⟨Nat.le_of_ble_eq_true rfl, Nat.le_of_ble_eq_true rfl⟩) (sg_preS hA hK hP hS hZ) rfl rfl hl.1 rfl (lv_room (Nat.le_of_ble_eq_true rfl)) dX12_once_22 ⟨Nat.le_refl _, Nat.le_refl _⟩) hA hS (fun r_16 f_13 L_14 Q_15 H locs hq hP hS => ?_)
      obtain ⟨⟨ef9, eL9, eQ9⟩, hq⟩ := hq
      rw [ef9, eL9, eQ9] at hP; clear ef9 eL9 eQ9
      have k_17 : (0 : Int64).toInt = 0 := by decide
      have k_18 : (2 : Int64).toInt = 2 := by decide
      rcases hq with ⟨rfl, hq⟩ | ⟨rfl, hq⟩
      · skip
        have q_19 := hq
        refine lv_if_ne (tgt := 30) hx hb dX12_once_25 (by decide) (fun c => ?_) (fun c => absurd c (by decide))
        refine lv_aload_n hx hb dX12_once_30 rfl (lv_at hl 0 rfl) ?_
        refine lv_iload_n hx hb dX12_once_31 rfl (lv_at hl 1 rfl) ?_
        refine sg_calli (va_runV (As := [.int x0]) (rest := []) ⟨hx, hb, hml, hown, hts⟩ (cf_X12_bytesIs l D ca za h hh x0 H.size) (cwV 1 hts (gw_V (fun _ h => List.mem_cons_of_mem _ h) mw_231 mw_232 mw_233 mw_217 mw_230) rfl rfl rfl (by decide +kernel) ⟨Nat.le_of_ble_eq_true rfl, Nat.le_of_ble_eq_true rfl⟩) (sg_preV (ci := 12) (C := RX12) (T := TX12) (N := 55) hA hK hP hS hZ 0 (by decide) rfl rfl) rfl rfl hl.1 rfl (lv_room (Nat.le_of_ble_eq_true rfl)) dX12_once_32 ⟨Nat.le_refl _, Nat.le_refl _⟩) hA hS (fun r_23 f_20 L_21 Q_22 H locs hq hP hS => ?_)
        obtain ⟨⟨ef9, eL9, eQ9⟩, hq⟩ := hq
        rw [ef9, eL9, eQ9] at hP; clear ef9 eL9 eQ9
        rcases hq with ⟨rfl, hq⟩ | ⟨rfl, hq⟩
        · skip
          have q_24 := hq
          refine lv_if_ge (tgt := 44) hx hb dX12_once_35 (by decide) (fun c => absurd c (by decide)) (fun c => ?_)
          refine lv_aload_n hx hb dX12_once_38 rfl (lv_at hl 0 rfl) ?_
          refine lv_iload_n hx hb dX12_once_39 rfl (lv_at hl 1 rfl) ?_
          refine sg_calli (va_runV (As := [.int x0]) (rest := []) ⟨hx, hb, hml, hown, hts⟩ (cf_X12_bytesIs l D ca za h hh x0 H.size) (cwV 1 hts (gw_V (fun _ h => List.mem_cons_of_mem _ h) mw_231 mw_232 mw_233 mw_217 mw_230) rfl rfl rfl (by decide +kernel) ⟨Nat.le_of_ble_eq_true rfl, Nat.le_of_ble_eq_true rfl⟩) (sg_preV (ci := 12) (C := RX12) (T := TX12) (N := 55) hA hK hP hS hZ 0 (by decide) rfl rfl) rfl rfl hl.1 rfl (lv_room (Nat.le_of_ble_eq_true rfl)) dX12_once_40 ⟨Nat.le_refl _, Nat.le_refl _⟩) hA hS (fun r_28 f_25 L_26 Q_27 H locs hq hP hS => ?_)
          obtain ⟨⟨ef9, eL9, eQ9⟩, hq⟩ := hq
          rw [ef9, eL9, eQ9] at hP; clear ef9 eL9 eQ9
          rcases hq with ⟨rfl, hq⟩ | ⟨rfl, hq⟩
          · skip
            have q_29 := hq
            exact hret _ _ _ _ (-11) f0M L0 Q0 dX12_once_43 hP hS ⟨trivial, Or.inl ⟨rfl, by omega⟩⟩
          · skip
            have q_30 := hq
            exact hret _ _ _ _ (-1) f0M L0 Q0 dX12_once_43 hP hS ⟨trivial, Or.inr (⟨rfl, by omega⟩)⟩
        · skip
          have q_31 := hq
          refine lv_if_ge (tgt := 44) hx hb dX12_once_35 (by decide) (fun c => absurd c (by decide)) (fun c => ?_)
          refine lv_aload_n hx hb dX12_once_38 rfl (lv_at hl 0 rfl) ?_
          refine lv_iload_n hx hb dX12_once_39 rfl (lv_at hl 1 rfl) ?_
          refine sg_calli (va_runV (As := [.int x0]) (rest := []) ⟨hx, hb, hml, hown, hts⟩ (cf_X12_bytesIs l D ca za h hh x0 H.size) (cwV 1 hts (gw_V (fun _ h => List.mem_cons_of_mem _ h) mw_231 mw_232 mw_233 mw_217 mw_230) rfl rfl rfl (by decide +kernel) ⟨Nat.le_of_ble_eq_true rfl, Nat.le_of_ble_eq_true rfl⟩) (sg_preV (ci := 12) (C := RX12) (T := TX12) (N := 55) hA hK hP hS hZ 0 (by decide) rfl rfl) rfl rfl hl.1 rfl (lv_room (Nat.le_of_ble_eq_true rfl)) dX12_once_40 ⟨Nat.le_refl _, Nat.le_refl _⟩) hA hS (fun r_35 f_32 L_33 Q_34 H locs hq hP hS => ?_)
          obtain ⟨⟨ef9, eL9, eQ9⟩, hq⟩ := hq
          rw [ef9, eL9, eQ9] at hP; clear ef9 eL9 eQ9
          rcases hq with ⟨rfl, hq⟩ | ⟨rfl, hq⟩
          · skip
            have q_36 := hq
            exact hret _ _ _ _ (-11) f0M L0 Q0 dX12_once_43 hP hS ⟨trivial, Or.inl ⟨rfl, by omega⟩⟩
          · skip
            have q_37 := hq
            exact hret _ _ _ _ (-1) f0M L0 Q0 dX12_once_43 hP hS ⟨trivial, Or.inr (⟨rfl, by omega⟩)⟩
      · skip
        have q_38 := hq
        refine lv_if_ne (tgt := 30) hx hb dX12_once_25 (by decide) (fun c => absurd c (by decide)) (fun c => ?_)
        refine lv_iconst (v := (-1)) hx hb dX12_once_28 (by decide) ?_
        exact hret _ _ _ _ (-1) f0M L0 Q0 dX12_once_29 hP hS ⟨trivial, Or.inr (⟨rfl, by omega⟩)⟩
    · skip
      have q_39 := hq
      refine lv_if_eq (tgt := 28) hx hb dX12_once_13 (by decide) (fun c => ?_) (fun c => absurd c (by decide))
      refine lv_iconst (v := (-1)) hx hb dX12_once_28 (by decide) ?_
      exact hret _ _ _ _ (-1) f0M L0 Q0 dX12_once_29 hP hS ⟨trivial, Or.inr (⟨rfl, by omega⟩)⟩
  · skip
    have q_40 := hq
    refine lv_iconst (v := (-1)) hx hb dX12_once_5 (by decide) ?_
    refine lv_icmp_eq (tgt := 28) hx hb dX12_once_6 (by decide) (fun c => ?_) (fun c => absurd c (by decide))
    refine lv_iconst (v := (-1)) hx hb dX12_once_28 (by decide) ?_
    exact hret _ _ _ _ (-1) f0M L0 Q0 dX12_once_29 hP hS ⟨trivial, Or.inr (⟨rfl, by omega⟩)⟩

set_option maxHeartbeats 4000000 in
set_option maxRecDepth 100000 in
theorem cf_X12_week (l : Launch) (D : va_G) (ca : Nat → ClassId) (za h : Nat → Nat) (hh : sgH 26 h) (x0 : Int32) (x1 : Int32) (sz : Nat) : Met l yX12_week gwX12_week { frames := 3, cells := 0, slots := 0, locals := 66 } (sgP D vwCl (tyX ca) 26 h (eM ca h) zcM za f0M L0 Q0 sz [.ref (h 0), .int x0, .int x1]) (sgQi D vwCl 26 h (eM ca h) sz (fun r f1 L1 Q1 => True ∧ ((r = (-11) ∧ ((0 ≤ x0.toInt ∧ x0.toInt ≤ 5) ∧ (0 ≤ x1.toInt ∧ x1.toInt ≤ 2))) ∨ (r = (-1) ∧ (¬ ((0 ≤ x0.toInt ∧ x0.toInt ≤ 5) ∧ (0 ≤ x1.toInt ∧ x1.toInt ≤ 2))))))) 0 0 (sgA 26 h sz) := by
  refine sg_ofWi (cc := cX12_week) (maxL := 4) RX12 (by decide) rfl rfl (Nat.le_of_ble_eq_true rfl) ?_
  intro p e s m below meth cd Qz ls hx hb hml hown hts hK hZ hP hS hl hret
  have hA := sgY.self (n := 26) (h := h) (sz := s.heap.size)
  have hl : lv_has ls 4 [(0, .ref (h 0)), (1, .int x0), (2, .int x1)] := hl
  obtain ⟨H, hH⟩ : ∃ z : Heap, z = s.heap := ⟨_, rfl⟩
  obtain ⟨locs, hlo⟩ : ∃ z : List Loc, z = [] := ⟨_, rfl⟩
  have hP : va_P D vwCl (sgw 26 h (eM ca h) f0M L0 Q0) H := by rw [hH]; exact hP
  have hS : va_S (sgA 26 h s.heap.size) s.heap H locs := by rw [hH, hlo]; exact hS
  suffices hgo : W p l e ({ frames := 3, cells := 0, slots := 0, locals := 66 }) s m ([.ref (h 0), .int x0, .int x1] : List Value).toArray below meth cd H locs 0 0 Qz (F0 m 0 ls []) by rw [hH, hlo] at hgo; exact hgo
  refine lv_aload_n hx hb dX12_week_0 rfl (lv_at hl 0 rfl) ?_
  refine lv_iload_n hx hb dX12_week_1 rfl (lv_at hl 1 rfl) ?_
  refine sg_calli (va_runV (As := [.int x0]) (rest := []) ⟨hx, hb, hml, hown, hts⟩ (cf_X12_bytesIs l D ca za h hh x0 H.size) (cwV 1 hts (gw_V (fun _ h => List.mem_cons_of_mem _ h) mw_231 mw_232 mw_233 mw_217 mw_230) rfl rfl rfl (by decide +kernel) ⟨Nat.le_of_ble_eq_true rfl, Nat.le_of_ble_eq_true rfl⟩) (sg_preV (ci := 12) (C := RX12) (T := TX12) (N := 55) hA hK hP hS hZ 0 (by decide) rfl rfl) rfl rfl hl.1 rfl (lv_room (Nat.le_of_ble_eq_true rfl)) dX12_week_2 ⟨Nat.le_refl _, Nat.le_refl _⟩) hA hS (fun r_4 f_1 L_2 Q_3 H locs hq hP hS => ?_)
  obtain ⟨⟨ef9, eL9, eQ9⟩, hq⟩ := hq
  rw [ef9, eL9, eQ9] at hP; clear ef9 eL9 eQ9
  rcases hq with ⟨rfl, hq⟩ | ⟨rfl, hq⟩
  · skip
    have q_5 := hq
    refine lv_iconst (v := (-1)) hx hb dX12_week_5 (by decide) ?_
    refine lv_icmp_eq (tgt := 21) hx hb dX12_week_6 (by decide) (fun c => absurd c (by decide)) (fun c => ?_)
    refine lv_iload_n hx hb dX12_week_9 rfl (lv_at hl 2 rfl) ?_
    obtain ⟨w_6, ew_6⟩ : ∃ z : Int64, z = x1.toInt64 := ⟨_, rfl⟩
    have q_7 : w_6.toInt = x1.toInt := by rw [ew_6]; exact Int32.toInt_toInt64 _
    refine lv_i2l (v := w_6) hx hb dX12_week_10 ew_6.symm ?_
    refine lv_lconst (v := 0) hx hb dX12_week_11 (by decide) ?_
    refine lv_ldc2 (v := 2) hx hb hown (hts _ (List.mem_cons_of_mem _ mw_213)) dX12_week_12 ?_
    refine sg_calli (va_runS (As := [.long w_6, .long 0, .long 2]) (rest := []) ⟨hx, hb, hml, hown, hts⟩ (cf_X12_within l D ca za h hh f0M L0 Q0 w_6 0 2 H.size) (va_cwS 3 hts (gw_S (fun _ h => List.mem_cons_of_mem _ h) mw_215 mw_216 mw_217 mw_214) rfl rfl rfl (by decide +kernel) ⟨Nat.le_of_ble_eq_true rfl, Nat.le_of_ble_eq_true rfl⟩) (sg_preS hA hK hP hS hZ) rfl rfl hl.1 rfl (lv_room (Nat.le_of_ble_eq_true rfl)) dX12_week_15 ⟨Nat.le_refl _, Nat.le_refl _⟩) hA hS (fun r_11 f_8 L_9 Q_10 H locs hq hP hS => ?_)
    obtain ⟨⟨ef9, eL9, eQ9⟩, hq⟩ := hq
    rw [ef9, eL9, eQ9] at hP; clear ef9 eL9 eQ9
    have k_12 : (0 : Int64).toInt = 0 := by decide
    have k_13 : (2 : Int64).toInt = 2 := by decide
    rcases hq with ⟨rfl, hq⟩ | ⟨rfl, hq⟩
    · skip
      have q_14 := hq
      refine lv_if_ne (tgt := 23) hx hb dX12_week_18 (by decide) (fun c => ?_) (fun c => absurd c (by decide))
      refine lv_aload_n hx hb dX12_week_23 rfl (lv_at hl 0 rfl) ?_
      refine lv_iload_n hx hb dX12_week_24 rfl (lv_at hl 1 rfl) ?_
      refine sg_calli (va_runV (As := [.int x0]) (rest := []) ⟨hx, hb, hml, hown, hts⟩ (cf_X12_bytesIs l D ca za h hh x0 H.size) (cwV 1 hts (gw_V (fun _ h => List.mem_cons_of_mem _ h) mw_231 mw_232 mw_233 mw_217 mw_230) rfl rfl rfl (by decide +kernel) ⟨Nat.le_of_ble_eq_true rfl, Nat.le_of_ble_eq_true rfl⟩) (sg_preV (ci := 12) (C := RX12) (T := TX12) (N := 55) hA hK hP hS hZ 0 (by decide) rfl rfl) rfl rfl hl.1 rfl (lv_room (Nat.le_of_ble_eq_true rfl)) dX12_week_25 ⟨Nat.le_refl _, Nat.le_refl _⟩) hA hS (fun r_18 f_15 L_16 Q_17 H locs hq hP hS => ?_)
      obtain ⟨⟨ef9, eL9, eQ9⟩, hq⟩ := hq
      rw [ef9, eL9, eQ9] at hP; clear ef9 eL9 eQ9
      rcases hq with ⟨rfl, hq⟩ | ⟨rfl, hq⟩
      · skip
        have q_19 := hq
        refine lv_if_ge (tgt := 37) hx hb dX12_week_28 (by decide) (fun c => absurd c (by decide)) (fun c => ?_)
        refine lv_aload_n hx hb dX12_week_31 rfl (lv_at hl 0 rfl) ?_
        refine lv_iload_n hx hb dX12_week_32 rfl (lv_at hl 1 rfl) ?_
        refine sg_calli (va_runV (As := [.int x0]) (rest := []) ⟨hx, hb, hml, hown, hts⟩ (cf_X12_bytesIs l D ca za h hh x0 H.size) (cwV 1 hts (gw_V (fun _ h => List.mem_cons_of_mem _ h) mw_231 mw_232 mw_233 mw_217 mw_230) rfl rfl rfl (by decide +kernel) ⟨Nat.le_of_ble_eq_true rfl, Nat.le_of_ble_eq_true rfl⟩) (sg_preV (ci := 12) (C := RX12) (T := TX12) (N := 55) hA hK hP hS hZ 0 (by decide) rfl rfl) rfl rfl hl.1 rfl (lv_room (Nat.le_of_ble_eq_true rfl)) dX12_week_33 ⟨Nat.le_refl _, Nat.le_refl _⟩) hA hS (fun r_23 f_20 L_21 Q_22 H locs hq hP hS => ?_)
        obtain ⟨⟨ef9, eL9, eQ9⟩, hq⟩ := hq
        rw [ef9, eL9, eQ9] at hP; clear ef9 eL9 eQ9
        rcases hq with ⟨rfl, hq⟩ | ⟨rfl, hq⟩
        · skip
          have q_24 := hq
          exact hret _ _ _ _ (-11) f0M L0 Q0 dX12_week_36 hP hS ⟨trivial, Or.inl ⟨rfl, by omega⟩⟩
        · skip
          have q_25 := hq
          exact hret _ _ _ _ (-1) f0M L0 Q0 dX12_week_36 hP hS ⟨trivial, Or.inr (⟨rfl, by omega⟩)⟩
      · skip
        have q_26 := hq
        refine lv_if_ge (tgt := 37) hx hb dX12_week_28 (by decide) (fun c => absurd c (by decide)) (fun c => ?_)
        refine lv_aload_n hx hb dX12_week_31 rfl (lv_at hl 0 rfl) ?_
        refine lv_iload_n hx hb dX12_week_32 rfl (lv_at hl 1 rfl) ?_
        refine sg_calli (va_runV (As := [.int x0]) (rest := []) ⟨hx, hb, hml, hown, hts⟩ (cf_X12_bytesIs l D ca za h hh x0 H.size) (cwV 1 hts (gw_V (fun _ h => List.mem_cons_of_mem _ h) mw_231 mw_232 mw_233 mw_217 mw_230) rfl rfl rfl (by decide +kernel) ⟨Nat.le_of_ble_eq_true rfl, Nat.le_of_ble_eq_true rfl⟩) (sg_preV (ci := 12) (C := RX12) (T := TX12) (N := 55) hA hK hP hS hZ 0 (by decide) rfl rfl) rfl rfl hl.1 rfl (lv_room (Nat.le_of_ble_eq_true rfl)) dX12_week_33 ⟨Nat.le_refl _, Nat.le_refl _⟩) hA hS (fun r_30 f_27 L_28 Q_29 H locs hq hP hS => ?_)
        obtain ⟨⟨ef9, eL9, eQ9⟩, hq⟩ := hq
        rw [ef9, eL9, eQ9] at hP; clear ef9 eL9 eQ9
        rcases hq with ⟨rfl, hq⟩ | ⟨rfl, hq⟩
        · skip
          have q_31 := hq
          exact hret _ _ _ _ (-11) f0M L0 Q0 dX12_week_36 hP hS ⟨trivial, Or.inl ⟨rfl, by omega⟩⟩
        · skip
          have q_32 := hq
          exact hret _ _ _ _ (-1) f0M L0 Q0 dX12_week_36 hP hS ⟨trivial, Or.inr (⟨rfl, by omega⟩)⟩
    · skip
      have q_33 := hq
      refine lv_if_ne (tgt := 23) hx hb dX12_week_18 (by decide) (fun c => absurd c (by decide)) (fun c => ?_)
      refine lv_iconst (v := (-1)) hx hb dX12_week_21 (by decide) ?_
      exact hret _ _ _ _ (-1) f0M L0 Q0 dX12_week_22 hP hS ⟨trivial, Or.inr (⟨rfl, by omega⟩)⟩
  · skip
    have q_34 := hq
    refine lv_iconst (v := (-1)) hx hb dX12_week_5 (by decide) ?_
    refine lv_icmp_eq (tgt := 21) hx hb dX12_week_6 (by decide) (fun c => ?_) (fun c => absurd c (by decide))
    refine lv_iconst (v := (-1)) hx hb dX12_week_21 (by decide) ?_
    exact hret _ _ _ _ (-1) f0M L0 Q0 dX12_week_22 hP hS ⟨trivial, Or.inr (⟨rfl, by omega⟩)⟩

set_option maxHeartbeats 4000000 in
set_option maxRecDepth 100000 in
theorem cf_X12_stands (l : Launch) (D : va_G) (ca : Nat → ClassId) (za h : Nat → Nat) (hh : sgH 26 h) (x0 : Int32) (x1 : Int32) (x2 : Int32) (sz : Nat) : Met l yX12_stands gwX12_stands { frames := 3, cells := 0, slots := 0, locals := 66 } (sgP D vwCl (tyX ca) 26 h (eM ca h) zcM za f0M L0 Q0 sz [.ref (h 0), .int x0, .int x1, .int x2]) (sgQi D vwCl 26 h (eM ca h) sz (fun r f1 L1 Q1 => True ∧ ((r = (-11) ∧ ((0 ≤ x0.toInt ∧ x0.toInt ≤ 5) ∧ (0 ≤ x1.toInt ∧ x1.toInt ≤ 2) ∧ 0 ≤ x2.toInt)) ∨ (r = (-1) ∧ (¬ ((0 ≤ x0.toInt ∧ x0.toInt ≤ 5) ∧ (0 ≤ x1.toInt ∧ x1.toInt ≤ 2) ∧ 0 ≤ x2.toInt)))))) 0 0 (sgA 26 h sz) := by
  refine sg_ofWi (cc := cX12_stands) (maxL := 4) RX12 (by decide) rfl rfl (Nat.le_of_ble_eq_true rfl) ?_
  intro p e s m below meth cd Qz ls hx hb hml hown hts hK hZ hP hS hl hret
  have hA := sgY.self (n := 26) (h := h) (sz := s.heap.size)
  have hl : lv_has ls 4 [(0, .ref (h 0)), (1, .int x0), (2, .int x1), (3, .int x2)] := hl
  obtain ⟨H, hH⟩ : ∃ z : Heap, z = s.heap := ⟨_, rfl⟩
  obtain ⟨locs, hlo⟩ : ∃ z : List Loc, z = [] := ⟨_, rfl⟩
  have hP : va_P D vwCl (sgw 26 h (eM ca h) f0M L0 Q0) H := by rw [hH]; exact hP
  have hS : va_S (sgA 26 h s.heap.size) s.heap H locs := by rw [hH, hlo]; exact hS
  suffices hgo : W p l e ({ frames := 3, cells := 0, slots := 0, locals := 66 }) s m ([.ref (h 0), .int x0, .int x1, .int x2] : List Value).toArray below meth cd H locs 0 0 Qz (F0 m 0 ls []) by rw [hH, hlo] at hgo; exact hgo
  refine lv_aload_n hx hb dX12_stands_0 rfl (lv_at hl 0 rfl) ?_
  refine lv_iload_n hx hb dX12_stands_1 rfl (lv_at hl 1 rfl) ?_
  refine sg_calli (va_runV (As := [.int x0]) (rest := []) ⟨hx, hb, hml, hown, hts⟩ (cf_X12_bytesIs l D ca za h hh x0 H.size) (cwV 1 hts (gw_V (fun _ h => List.mem_cons_of_mem _ h) mw_231 mw_232 mw_233 mw_217 mw_230) rfl rfl rfl (by decide +kernel) ⟨Nat.le_of_ble_eq_true rfl, Nat.le_of_ble_eq_true rfl⟩) (sg_preV (ci := 12) (C := RX12) (T := TX12) (N := 55) hA hK hP hS hZ 0 (by decide) rfl rfl) rfl rfl hl.1 rfl (lv_room (Nat.le_of_ble_eq_true rfl)) dX12_stands_2 ⟨Nat.le_refl _, Nat.le_refl _⟩) hA hS (fun r_4 f_1 L_2 Q_3 H locs hq hP hS => ?_)
  obtain ⟨⟨ef9, eL9, eQ9⟩, hq⟩ := hq
  rw [ef9, eL9, eQ9] at hP; clear ef9 eL9 eQ9
  rcases hq with ⟨rfl, hq⟩ | ⟨rfl, hq⟩
  · skip
    have q_5 := hq
    refine lv_iconst (v := (-1)) hx hb dX12_stands_5 (by decide) ?_
    refine lv_icmp_eq (tgt := 20) hx hb dX12_stands_6 (by decide) (fun c => absurd c (by decide)) (fun c => ?_)
    refine lv_iload_n hx hb dX12_stands_9 rfl (lv_at hl 2 rfl) ?_
    refine sg_calli (va_runS (As := [.int x1]) (rest := []) ⟨hx, hb, hml, hown, hts⟩ (cf_X12_isPart l D ca za h hh f0M L0 Q0 x1 H.size) (va_cwS 1 hts (gw_S (fun _ h => List.mem_cons_of_mem _ h) mw_235 mw_236 mw_217 mw_234) rfl rfl rfl (by decide +kernel) ⟨Nat.le_of_ble_eq_true rfl, Nat.le_of_ble_eq_true rfl⟩) (sg_preS hA hK hP hS hZ) rfl rfl hl.1 rfl (lv_room (Nat.le_of_ble_eq_true rfl)) dX12_stands_10 ⟨Nat.le_refl _, Nat.le_refl _⟩) hA hS (fun r_9 f_6 L_7 Q_8 H locs hq hP hS => ?_)
    obtain ⟨⟨ef9, eL9, eQ9⟩, hq⟩ := hq
    rw [ef9, eL9, eQ9] at hP; clear ef9 eL9 eQ9
    rcases hq with ⟨rfl, hq⟩ | ⟨rfl, hq⟩
    · skip
      have q_10 := hq
      refine lv_if_eq (tgt := 20) hx hb dX12_stands_13 (by decide) (fun c => absurd c (by decide)) (fun c => ?_)
      refine lv_iload_n hx hb dX12_stands_16 rfl (lv_at hl 3 rfl) ?_
      refine lv_if_ge (tgt := 22) hx hb dX12_stands_17 (by decide) (fun c => ?_) (fun c => ?_)
      · skip
        have c_11 : 0 ≤ x2.toInt := (by have z := bn_le c; have k1 : (0 : Int32).toInt = 0 := (by decide); omega)
        refine lv_aload_n hx hb dX12_stands_22 rfl (lv_at hl 0 rfl) ?_
        refine lv_iload_n hx hb dX12_stands_23 rfl (lv_at hl 1 rfl) ?_
        refine sg_calli (va_runV (As := [.int x0]) (rest := []) ⟨hx, hb, hml, hown, hts⟩ (cf_X12_bytesIs l D ca za h hh x0 H.size) (cwV 1 hts (gw_V (fun _ h => List.mem_cons_of_mem _ h) mw_231 mw_232 mw_233 mw_217 mw_230) rfl rfl rfl (by decide +kernel) ⟨Nat.le_of_ble_eq_true rfl, Nat.le_of_ble_eq_true rfl⟩) (sg_preV (ci := 12) (C := RX12) (T := TX12) (N := 55) hA hK hP hS hZ 0 (by decide) rfl rfl) rfl rfl hl.1 rfl (lv_room (Nat.le_of_ble_eq_true rfl)) dX12_stands_24 ⟨Nat.le_refl _, Nat.le_refl _⟩) hA hS (fun r_16 f_13 L_14 Q_15 H locs hq hP hS => ?_)
        obtain ⟨⟨ef9, eL9, eQ9⟩, hq⟩ := hq
        rw [ef9, eL9, eQ9] at hP; clear ef9 eL9 eQ9
        rcases hq with ⟨rfl, hq⟩ | ⟨rfl, hq⟩
        · skip
          have q_17 := hq
          refine lv_if_ge (tgt := 36) hx hb dX12_stands_27 (by decide) (fun c => absurd c (by decide)) (fun c => ?_)
          refine lv_aload_n hx hb dX12_stands_30 rfl (lv_at hl 0 rfl) ?_
          refine lv_iload_n hx hb dX12_stands_31 rfl (lv_at hl 1 rfl) ?_
          refine sg_calli (va_runV (As := [.int x0]) (rest := []) ⟨hx, hb, hml, hown, hts⟩ (cf_X12_bytesIs l D ca za h hh x0 H.size) (cwV 1 hts (gw_V (fun _ h => List.mem_cons_of_mem _ h) mw_231 mw_232 mw_233 mw_217 mw_230) rfl rfl rfl (by decide +kernel) ⟨Nat.le_of_ble_eq_true rfl, Nat.le_of_ble_eq_true rfl⟩) (sg_preV (ci := 12) (C := RX12) (T := TX12) (N := 55) hA hK hP hS hZ 0 (by decide) rfl rfl) rfl rfl hl.1 rfl (lv_room (Nat.le_of_ble_eq_true rfl)) dX12_stands_32 ⟨Nat.le_refl _, Nat.le_refl _⟩) hA hS (fun r_21 f_18 L_19 Q_20 H locs hq hP hS => ?_)
          obtain ⟨⟨ef9, eL9, eQ9⟩, hq⟩ := hq
          rw [ef9, eL9, eQ9] at hP; clear ef9 eL9 eQ9
          rcases hq with ⟨rfl, hq⟩ | ⟨rfl, hq⟩
          · skip
            have q_22 := hq
            exact hret _ _ _ _ (-11) f0M L0 Q0 dX12_stands_35 hP hS ⟨trivial, Or.inl ⟨rfl, by omega⟩⟩
          · skip
            have q_23 := hq
            exact hret _ _ _ _ (-1) f0M L0 Q0 dX12_stands_35 hP hS ⟨trivial, Or.inr (⟨rfl, by omega⟩)⟩
        · skip
          have q_24 := hq
          refine lv_if_ge (tgt := 36) hx hb dX12_stands_27 (by decide) (fun c => absurd c (by decide)) (fun c => ?_)
          refine lv_aload_n hx hb dX12_stands_30 rfl (lv_at hl 0 rfl) ?_
          refine lv_iload_n hx hb dX12_stands_31 rfl (lv_at hl 1 rfl) ?_
          refine sg_calli (va_runV (As := [.int x0]) (rest := []) ⟨hx, hb, hml, hown, hts⟩ (cf_X12_bytesIs l D ca za h hh x0 H.size) (cwV 1 hts (gw_V (fun _ h => List.mem_cons_of_mem _ h) mw_231 mw_232 mw_233 mw_217 mw_230) rfl rfl rfl (by decide +kernel) ⟨Nat.le_of_ble_eq_true rfl, Nat.le_of_ble_eq_true rfl⟩) (sg_preV (ci := 12) (C := RX12) (T := TX12) (N := 55) hA hK hP hS hZ 0 (by decide) rfl rfl) rfl rfl hl.1 rfl (lv_room (Nat.le_of_ble_eq_true rfl)) dX12_stands_32 ⟨Nat.le_refl _, Nat.le_refl _⟩) hA hS (fun r_28 f_25 L_26 Q_27 H locs hq hP hS => ?_)
          obtain ⟨⟨ef9, eL9, eQ9⟩, hq⟩ := hq
          rw [ef9, eL9, eQ9] at hP; clear ef9 eL9 eQ9
          rcases hq with ⟨rfl, hq⟩ | ⟨rfl, hq⟩
          · skip
            have q_29 := hq
            exact hret _ _ _ _ (-11) f0M L0 Q0 dX12_stands_35 hP hS ⟨trivial, Or.inl ⟨rfl, by omega⟩⟩
          · skip
            have q_30 := hq
            exact hret _ _ _ _ (-1) f0M L0 Q0 dX12_stands_35 hP hS ⟨trivial, Or.inr (⟨rfl, by omega⟩)⟩
      · skip
        have c_12 : x2.toInt < 0 := (by have z := bn_nle c; have k1 : (0 : Int32).toInt = 0 := (by decide); omega)
        refine lv_iconst (v := (-1)) hx hb dX12_stands_20 (by decide) ?_
        exact hret _ _ _ _ (-1) f0M L0 Q0 dX12_stands_21 hP hS ⟨trivial, Or.inr (⟨rfl, by omega⟩)⟩
    · skip
      have q_31 := hq
      refine lv_if_eq (tgt := 20) hx hb dX12_stands_13 (by decide) (fun c => ?_) (fun c => absurd c (by decide))
      refine lv_iconst (v := (-1)) hx hb dX12_stands_20 (by decide) ?_
      exact hret _ _ _ _ (-1) f0M L0 Q0 dX12_stands_21 hP hS ⟨trivial, Or.inr (⟨rfl, by omega⟩)⟩
  · skip
    have q_32 := hq
    refine lv_iconst (v := (-1)) hx hb dX12_stands_5 (by decide) ?_
    refine lv_icmp_eq (tgt := 20) hx hb dX12_stands_6 (by decide) (fun c => ?_) (fun c => absurd c (by decide))
    refine lv_iconst (v := (-1)) hx hb dX12_stands_20 (by decide) ?_
    exact hret _ _ _ _ (-1) f0M L0 Q0 dX12_stands_21 hP hS ⟨trivial, Or.inr (⟨rfl, by omega⟩)⟩

set_option maxHeartbeats 4000000 in
set_option maxRecDepth 100000 in
theorem cf_X12_pays (l : Launch) (D : va_G) (ca : Nat → ClassId) (za h : Nat → Nat) (hh : sgH 26 h) (x0 : Int32) (x1 : Int32) (x2 : Int32) (sz : Nat) : Met l yX12_pays gwX12_pays { frames := 3, cells := 0, slots := 0, locals := 66 } (sgP D vwCl (tyX ca) 26 h (eM ca h) zcM za f0M L0 Q0 sz [.ref (h 0), .int x0, .int x1, .int x2]) (sgQi D vwCl 26 h (eM ca h) sz (fun r f1 L1 Q1 => True ∧ ((r = (-1) ∧ (True))))) 0 0 (sgA 26 h sz) := by
  refine sg_ofWi (cc := cX12_pays) (maxL := 7) RX12 (by decide) rfl rfl (Nat.le_of_ble_eq_true rfl) ?_
  intro p e s m below meth cd Qz ls hx hb hml hown hts hK hZ hP hS hl hret
  have hA := sgY.self (n := 26) (h := h) (sz := s.heap.size)
  have hl : lv_has ls 7 [(0, .ref (h 0)), (1, .int x0), (2, .int x1), (3, .int x2)] := hl
  obtain ⟨H, hH⟩ : ∃ z : Heap, z = s.heap := ⟨_, rfl⟩
  obtain ⟨locs, hlo⟩ : ∃ z : List Loc, z = [] := ⟨_, rfl⟩
  have hP : va_P D vwCl (sgw 26 h (eM ca h) f0M L0 Q0) H := by rw [hH]; exact hP
  have hS : va_S (sgA 26 h s.heap.size) s.heap H locs := by rw [hH, hlo]; exact hS
  suffices hgo : W p l e ({ frames := 3, cells := 0, slots := 0, locals := 66 }) s m ([.ref (h 0), .int x0, .int x1, .int x2] : List Value).toArray below meth cd H locs 0 0 Qz (F0 m 0 ls []) by rw [hH, hlo] at hgo; exact hgo
  refine lv_aload_n hx hb dX12_pays_0 rfl (lv_at hl 0 rfl) ?_
  refine lv_iload_n hx hb dX12_pays_1 rfl (lv_at hl 1 rfl) ?_
  refine sg_calli (va_runV (As := [.int x0]) (rest := []) ⟨hx, hb, hml, hown, hts⟩ (cf_X12_bytesIs l D ca za h hh x0 H.size) (cwV 1 hts (gw_V (fun _ h => List.mem_cons_of_mem _ h) mw_231 mw_232 mw_233 mw_217 mw_230) rfl rfl rfl (by decide +kernel) ⟨Nat.le_of_ble_eq_true rfl, Nat.le_of_ble_eq_true rfl⟩) (sg_preV (ci := 12) (C := RX12) (T := TX12) (N := 55) hA hK hP hS hZ 0 (by decide) rfl rfl) rfl rfl hl.1 rfl (lv_room (Nat.le_of_ble_eq_true rfl)) dX12_pays_2 ⟨Nat.le_refl _, Nat.le_refl _⟩) hA hS (fun r_4 f_1 L_2 Q_3 H locs hq hP hS => ?_)
  obtain ⟨⟨ef9, eL9, eQ9⟩, hq⟩ := hq
  rw [ef9, eL9, eQ9] at hP; clear ef9 eL9 eQ9
  rcases hq with ⟨rfl, hq⟩ | ⟨rfl, hq⟩
  · skip
    have q_5 := hq
    refine lv_iconst (v := (-1)) hx hb dX12_pays_5 (by decide) ?_
    refine lv_icmp_eq (tgt := 28) hx hb dX12_pays_6 (by decide) (fun c => absurd c (by decide)) (fun c => ?_)
    refine lv_aload_n hx hb dX12_pays_9 rfl (lv_at hl 0 rfl) ?_
    refine lv_iload_n hx hb dX12_pays_10 rfl (lv_at hl 2 rfl) ?_
    obtain ⟨w_6, ew_6⟩ : ∃ z : Int64, z = x1.toInt64 := ⟨_, rfl⟩
    have q_7 : w_6.toInt = x1.toInt := by rw [ew_6]; exact Int32.toInt_toInt64 _
    refine lv_i2l (v := w_6) hx hb dX12_pays_11 ew_6.symm ?_
    refine sg_calli (va_runV (As := [.long w_6]) (rest := []) ⟨hx, hb, hml, hown, hts⟩ (cf_X12_isSitter l D ca za h hh f0M L0 Q0 w_6 rfl H.size) (cwV 1 hts (gw_V (fun _ h => List.mem_cons_of_mem _ h) mw_227 mw_228 mw_229 mw_217 mw_226) rfl rfl rfl (by decide +kernel) ⟨Nat.le_of_ble_eq_true rfl, Nat.le_of_ble_eq_true rfl⟩) (sg_preV (ci := 12) (C := RX12) (T := TX12) (N := 55) hA hK hP hS hZ 0 (by decide) rfl rfl) rfl rfl hl.1 rfl (lv_room (Nat.le_of_ble_eq_true rfl)) dX12_pays_12 ⟨Nat.le_refl _, Nat.le_refl _⟩) hA hS (fun r_11 f_8 L_9 Q_10 H locs hq hP hS => ?_)
    obtain ⟨⟨ef9, eL9, eQ9⟩, hq⟩ := hq
    rw [ef9, eL9, eQ9] at hP; clear ef9 eL9 eQ9
    obtain ⟨rfl, hq⟩ := hq
    have q_12 := hq
    refine lv_if_eq (tgt := 28) hx hb dX12_pays_15 (by decide) (fun c => ?_) (fun c => absurd c (by decide))
    refine lv_iconst (v := (-1)) hx hb dX12_pays_28 (by decide) ?_
    exact hret _ _ _ _ (-1) f0M L0 Q0 dX12_pays_29 hP hS ⟨trivial, ⟨rfl, trivial⟩⟩
  · skip
    have q_13 := hq
    refine lv_iconst (v := (-1)) hx hb dX12_pays_5 (by decide) ?_
    refine lv_icmp_eq (tgt := 28) hx hb dX12_pays_6 (by decide) (fun c => ?_) (fun c => absurd c (by decide))
    refine lv_iconst (v := (-1)) hx hb dX12_pays_28 (by decide) ?_
    exact hret _ _ _ _ (-1) f0M L0 Q0 dX12_pays_29 hP hS ⟨trivial, ⟨rfl, trivial⟩⟩

set_option maxHeartbeats 4000000 in
set_option maxRecDepth 100000 in
theorem cf_X12_memories (l : Launch) (D : va_G) (ca : Nat → ClassId) (za h : Nat → Nat) (hh : sgH 26 h) (x0 : Int32) (x1 : Int32) (x2 : Int32) (sz : Nat) : Met l yX12_memories gwX12_memories { frames := 3, cells := 0, slots := 0, locals := 66 } (sgP D vwCl (tyX ca) 26 h (eM ca h) zcM za f0M L0 Q0 sz [.ref (h 0), .int x0, .int x1, .int x2]) (sgQi D vwCl 26 h (eM ca h) sz (fun r f1 L1 Q1 => True ∧ ((r = (-11) ∧ ((0 ≤ x0.toInt ∧ x0.toInt ≤ 5) ∧ (0 ≤ x1.toInt ∧ x1.toInt ≤ 3) ∧ (0 ≤ x2.toInt ∧ x2.toInt ≤ 1))) ∨ (r = (-1) ∧ (¬ ((0 ≤ x0.toInt ∧ x0.toInt ≤ 5) ∧ (0 ≤ x1.toInt ∧ x1.toInt ≤ 3) ∧ (0 ≤ x2.toInt ∧ x2.toInt ≤ 1))))))) 0 0 (sgA 26 h sz) := by
  refine sg_ofWi (cc := cX12_memories) (maxL := 8) RX12 (by decide) rfl rfl (Nat.le_of_ble_eq_true rfl) ?_
  intro p e s m below meth cd Qz ls hx hb hml hown hts hK hZ hP hS hl hret
  have hA := sgY.self (n := 26) (h := h) (sz := s.heap.size)
  have hl : lv_has ls 8 [(0, .ref (h 0)), (1, .int x0), (2, .int x1), (3, .int x2)] := hl
  obtain ⟨H, hH⟩ : ∃ z : Heap, z = s.heap := ⟨_, rfl⟩
  obtain ⟨locs, hlo⟩ : ∃ z : List Loc, z = [] := ⟨_, rfl⟩
  have hP : va_P D vwCl (sgw 26 h (eM ca h) f0M L0 Q0) H := by rw [hH]; exact hP
  have hS : va_S (sgA 26 h s.heap.size) s.heap H locs := by rw [hH, hlo]; exact hS
  suffices hgo : W p l e ({ frames := 3, cells := 0, slots := 0, locals := 66 }) s m ([.ref (h 0), .int x0, .int x1, .int x2] : List Value).toArray below meth cd H locs 0 0 Qz (F0 m 0 ls []) by rw [hH, hlo] at hgo; exact hgo
  refine lv_aload_n hx hb dX12_memories_0 rfl (lv_at hl 0 rfl) ?_
  refine lv_iload_n hx hb dX12_memories_1 rfl (lv_at hl 1 rfl) ?_
  refine sg_calli (va_runV (As := [.int x0]) (rest := []) ⟨hx, hb, hml, hown, hts⟩ (cf_X12_bytesIs l D ca za h hh x0 H.size) (cwV 1 hts (gw_V (fun _ h => List.mem_cons_of_mem _ h) mw_231 mw_232 mw_233 mw_217 mw_230) rfl rfl rfl (by decide +kernel) ⟨Nat.le_of_ble_eq_true rfl, Nat.le_of_ble_eq_true rfl⟩) (sg_preV (ci := 12) (C := RX12) (T := TX12) (N := 55) hA hK hP hS hZ 0 (by decide) rfl rfl) rfl rfl hl.1 rfl (lv_room (Nat.le_of_ble_eq_true rfl)) dX12_memories_2 ⟨Nat.le_refl _, Nat.le_refl _⟩) hA hS (fun r_4 f_1 L_2 Q_3 H locs hq hP hS => ?_)
  obtain ⟨⟨ef9, eL9, eQ9⟩, hq⟩ := hq
  rw [ef9, eL9, eQ9] at hP; clear ef9 eL9 eQ9
  rcases hq with ⟨rfl, hq⟩ | ⟨rfl, hq⟩
  · skip
    have q_5 := hq
    refine lv_iconst (v := (-1)) hx hb dX12_memories_5 (by decide) ?_
    refine lv_icmp_eq (tgt := 31) hx hb dX12_memories_6 (by decide) (fun c => absurd c (by decide)) (fun c => ?_)
    refine lv_iload_n hx hb dX12_memories_9 rfl (lv_at hl 2 rfl) ?_
    obtain ⟨w_6, ew_6⟩ : ∃ z : Int64, z = x1.toInt64 := ⟨_, rfl⟩
    have q_7 : w_6.toInt = x1.toInt := by rw [ew_6]; exact Int32.toInt_toInt64 _
    refine lv_i2l (v := w_6) hx hb dX12_memories_10 ew_6.symm ?_
    refine lv_lconst (v := 0) hx hb dX12_memories_11 (by decide) ?_
    refine lv_ldc2 (v := 3) hx hb hown (hts _ (List.mem_cons_of_mem _ mw_240)) dX12_memories_12 ?_
    refine sg_calli (va_runS (As := [.long w_6, .long 0, .long 3]) (rest := []) ⟨hx, hb, hml, hown, hts⟩ (cf_X12_within l D ca za h hh f0M L0 Q0 w_6 0 3 H.size) (va_cwS 3 hts (gw_S (fun _ h => List.mem_cons_of_mem _ h) mw_215 mw_216 mw_217 mw_214) rfl rfl rfl (by decide +kernel) ⟨Nat.le_of_ble_eq_true rfl, Nat.le_of_ble_eq_true rfl⟩) (sg_preS hA hK hP hS hZ) rfl rfl hl.1 rfl (lv_room (Nat.le_of_ble_eq_true rfl)) dX12_memories_15 ⟨Nat.le_refl _, Nat.le_refl _⟩) hA hS (fun r_11 f_8 L_9 Q_10 H locs hq hP hS => ?_)
    obtain ⟨⟨ef9, eL9, eQ9⟩, hq⟩ := hq
    rw [ef9, eL9, eQ9] at hP; clear ef9 eL9 eQ9
    have k_12 : (0 : Int64).toInt = 0 := by decide
    have k_13 : (3 : Int64).toInt = 3 := by decide
    rcases hq with ⟨rfl, hq⟩ | ⟨rfl, hq⟩
    · skip
      have q_14 := hq
      refine lv_if_eq (tgt := 31) hx hb dX12_memories_18 (by decide) (fun c => absurd c (by decide)) (fun c => ?_)
      refine lv_iload_n hx hb dX12_memories_21 rfl (lv_at hl 3 rfl) ?_
      obtain ⟨w_15, ew_15⟩ : ∃ z : Int64, z = x2.toInt64 := ⟨_, rfl⟩
      have q_16 : w_15.toInt = x2.toInt := by rw [ew_15]; exact Int32.toInt_toInt64 _
      refine lv_i2l (v := w_15) hx hb dX12_memories_22 ew_15.symm ?_
      refine lv_lconst (v := 0) hx hb dX12_memories_23 (by decide) ?_
      refine lv_lconst (v := 1) hx hb dX12_memories_24 (by decide) ?_
      refine sg_calli (va_runS (As := [.long w_15, .long 0, .long 1]) (rest := []) ⟨hx, hb, hml, hown, hts⟩ (cf_X12_within l D ca za h hh f0M L0 Q0 w_15 0 1 H.size) (va_cwS 3 hts (gw_S (fun _ h => List.mem_cons_of_mem _ h) mw_215 mw_216 mw_217 mw_214) rfl rfl rfl (by decide +kernel) ⟨Nat.le_of_ble_eq_true rfl, Nat.le_of_ble_eq_true rfl⟩) (sg_preS hA hK hP hS hZ) rfl rfl hl.1 rfl (lv_room (Nat.le_of_ble_eq_true rfl)) dX12_memories_25 ⟨Nat.le_refl _, Nat.le_refl _⟩) hA hS (fun r_20 f_17 L_18 Q_19 H locs hq hP hS => ?_)
      obtain ⟨⟨ef9, eL9, eQ9⟩, hq⟩ := hq
      rw [ef9, eL9, eQ9] at hP; clear ef9 eL9 eQ9
      have k_21 : (0 : Int64).toInt = 0 := by decide
      have k_22 : (1 : Int64).toInt = 1 := by decide
      rcases hq with ⟨rfl, hq⟩ | ⟨rfl, hq⟩
      · skip
        have q_23 := hq
        refine lv_if_ne (tgt := 33) hx hb dX12_memories_28 (by decide) (fun c => ?_) (fun c => absurd c (by decide))
        refine lv_aload_n hx hb dX12_memories_33 rfl (lv_at hl 0 rfl) ?_
        refine lv_iload_n hx hb dX12_memories_34 rfl (lv_at hl 1 rfl) ?_
        refine sg_calli (va_runV (As := [.int x0]) (rest := []) ⟨hx, hb, hml, hown, hts⟩ (cf_X12_bytesIs l D ca za h hh x0 H.size) (cwV 1 hts (gw_V (fun _ h => List.mem_cons_of_mem _ h) mw_231 mw_232 mw_233 mw_217 mw_230) rfl rfl rfl (by decide +kernel) ⟨Nat.le_of_ble_eq_true rfl, Nat.le_of_ble_eq_true rfl⟩) (sg_preV (ci := 12) (C := RX12) (T := TX12) (N := 55) hA hK hP hS hZ 0 (by decide) rfl rfl) rfl rfl hl.1 rfl (lv_room (Nat.le_of_ble_eq_true rfl)) dX12_memories_35 ⟨Nat.le_refl _, Nat.le_refl _⟩) hA hS (fun r_27 f_24 L_25 Q_26 H locs hq hP hS => ?_)
        obtain ⟨⟨ef9, eL9, eQ9⟩, hq⟩ := hq
        rw [ef9, eL9, eQ9] at hP; clear ef9 eL9 eQ9
        rcases hq with ⟨rfl, hq⟩ | ⟨rfl, hq⟩
        · skip
          have q_28 := hq
          refine lv_if_ge (tgt := 47) hx hb dX12_memories_38 (by decide) (fun c => absurd c (by decide)) (fun c => ?_)
          refine lv_aload_n hx hb dX12_memories_41 rfl (lv_at hl 0 rfl) ?_
          refine lv_iload_n hx hb dX12_memories_42 rfl (lv_at hl 1 rfl) ?_
          refine sg_calli (va_runV (As := [.int x0]) (rest := []) ⟨hx, hb, hml, hown, hts⟩ (cf_X12_bytesIs l D ca za h hh x0 H.size) (cwV 1 hts (gw_V (fun _ h => List.mem_cons_of_mem _ h) mw_231 mw_232 mw_233 mw_217 mw_230) rfl rfl rfl (by decide +kernel) ⟨Nat.le_of_ble_eq_true rfl, Nat.le_of_ble_eq_true rfl⟩) (sg_preV (ci := 12) (C := RX12) (T := TX12) (N := 55) hA hK hP hS hZ 0 (by decide) rfl rfl) rfl rfl hl.1 rfl (lv_room (Nat.le_of_ble_eq_true rfl)) dX12_memories_43 ⟨Nat.le_refl _, Nat.le_refl _⟩) hA hS (fun r_32 f_29 L_30 Q_31 H locs hq hP hS => ?_)
          obtain ⟨⟨ef9, eL9, eQ9⟩, hq⟩ := hq
          rw [ef9, eL9, eQ9] at hP; clear ef9 eL9 eQ9
          rcases hq with ⟨rfl, hq⟩ | ⟨rfl, hq⟩
          · skip
            have q_33 := hq
            exact hret _ _ _ _ (-11) f0M L0 Q0 dX12_memories_46 hP hS ⟨trivial, Or.inl ⟨rfl, by omega⟩⟩
          · skip
            have q_34 := hq
            exact hret _ _ _ _ (-1) f0M L0 Q0 dX12_memories_46 hP hS ⟨trivial, Or.inr (⟨rfl, by omega⟩)⟩
        · skip
          have q_35 := hq
          refine lv_if_ge (tgt := 47) hx hb dX12_memories_38 (by decide) (fun c => absurd c (by decide)) (fun c => ?_)
          refine lv_aload_n hx hb dX12_memories_41 rfl (lv_at hl 0 rfl) ?_
          refine lv_iload_n hx hb dX12_memories_42 rfl (lv_at hl 1 rfl) ?_
          refine sg_calli (va_runV (As := [.int x0]) (rest := []) ⟨hx, hb, hml, hown, hts⟩ (cf_X12_bytesIs l D ca za h hh x0 H.size) (cwV 1 hts (gw_V (fun _ h => List.mem_cons_of_mem _ h) mw_231 mw_232 mw_233 mw_217 mw_230) rfl rfl rfl (by decide +kernel) ⟨Nat.le_of_ble_eq_true rfl, Nat.le_of_ble_eq_true rfl⟩) (sg_preV (ci := 12) (C := RX12) (T := TX12) (N := 55) hA hK hP hS hZ 0 (by decide) rfl rfl) rfl rfl hl.1 rfl (lv_room (Nat.le_of_ble_eq_true rfl)) dX12_memories_43 ⟨Nat.le_refl _, Nat.le_refl _⟩) hA hS (fun r_39 f_36 L_37 Q_38 H locs hq hP hS => ?_)
          obtain ⟨⟨ef9, eL9, eQ9⟩, hq⟩ := hq
          rw [ef9, eL9, eQ9] at hP; clear ef9 eL9 eQ9
          rcases hq with ⟨rfl, hq⟩ | ⟨rfl, hq⟩
          · skip
            have q_40 := hq
            exact hret _ _ _ _ (-11) f0M L0 Q0 dX12_memories_46 hP hS ⟨trivial, Or.inl ⟨rfl, by omega⟩⟩
          · skip
            have q_41 := hq
            exact hret _ _ _ _ (-1) f0M L0 Q0 dX12_memories_46 hP hS ⟨trivial, Or.inr (⟨rfl, by omega⟩)⟩
      · skip
        have q_42 := hq
        refine lv_if_ne (tgt := 33) hx hb dX12_memories_28 (by decide) (fun c => absurd c (by decide)) (fun c => ?_)
        refine lv_iconst (v := (-1)) hx hb dX12_memories_31 (by decide) ?_
        exact hret _ _ _ _ (-1) f0M L0 Q0 dX12_memories_32 hP hS ⟨trivial, Or.inr (⟨rfl, by omega⟩)⟩
    · skip
      have q_43 := hq
      refine lv_if_eq (tgt := 31) hx hb dX12_memories_18 (by decide) (fun c => ?_) (fun c => absurd c (by decide))
      refine lv_iconst (v := (-1)) hx hb dX12_memories_31 (by decide) ?_
      exact hret _ _ _ _ (-1) f0M L0 Q0 dX12_memories_32 hP hS ⟨trivial, Or.inr (⟨rfl, by omega⟩)⟩
  · skip
    have q_44 := hq
    refine lv_iconst (v := (-1)) hx hb dX12_memories_5 (by decide) ?_
    refine lv_icmp_eq (tgt := 31) hx hb dX12_memories_6 (by decide) (fun c => ?_) (fun c => absurd c (by decide))
    refine lv_iconst (v := (-1)) hx hb dX12_memories_31 (by decide) ?_
    exact hret _ _ _ _ (-1) f0M L0 Q0 dX12_memories_32 hP hS ⟨trivial, Or.inr (⟨rfl, by omega⟩)⟩

set_option maxHeartbeats 4000000 in
set_option maxRecDepth 100000 in
theorem cf_X12_marked (l : Launch) (D : va_G) (ca : Nat → ClassId) (za h : Nat → Nat) (hh : sgH 26 h) (x0 : Int32) (sz : Nat) : Met l yX12_marked gwX12_marked { frames := 3, cells := 0, slots := 0, locals := 66 } (sgP D vwCl (tyX ca) 26 h (eM ca h) zcM za f0M L0 Q0 sz [.ref (h 0), .int x0]) (sgQi D vwCl 26 h (eM ca h) sz (fun r f1 L1 Q1 => True ∧ ((r = (-11) ∧ ((0 ≤ x0.toInt ∧ x0.toInt ≤ 5))) ∨ (r = (-1) ∧ (¬ ((0 ≤ x0.toInt ∧ x0.toInt ≤ 5))))))) 0 0 (sgA 26 h sz) := by
  refine sg_ofWi (cc := cX12_marked) (maxL := 4) RX12 (by decide) rfl rfl (Nat.le_of_ble_eq_true rfl) ?_
  intro p e s m below meth cd Qz ls hx hb hml hown hts hK hZ hP hS hl hret
  have hA := sgY.self (n := 26) (h := h) (sz := s.heap.size)
  have hl : lv_has ls 4 [(0, .ref (h 0)), (1, .int x0)] := hl
  obtain ⟨H, hH⟩ : ∃ z : Heap, z = s.heap := ⟨_, rfl⟩
  obtain ⟨locs, hlo⟩ : ∃ z : List Loc, z = [] := ⟨_, rfl⟩
  have hP : va_P D vwCl (sgw 26 h (eM ca h) f0M L0 Q0) H := by rw [hH]; exact hP
  have hS : va_S (sgA 26 h s.heap.size) s.heap H locs := by rw [hH, hlo]; exact hS
  suffices hgo : W p l e ({ frames := 3, cells := 0, slots := 0, locals := 66 }) s m ([.ref (h 0), .int x0] : List Value).toArray below meth cd H locs 0 0 Qz (F0 m 0 ls []) by rw [hH, hlo] at hgo; exact hgo
  refine lv_aload_n hx hb dX12_marked_0 rfl (lv_at hl 0 rfl) ?_
  refine lv_iload_n hx hb dX12_marked_1 rfl (lv_at hl 1 rfl) ?_
  refine sg_calli (va_runV (As := [.int x0]) (rest := []) ⟨hx, hb, hml, hown, hts⟩ (cf_X12_bytesIs l D ca za h hh x0 H.size) (cwV 1 hts (gw_V (fun _ h => List.mem_cons_of_mem _ h) mw_231 mw_232 mw_233 mw_217 mw_230) rfl rfl rfl (by decide +kernel) ⟨Nat.le_of_ble_eq_true rfl, Nat.le_of_ble_eq_true rfl⟩) (sg_preV (ci := 12) (C := RX12) (T := TX12) (N := 55) hA hK hP hS hZ 0 (by decide) rfl rfl) rfl rfl hl.1 rfl (lv_room (Nat.le_of_ble_eq_true rfl)) dX12_marked_2 ⟨Nat.le_refl _, Nat.le_refl _⟩) hA hS (fun r_4 f_1 L_2 Q_3 H locs hq hP hS => ?_)
  obtain ⟨⟨ef9, eL9, eQ9⟩, hq⟩ := hq
  rw [ef9, eL9, eQ9] at hP; clear ef9 eL9 eQ9
  rcases hq with ⟨rfl, hq⟩ | ⟨rfl, hq⟩
  · skip
    have q_5 := hq
    refine lv_if_ge (tgt := 14) hx hb dX12_marked_5 (by decide) (fun c => absurd c (by decide)) (fun c => ?_)
    refine lv_aload_n hx hb dX12_marked_8 rfl (lv_at hl 0 rfl) ?_
    refine lv_iload_n hx hb dX12_marked_9 rfl (lv_at hl 1 rfl) ?_
    refine sg_calli (va_runV (As := [.int x0]) (rest := []) ⟨hx, hb, hml, hown, hts⟩ (cf_X12_bytesIs l D ca za h hh x0 H.size) (cwV 1 hts (gw_V (fun _ h => List.mem_cons_of_mem _ h) mw_231 mw_232 mw_233 mw_217 mw_230) rfl rfl rfl (by decide +kernel) ⟨Nat.le_of_ble_eq_true rfl, Nat.le_of_ble_eq_true rfl⟩) (sg_preV (ci := 12) (C := RX12) (T := TX12) (N := 55) hA hK hP hS hZ 0 (by decide) rfl rfl) rfl rfl hl.1 rfl (lv_room (Nat.le_of_ble_eq_true rfl)) dX12_marked_10 ⟨Nat.le_refl _, Nat.le_refl _⟩) hA hS (fun r_9 f_6 L_7 Q_8 H locs hq hP hS => ?_)
    obtain ⟨⟨ef9, eL9, eQ9⟩, hq⟩ := hq
    rw [ef9, eL9, eQ9] at hP; clear ef9 eL9 eQ9
    rcases hq with ⟨rfl, hq⟩ | ⟨rfl, hq⟩
    · skip
      have q_10 := hq
      exact hret _ _ _ _ (-11) f0M L0 Q0 dX12_marked_13 hP hS ⟨trivial, Or.inl ⟨rfl, by omega⟩⟩
    · skip
      have q_11 := hq
      exact hret _ _ _ _ (-1) f0M L0 Q0 dX12_marked_13 hP hS ⟨trivial, Or.inr (⟨rfl, by omega⟩)⟩
  · skip
    have q_12 := hq
    refine lv_if_ge (tgt := 14) hx hb dX12_marked_5 (by decide) (fun c => absurd c (by decide)) (fun c => ?_)
    refine lv_aload_n hx hb dX12_marked_8 rfl (lv_at hl 0 rfl) ?_
    refine lv_iload_n hx hb dX12_marked_9 rfl (lv_at hl 1 rfl) ?_
    refine sg_calli (va_runV (As := [.int x0]) (rest := []) ⟨hx, hb, hml, hown, hts⟩ (cf_X12_bytesIs l D ca za h hh x0 H.size) (cwV 1 hts (gw_V (fun _ h => List.mem_cons_of_mem _ h) mw_231 mw_232 mw_233 mw_217 mw_230) rfl rfl rfl (by decide +kernel) ⟨Nat.le_of_ble_eq_true rfl, Nat.le_of_ble_eq_true rfl⟩) (sg_preV (ci := 12) (C := RX12) (T := TX12) (N := 55) hA hK hP hS hZ 0 (by decide) rfl rfl) rfl rfl hl.1 rfl (lv_room (Nat.le_of_ble_eq_true rfl)) dX12_marked_10 ⟨Nat.le_refl _, Nat.le_refl _⟩) hA hS (fun r_16 f_13 L_14 Q_15 H locs hq hP hS => ?_)
    obtain ⟨⟨ef9, eL9, eQ9⟩, hq⟩ := hq
    rw [ef9, eL9, eQ9] at hP; clear ef9 eL9 eQ9
    rcases hq with ⟨rfl, hq⟩ | ⟨rfl, hq⟩
    · skip
      have q_17 := hq
      exact hret _ _ _ _ (-11) f0M L0 Q0 dX12_marked_13 hP hS ⟨trivial, Or.inl ⟨rfl, by omega⟩⟩
    · skip
      have q_18 := hq
      exact hret _ _ _ _ (-1) f0M L0 Q0 dX12_marked_13 hP hS ⟨trivial, Or.inr (⟨rfl, by omega⟩)⟩

set_option maxHeartbeats 4000000 in
set_option maxRecDepth 100000 in
theorem cf_X12_chairs (l : Launch) (D : va_G) (ca : Nat → ClassId) (za h : Nat → Nat) (hh : sgH 26 h) (x0 : Int32) (x1 : Int32) (x2 : Int32) (sz : Nat) : Met l yX12_chairs gwX12_chairs { frames := 3, cells := 0, slots := 0, locals := 66 } (sgP D vwCl (tyX ca) 26 h (eM ca h) zcM za f0M L0 Q0 sz [.ref (h 0), .int x0, .int x1, .int x2]) (sgQi D vwCl 26 h (eM ca h) sz (fun r f1 L1 Q1 => True ∧ ((r = (-11) ∧ ((0 ≤ x0.toInt ∧ x0.toInt ≤ 5) ∧ 0 ≤ x1.toInt ∧ x1.toInt / 10 ≤ 2 ∧ 1 ≤ x1.toInt % 10 ∧ x1.toInt % 10 ≤ 3 ∧ x2.toInt = -1)) ∨ (r = (-1) ∧ (¬ ((0 ≤ x0.toInt ∧ x0.toInt ≤ 5) ∧ 0 ≤ x1.toInt ∧ x1.toInt / 10 ≤ 2 ∧ 1 ≤ x1.toInt % 10 ∧ x1.toInt % 10 ≤ 3 ∧ x2.toInt = -1)))))) 0 0 (sgA 26 h sz) := by
  refine sg_ofWi (cc := cX12_chairs) (maxL := 7) RX12 (by decide) rfl rfl (Nat.le_of_ble_eq_true rfl) ?_
  intro p e s m below meth cd Qz ls hx hb hml hown hts hK hZ hP hS hl hret
  have hA := sgY.self (n := 26) (h := h) (sz := s.heap.size)
  have hl : lv_has ls 7 [(0, .ref (h 0)), (1, .int x0), (2, .int x1), (3, .int x2)] := hl
  obtain ⟨H, hH⟩ : ∃ z : Heap, z = s.heap := ⟨_, rfl⟩
  obtain ⟨locs, hlo⟩ : ∃ z : List Loc, z = [] := ⟨_, rfl⟩
  have hP : va_P D vwCl (sgw 26 h (eM ca h) f0M L0 Q0) H := by rw [hH]; exact hP
  have hS : va_S (sgA 26 h s.heap.size) s.heap H locs := by rw [hH, hlo]; exact hS
  suffices hgo : W p l e ({ frames := 3, cells := 0, slots := 0, locals := 66 }) s m ([.ref (h 0), .int x0, .int x1, .int x2] : List Value).toArray below meth cd H locs 0 0 Qz (F0 m 0 ls []) by rw [hH, hlo] at hgo; exact hgo
  refine lv_aload_n hx hb dX12_chairs_0 rfl (lv_at hl 0 rfl) ?_
  refine lv_iload_n hx hb dX12_chairs_1 rfl (lv_at hl 1 rfl) ?_
  refine sg_calli (va_runV (As := [.int x0]) (rest := []) ⟨hx, hb, hml, hown, hts⟩ (cf_X12_bytesIs l D ca za h hh x0 H.size) (cwV 1 hts (gw_V (fun _ h => List.mem_cons_of_mem _ h) mw_231 mw_232 mw_233 mw_217 mw_230) rfl rfl rfl (by decide +kernel) ⟨Nat.le_of_ble_eq_true rfl, Nat.le_of_ble_eq_true rfl⟩) (sg_preV (ci := 12) (C := RX12) (T := TX12) (N := 55) hA hK hP hS hZ 0 (by decide) rfl rfl) rfl rfl hl.1 rfl (lv_room (Nat.le_of_ble_eq_true rfl)) dX12_chairs_2 ⟨Nat.le_refl _, Nat.le_refl _⟩) hA hS (fun r_4 f_1 L_2 Q_3 H locs hq hP hS => ?_)
  obtain ⟨⟨ef9, eL9, eQ9⟩, hq⟩ := hq
  rw [ef9, eL9, eQ9] at hP; clear ef9 eL9 eQ9
  rcases hq with ⟨rfl, hq⟩ | ⟨rfl, hq⟩
  · skip
    have q_5 := hq
    refine lv_iconst (v := (-1)) hx hb dX12_chairs_5 (by decide) ?_
    refine lv_icmp_eq (tgt := 52) hx hb dX12_chairs_6 (by decide) (fun c => absurd c (by decide)) (fun c => ?_)
    refine lv_iload_n hx hb dX12_chairs_9 rfl (lv_at hl 2 rfl) ?_
    refine lv_if_lt (tgt := 52) hx hb dX12_chairs_10 (by decide) (fun c => ?_) (fun c => ?_)
    · skip
      have c_6 : x1.toInt < 0 := (by have z := bn_lt c; have k1 : (0 : Int32).toInt = 0 := (by decide); omega)
      refine lv_iconst (v := (-1)) hx hb dX12_chairs_52 (by decide) ?_
      exact hret _ _ _ _ (-1) f0M L0 Q0 dX12_chairs_53 hP hS ⟨trivial, Or.inr (⟨rfl, by omega⟩)⟩
    · skip
      have c_7 : 0 ≤ x1.toInt := (by have z := bn_nlt c; have k1 : (0 : Int32).toInt = 0 := (by decide); omega)
      refine lv_iload_n hx hb dX12_chairs_13 rfl (lv_at hl 2 rfl) ?_
      refine lv_bipush (v := 10) hx hb dX12_chairs_14 (by decide) ?_
      refine lv_idiv hx hb dX12_chairs_16 (by decide) ?_
      refine lv_topi (fun v_8 ev_8 => ?_)
      have q_9 : 0 ≤ x1.toInt → v_8.toInt = x1.toInt / 10 := fun z => by rw [ev_8]; exact bn_divI z (by decide) (by decide)
      refine sg_calli (va_runS (As := [.int v_8]) (rest := []) ⟨hx, hb, hml, hown, hts⟩ (cf_X12_isPart l D ca za h hh f0M L0 Q0 v_8 H.size) (va_cwS 1 hts (gw_S (fun _ h => List.mem_cons_of_mem _ h) mw_235 mw_236 mw_217 mw_234) rfl rfl rfl (by decide +kernel) ⟨Nat.le_of_ble_eq_true rfl, Nat.le_of_ble_eq_true rfl⟩) (sg_preS hA hK hP hS hZ) rfl rfl hl.1 rfl (lv_room (Nat.le_of_ble_eq_true rfl)) dX12_chairs_17 ⟨Nat.le_refl _, Nat.le_refl _⟩) hA hS (fun r_13 f_10 L_11 Q_12 H locs hq hP hS => ?_)
      obtain ⟨⟨ef9, eL9, eQ9⟩, hq⟩ := hq
      rw [ef9, eL9, eQ9] at hP; clear ef9 eL9 eQ9
      rcases hq with ⟨rfl, hq⟩ | ⟨rfl, hq⟩
      · skip
        have q_14 := hq
        refine lv_if_eq (tgt := 52) hx hb dX12_chairs_20 (by decide) (fun c => absurd c (by decide)) (fun c => ?_)
        refine lv_iload_n hx hb dX12_chairs_23 rfl (lv_at hl 2 rfl) ?_
        refine lv_bipush (v := 10) hx hb dX12_chairs_24 (by decide) ?_
        refine lv_irem hx hb dX12_chairs_26 (by decide) ?_
        refine lv_topi (fun v_15 ev_15 => ?_)
        have q_16 : 0 ≤ x1.toInt → v_15.toInt = x1.toInt % 10 := fun z => by rw [ev_15]; exact bn_remI z (by decide) (by decide)
        obtain ⟨w_17, ew_17⟩ : ∃ z : Int64, z = v_15.toInt64 := ⟨_, rfl⟩
        have q_18 : w_17.toInt = v_15.toInt := by rw [ew_17]; exact Int32.toInt_toInt64 _
        refine lv_i2l (v := w_17) hx hb dX12_chairs_27 ew_17.symm ?_
        refine lv_lconst (v := 1) hx hb dX12_chairs_28 (by decide) ?_
        refine lv_ldc2 (v := 3) hx hb hown (hts _ (List.mem_cons_of_mem _ mw_240)) dX12_chairs_29 ?_
        refine sg_calli (va_runS (As := [.long w_17, .long 1, .long 3]) (rest := []) ⟨hx, hb, hml, hown, hts⟩ (cf_X12_within l D ca za h hh f0M L0 Q0 w_17 1 3 H.size) (va_cwS 3 hts (gw_S (fun _ h => List.mem_cons_of_mem _ h) mw_215 mw_216 mw_217 mw_214) rfl rfl rfl (by decide +kernel) ⟨Nat.le_of_ble_eq_true rfl, Nat.le_of_ble_eq_true rfl⟩) (sg_preS hA hK hP hS hZ) rfl rfl hl.1 rfl (lv_room (Nat.le_of_ble_eq_true rfl)) dX12_chairs_32 ⟨Nat.le_refl _, Nat.le_refl _⟩) hA hS (fun r_22 f_19 L_20 Q_21 H locs hq hP hS => ?_)
        obtain ⟨⟨ef9, eL9, eQ9⟩, hq⟩ := hq
        rw [ef9, eL9, eQ9] at hP; clear ef9 eL9 eQ9
        have k_23 : (1 : Int64).toInt = 1 := by decide
        have k_24 : (3 : Int64).toInt = 3 := by decide
        rcases hq with ⟨rfl, hq⟩ | ⟨rfl, hq⟩
        · skip
          have q_25 := hq
          refine lv_if_eq (tgt := 52) hx hb dX12_chairs_35 (by decide) (fun c => absurd c (by decide)) (fun c => ?_)
          refine lv_iload_n hx hb dX12_chairs_38 rfl (lv_at hl 3 rfl) ?_
          refine lv_iconst (v := (-1)) hx hb dX12_chairs_39 (by decide) ?_
          refine lv_icmp_eq (tgt := 54) hx hb dX12_chairs_40 (by decide) (fun c => ?_) (fun c => ?_)
          · skip
            have c_26 : x2.toInt = (-1) := (by have z := Int32.toInt_inj.mpr c; have k1 : ((-1) : Int32).toInt = (-1) := (by decide); omega)
            refine lv_aload_n hx hb dX12_chairs_54 rfl (lv_at hl 0 rfl) ?_
            refine lv_iload_n hx hb dX12_chairs_55 rfl (lv_at hl 1 rfl) ?_
            refine sg_calli (va_runV (As := [.int x0]) (rest := []) ⟨hx, hb, hml, hown, hts⟩ (cf_X12_bytesIs l D ca za h hh x0 H.size) (cwV 1 hts (gw_V (fun _ h => List.mem_cons_of_mem _ h) mw_231 mw_232 mw_233 mw_217 mw_230) rfl rfl rfl (by decide +kernel) ⟨Nat.le_of_ble_eq_true rfl, Nat.le_of_ble_eq_true rfl⟩) (sg_preV (ci := 12) (C := RX12) (T := TX12) (N := 55) hA hK hP hS hZ 0 (by decide) rfl rfl) rfl rfl hl.1 rfl (lv_room (Nat.le_of_ble_eq_true rfl)) dX12_chairs_56 ⟨Nat.le_refl _, Nat.le_refl _⟩) hA hS (fun r_31 f_28 L_29 Q_30 H locs hq hP hS => ?_)
            obtain ⟨⟨ef9, eL9, eQ9⟩, hq⟩ := hq
            rw [ef9, eL9, eQ9] at hP; clear ef9 eL9 eQ9
            rcases hq with ⟨rfl, hq⟩ | ⟨rfl, hq⟩
            · skip
              have q_32 := hq
              refine lv_if_ge (tgt := 68) hx hb dX12_chairs_59 (by decide) (fun c => absurd c (by decide)) (fun c => ?_)
              refine lv_aload_n hx hb dX12_chairs_62 rfl (lv_at hl 0 rfl) ?_
              refine lv_iload_n hx hb dX12_chairs_63 rfl (lv_at hl 1 rfl) ?_
              refine sg_calli (va_runV (As := [.int x0]) (rest := []) ⟨hx, hb, hml, hown, hts⟩ (cf_X12_bytesIs l D ca za h hh x0 H.size) (cwV 1 hts (gw_V (fun _ h => List.mem_cons_of_mem _ h) mw_231 mw_232 mw_233 mw_217 mw_230) rfl rfl rfl (by decide +kernel) ⟨Nat.le_of_ble_eq_true rfl, Nat.le_of_ble_eq_true rfl⟩) (sg_preV (ci := 12) (C := RX12) (T := TX12) (N := 55) hA hK hP hS hZ 0 (by decide) rfl rfl) rfl rfl hl.1 rfl (lv_room (Nat.le_of_ble_eq_true rfl)) dX12_chairs_64 ⟨Nat.le_refl _, Nat.le_refl _⟩) hA hS (fun r_36 f_33 L_34 Q_35 H locs hq hP hS => ?_)
              obtain ⟨⟨ef9, eL9, eQ9⟩, hq⟩ := hq
              rw [ef9, eL9, eQ9] at hP; clear ef9 eL9 eQ9
              rcases hq with ⟨rfl, hq⟩ | ⟨rfl, hq⟩
              · skip
                have q_37 := hq
                exact hret _ _ _ _ (-11) f0M L0 Q0 dX12_chairs_67 hP hS ⟨trivial, Or.inl ⟨rfl, by omega⟩⟩
              · skip
                have q_38 := hq
                exact hret _ _ _ _ (-1) f0M L0 Q0 dX12_chairs_67 hP hS ⟨trivial, Or.inr (⟨rfl, by omega⟩)⟩
            · skip
              have q_39 := hq
              refine lv_if_ge (tgt := 68) hx hb dX12_chairs_59 (by decide) (fun c => absurd c (by decide)) (fun c => ?_)
              refine lv_aload_n hx hb dX12_chairs_62 rfl (lv_at hl 0 rfl) ?_
              refine lv_iload_n hx hb dX12_chairs_63 rfl (lv_at hl 1 rfl) ?_
              refine sg_calli (va_runV (As := [.int x0]) (rest := []) ⟨hx, hb, hml, hown, hts⟩ (cf_X12_bytesIs l D ca za h hh x0 H.size) (cwV 1 hts (gw_V (fun _ h => List.mem_cons_of_mem _ h) mw_231 mw_232 mw_233 mw_217 mw_230) rfl rfl rfl (by decide +kernel) ⟨Nat.le_of_ble_eq_true rfl, Nat.le_of_ble_eq_true rfl⟩) (sg_preV (ci := 12) (C := RX12) (T := TX12) (N := 55) hA hK hP hS hZ 0 (by decide) rfl rfl) rfl rfl hl.1 rfl (lv_room (Nat.le_of_ble_eq_true rfl)) dX12_chairs_64 ⟨Nat.le_refl _, Nat.le_refl _⟩) hA hS (fun r_43 f_40 L_41 Q_42 H locs hq hP hS => ?_)
              obtain ⟨⟨ef9, eL9, eQ9⟩, hq⟩ := hq
              rw [ef9, eL9, eQ9] at hP; clear ef9 eL9 eQ9
              rcases hq with ⟨rfl, hq⟩ | ⟨rfl, hq⟩
              · skip
                have q_44 := hq
                exact hret _ _ _ _ (-11) f0M L0 Q0 dX12_chairs_67 hP hS ⟨trivial, Or.inl ⟨rfl, by omega⟩⟩
              · skip
                have q_45 := hq
                exact hret _ _ _ _ (-1) f0M L0 Q0 dX12_chairs_67 hP hS ⟨trivial, Or.inr (⟨rfl, by omega⟩)⟩
          · skip
            have c_27 : x2.toInt ≠ (-1) := (by have z := bn_ne c; have k1 : ((-1) : Int32).toInt = (-1) := (by decide); omega)
            refine lv_aload_n hx hb dX12_chairs_43 rfl (lv_at hl 0 rfl) ?_
            refine lv_iload_n hx hb dX12_chairs_44 rfl (lv_at hl 3 rfl) ?_
            obtain ⟨w_46, ew_46⟩ : ∃ z : Int64, z = x2.toInt64 := ⟨_, rfl⟩
            have q_47 : w_46.toInt = x2.toInt := by rw [ew_46]; exact Int32.toInt_toInt64 _
            refine lv_i2l (v := w_46) hx hb dX12_chairs_45 ew_46.symm ?_
            refine sg_calli (va_runV (As := [.long w_46]) (rest := []) ⟨hx, hb, hml, hown, hts⟩ (cf_X12_isSitter l D ca za h hh f0M L0 Q0 w_46 rfl H.size) (cwV 1 hts (gw_V (fun _ h => List.mem_cons_of_mem _ h) mw_227 mw_228 mw_229 mw_217 mw_226) rfl rfl rfl (by decide +kernel) ⟨Nat.le_of_ble_eq_true rfl, Nat.le_of_ble_eq_true rfl⟩) (sg_preV (ci := 12) (C := RX12) (T := TX12) (N := 55) hA hK hP hS hZ 0 (by decide) rfl rfl) rfl rfl hl.1 rfl (lv_room (Nat.le_of_ble_eq_true rfl)) dX12_chairs_46 ⟨Nat.le_refl _, Nat.le_refl _⟩) hA hS (fun r_51 f_48 L_49 Q_50 H locs hq hP hS => ?_)
            obtain ⟨⟨ef9, eL9, eQ9⟩, hq⟩ := hq
            rw [ef9, eL9, eQ9] at hP; clear ef9 eL9 eQ9
            obtain ⟨rfl, hq⟩ := hq
            have q_52 := hq
            refine lv_if_ne (tgt := 54) hx hb dX12_chairs_49 (by decide) (fun c => absurd c (by decide)) (fun c => ?_)
            refine lv_iconst (v := (-1)) hx hb dX12_chairs_52 (by decide) ?_
            exact hret _ _ _ _ (-1) f0M L0 Q0 dX12_chairs_53 hP hS ⟨trivial, Or.inr (⟨rfl, by omega⟩)⟩
        · skip
          have q_53 := hq
          refine lv_if_eq (tgt := 52) hx hb dX12_chairs_35 (by decide) (fun c => ?_) (fun c => absurd c (by decide))
          refine lv_iconst (v := (-1)) hx hb dX12_chairs_52 (by decide) ?_
          exact hret _ _ _ _ (-1) f0M L0 Q0 dX12_chairs_53 hP hS ⟨trivial, Or.inr (⟨rfl, by omega⟩)⟩
      · skip
        have q_54 := hq
        refine lv_if_eq (tgt := 52) hx hb dX12_chairs_20 (by decide) (fun c => ?_) (fun c => absurd c (by decide))
        refine lv_iconst (v := (-1)) hx hb dX12_chairs_52 (by decide) ?_
        exact hret _ _ _ _ (-1) f0M L0 Q0 dX12_chairs_53 hP hS ⟨trivial, Or.inr (⟨rfl, by omega⟩)⟩
  · skip
    have q_55 := hq
    refine lv_iconst (v := (-1)) hx hb dX12_chairs_5 (by decide) ?_
    refine lv_icmp_eq (tgt := 52) hx hb dX12_chairs_6 (by decide) (fun c => ?_) (fun c => absurd c (by decide))
    refine lv_iconst (v := (-1)) hx hb dX12_chairs_52 (by decide) ?_
    exact hret _ _ _ _ (-1) f0M L0 Q0 dX12_chairs_53 hP hS ⟨trivial, Or.inr (⟨rfl, by omega⟩)⟩

set_option maxHeartbeats 4000000 in
set_option maxRecDepth 100000 in
theorem cf_X12_wilful (l : Launch) (D : va_G) (ca : Nat → ClassId) (za h : Nat → Nat) (hh : sgH 26 h) (x0 : Int32) (x1 : Int32) (x2 : Int32) (sz : Nat) : Met l yX12_wilful gwX12_wilful { frames := 3, cells := 0, slots := 0, locals := 66 } (sgP D vwCl (tyX ca) 26 h (eM ca h) zcM za f0M L0 Q0 sz [.ref (h 0), .int x0, .int x1, .int x2]) (sgQi D vwCl 26 h (eM ca h) sz (fun r f1 L1 Q1 => True ∧ ((r = (-2000000000) ∧ (True))))) 0 0 (sgA 26 h sz) := by
  refine sg_ofWi (cc := cX12_wilful) (maxL := 6) RX12 (by decide) rfl rfl (Nat.le_of_ble_eq_true rfl) ?_
  intro p e s m below meth cd Qz ls hx hb hml hown hts hK hZ hP hS hl hret
  have hA := sgY.self (n := 26) (h := h) (sz := s.heap.size)
  have hl : lv_has ls 6 [(0, .ref (h 0)), (1, .int x0), (2, .int x1), (3, .int x2)] := hl
  obtain ⟨H, hH⟩ : ∃ z : Heap, z = s.heap := ⟨_, rfl⟩
  obtain ⟨locs, hlo⟩ : ∃ z : List Loc, z = [] := ⟨_, rfl⟩
  have hP : va_P D vwCl (sgw 26 h (eM ca h) f0M L0 Q0) H := by rw [hH]; exact hP
  have hS : va_S (sgA 26 h s.heap.size) s.heap H locs := by rw [hH, hlo]; exact hS
  suffices hgo : W p l e ({ frames := 3, cells := 0, slots := 0, locals := 66 }) s m ([.ref (h 0), .int x0, .int x1, .int x2] : List Value).toArray below meth cd H locs 0 0 Qz (F0 m 0 ls []) by rw [hH, hlo] at hgo; exact hgo
  refine lv_aload_n hx hb dX12_wilful_0 rfl (lv_at hl 0 rfl) ?_
  refine lv_iload_n hx hb dX12_wilful_1 rfl (lv_at hl 1 rfl) ?_
  refine sg_calli (va_runV (As := [.int x0]) (rest := []) ⟨hx, hb, hml, hown, hts⟩ (cf_X12_bytesIs l D ca za h hh x0 H.size) (cwV 1 hts (gw_V (fun _ h => List.mem_cons_of_mem _ h) mw_231 mw_232 mw_233 mw_217 mw_230) rfl rfl rfl (by decide +kernel) ⟨Nat.le_of_ble_eq_true rfl, Nat.le_of_ble_eq_true rfl⟩) (sg_preV (ci := 12) (C := RX12) (T := TX12) (N := 55) hA hK hP hS hZ 0 (by decide) rfl rfl) rfl rfl hl.1 rfl (lv_room (Nat.le_of_ble_eq_true rfl)) dX12_wilful_2 ⟨Nat.le_refl _, Nat.le_refl _⟩) hA hS (fun r_4 f_1 L_2 Q_3 H locs hq hP hS => ?_)
  obtain ⟨⟨ef9, eL9, eQ9⟩, hq⟩ := hq
  rw [ef9, eL9, eQ9] at hP; clear ef9 eL9 eQ9
  rcases hq with ⟨rfl, hq⟩ | ⟨rfl, hq⟩
  · skip
    have q_5 := hq
    refine lv_if_lt (tgt := 25) hx hb dX12_wilful_5 (by decide) (fun c => ?_) (fun c => absurd c (by decide))
    refine lv_ldcw (v := (-2000000000)) hx hb hown (hts _ (List.mem_cons_of_mem _ mw_241)) dX12_wilful_25 ?_
    exact hret _ _ _ _ (-2000000000) f0M L0 Q0 dX12_wilful_28 hP hS ⟨trivial, ⟨rfl, trivial⟩⟩
  · skip
    have q_6 := hq
    refine lv_if_lt (tgt := 25) hx hb dX12_wilful_5 (by decide) (fun c => ?_) (fun c => absurd c (by decide))
    refine lv_ldcw (v := (-2000000000)) hx hb hown (hts _ (List.mem_cons_of_mem _ mw_241)) dX12_wilful_25 ?_
    exact hret _ _ _ _ (-2000000000) f0M L0 Q0 dX12_wilful_28 hP hS ⟨trivial, ⟨rfl, trivial⟩⟩

set_option maxHeartbeats 4000000 in
set_option maxRecDepth 100000 in
theorem cf_X12_who (l : Launch) (D : va_G) (ca : Nat → ClassId) (za h : Nat → Nat) (hh : sgH 26 h) (x0 : Int32) (x1 : Int32) (x2 : Int32) (sz : Nat) : Met l yX12_who gwX12_who { frames := 3, cells := 0, slots := 0, locals := 66 } (sgP D vwCl (tyX ca) 26 h (eM ca h) zcM za f0M L0 Q0 sz [.ref (h 0), .int x0, .int x1, .int x2]) (sgQi D vwCl 26 h (eM ca h) sz (fun r f1 L1 Q1 => True ∧ ((r = (-11) ∧ ((0 ≤ x0.toInt ∧ x0.toInt ≤ 5) ∧ (0 ≤ x1.toInt ∧ x1.toInt ≤ 2) ∧ (0 ≤ x2.toInt ∧ x2.toInt ≤ 11))) ∨ (r = (-1) ∧ (¬ ((0 ≤ x0.toInt ∧ x0.toInt ≤ 5) ∧ (0 ≤ x1.toInt ∧ x1.toInt ≤ 2) ∧ (0 ≤ x2.toInt ∧ x2.toInt ≤ 11))))))) 0 0 (sgA 26 h sz) := by
  refine sg_ofWi (cc := cX12_who) (maxL := 10) RX12 (by decide) rfl rfl (Nat.le_of_ble_eq_true rfl) ?_
  intro p e s m below meth cd Qz ls hx hb hml hown hts hK hZ hP hS hl hret
  have hA := sgY.self (n := 26) (h := h) (sz := s.heap.size)
  have hl : lv_has ls 10 [(0, .ref (h 0)), (1, .int x0), (2, .int x1), (3, .int x2)] := hl
  obtain ⟨H, hH⟩ : ∃ z : Heap, z = s.heap := ⟨_, rfl⟩
  obtain ⟨locs, hlo⟩ : ∃ z : List Loc, z = [] := ⟨_, rfl⟩
  have hP : va_P D vwCl (sgw 26 h (eM ca h) f0M L0 Q0) H := by rw [hH]; exact hP
  have hS : va_S (sgA 26 h s.heap.size) s.heap H locs := by rw [hH, hlo]; exact hS
  suffices hgo : W p l e ({ frames := 3, cells := 0, slots := 0, locals := 66 }) s m ([.ref (h 0), .int x0, .int x1, .int x2] : List Value).toArray below meth cd H locs 0 0 Qz (F0 m 0 ls []) by rw [hH, hlo] at hgo; exact hgo
  refine lv_aload_n hx hb dX12_who_0 rfl (lv_at hl 0 rfl) ?_
  refine lv_iload_n hx hb dX12_who_1 rfl (lv_at hl 1 rfl) ?_
  refine sg_calli (va_runV (As := [.int x0]) (rest := []) ⟨hx, hb, hml, hown, hts⟩ (cf_X12_bytesIs l D ca za h hh x0 H.size) (cwV 1 hts (gw_V (fun _ h => List.mem_cons_of_mem _ h) mw_231 mw_232 mw_233 mw_217 mw_230) rfl rfl rfl (by decide +kernel) ⟨Nat.le_of_ble_eq_true rfl, Nat.le_of_ble_eq_true rfl⟩) (sg_preV (ci := 12) (C := RX12) (T := TX12) (N := 55) hA hK hP hS hZ 0 (by decide) rfl rfl) rfl rfl hl.1 rfl (lv_room (Nat.le_of_ble_eq_true rfl)) dX12_who_2 ⟨Nat.le_refl _, Nat.le_refl _⟩) hA hS (fun r_4 f_1 L_2 Q_3 H locs hq hP hS => ?_)
  obtain ⟨⟨ef9, eL9, eQ9⟩, hq⟩ := hq
  rw [ef9, eL9, eQ9] at hP; clear ef9 eL9 eQ9
  rcases hq with ⟨rfl, hq⟩ | ⟨rfl, hq⟩
  · skip
    have q_5 := hq
    refine lv_iconst (v := (-1)) hx hb dX12_who_5 (by decide) ?_
    refine lv_icmp_eq (tgt := 28) hx hb dX12_who_6 (by decide) (fun c => absurd c (by decide)) (fun c => ?_)
    refine lv_iload_n hx hb dX12_who_9 rfl (lv_at hl 2 rfl) ?_
    refine sg_calli (va_runS (As := [.int x1]) (rest := []) ⟨hx, hb, hml, hown, hts⟩ (cf_X12_isPart l D ca za h hh f0M L0 Q0 x1 H.size) (va_cwS 1 hts (gw_S (fun _ h => List.mem_cons_of_mem _ h) mw_235 mw_236 mw_217 mw_234) rfl rfl rfl (by decide +kernel) ⟨Nat.le_of_ble_eq_true rfl, Nat.le_of_ble_eq_true rfl⟩) (sg_preS hA hK hP hS hZ) rfl rfl hl.1 rfl (lv_room (Nat.le_of_ble_eq_true rfl)) dX12_who_10 ⟨Nat.le_refl _, Nat.le_refl _⟩) hA hS (fun r_9 f_6 L_7 Q_8 H locs hq hP hS => ?_)
    obtain ⟨⟨ef9, eL9, eQ9⟩, hq⟩ := hq
    rw [ef9, eL9, eQ9] at hP; clear ef9 eL9 eQ9
    rcases hq with ⟨rfl, hq⟩ | ⟨rfl, hq⟩
    · skip
      have q_10 := hq
      refine lv_if_eq (tgt := 28) hx hb dX12_who_13 (by decide) (fun c => absurd c (by decide)) (fun c => ?_)
      refine lv_iload_n hx hb dX12_who_16 rfl (lv_at hl 3 rfl) ?_
      obtain ⟨w_11, ew_11⟩ : ∃ z : Int64, z = x2.toInt64 := ⟨_, rfl⟩
      have q_12 : w_11.toInt = x2.toInt := by rw [ew_11]; exact Int32.toInt_toInt64 _
      refine lv_i2l (v := w_11) hx hb dX12_who_17 ew_11.symm ?_
      refine lv_lconst (v := 0) hx hb dX12_who_18 (by decide) ?_
      refine lv_ldc2 (v := 11) hx hb hown (hts _ (List.mem_cons_of_mem _ mw_242)) dX12_who_19 ?_
      refine sg_calli (va_runS (As := [.long w_11, .long 0, .long 11]) (rest := []) ⟨hx, hb, hml, hown, hts⟩ (cf_X12_within l D ca za h hh f0M L0 Q0 w_11 0 11 H.size) (va_cwS 3 hts (gw_S (fun _ h => List.mem_cons_of_mem _ h) mw_215 mw_216 mw_217 mw_214) rfl rfl rfl (by decide +kernel) ⟨Nat.le_of_ble_eq_true rfl, Nat.le_of_ble_eq_true rfl⟩) (sg_preS hA hK hP hS hZ) rfl rfl hl.1 rfl (lv_room (Nat.le_of_ble_eq_true rfl)) dX12_who_22 ⟨Nat.le_refl _, Nat.le_refl _⟩) hA hS (fun r_16 f_13 L_14 Q_15 H locs hq hP hS => ?_)
      obtain ⟨⟨ef9, eL9, eQ9⟩, hq⟩ := hq
      rw [ef9, eL9, eQ9] at hP; clear ef9 eL9 eQ9
      have k_17 : (0 : Int64).toInt = 0 := by decide
      have k_18 : (11 : Int64).toInt = 11 := by decide
      rcases hq with ⟨rfl, hq⟩ | ⟨rfl, hq⟩
      · skip
        have q_19 := hq
        refine lv_if_ne (tgt := 30) hx hb dX12_who_25 (by decide) (fun c => ?_) (fun c => absurd c (by decide))
        refine lv_aload_n hx hb dX12_who_30 rfl (lv_at hl 0 rfl) ?_
        refine lv_iload_n hx hb dX12_who_31 rfl (lv_at hl 1 rfl) ?_
        refine sg_calli (va_runV (As := [.int x0]) (rest := []) ⟨hx, hb, hml, hown, hts⟩ (cf_X12_bytesIs l D ca za h hh x0 H.size) (cwV 1 hts (gw_V (fun _ h => List.mem_cons_of_mem _ h) mw_231 mw_232 mw_233 mw_217 mw_230) rfl rfl rfl (by decide +kernel) ⟨Nat.le_of_ble_eq_true rfl, Nat.le_of_ble_eq_true rfl⟩) (sg_preV (ci := 12) (C := RX12) (T := TX12) (N := 55) hA hK hP hS hZ 0 (by decide) rfl rfl) rfl rfl hl.1 rfl (lv_room (Nat.le_of_ble_eq_true rfl)) dX12_who_32 ⟨Nat.le_refl _, Nat.le_refl _⟩) hA hS (fun r_23 f_20 L_21 Q_22 H locs hq hP hS => ?_)
        obtain ⟨⟨ef9, eL9, eQ9⟩, hq⟩ := hq
        rw [ef9, eL9, eQ9] at hP; clear ef9 eL9 eQ9
        rcases hq with ⟨rfl, hq⟩ | ⟨rfl, hq⟩
        · skip
          have q_24 := hq
          refine lv_if_ge (tgt := 44) hx hb dX12_who_35 (by decide) (fun c => absurd c (by decide)) (fun c => ?_)
          refine lv_aload_n hx hb dX12_who_38 rfl (lv_at hl 0 rfl) ?_
          refine lv_iload_n hx hb dX12_who_39 rfl (lv_at hl 1 rfl) ?_
          refine sg_calli (va_runV (As := [.int x0]) (rest := []) ⟨hx, hb, hml, hown, hts⟩ (cf_X12_bytesIs l D ca za h hh x0 H.size) (cwV 1 hts (gw_V (fun _ h => List.mem_cons_of_mem _ h) mw_231 mw_232 mw_233 mw_217 mw_230) rfl rfl rfl (by decide +kernel) ⟨Nat.le_of_ble_eq_true rfl, Nat.le_of_ble_eq_true rfl⟩) (sg_preV (ci := 12) (C := RX12) (T := TX12) (N := 55) hA hK hP hS hZ 0 (by decide) rfl rfl) rfl rfl hl.1 rfl (lv_room (Nat.le_of_ble_eq_true rfl)) dX12_who_40 ⟨Nat.le_refl _, Nat.le_refl _⟩) hA hS (fun r_28 f_25 L_26 Q_27 H locs hq hP hS => ?_)
          obtain ⟨⟨ef9, eL9, eQ9⟩, hq⟩ := hq
          rw [ef9, eL9, eQ9] at hP; clear ef9 eL9 eQ9
          rcases hq with ⟨rfl, hq⟩ | ⟨rfl, hq⟩
          · skip
            have q_29 := hq
            exact hret _ _ _ _ (-11) f0M L0 Q0 dX12_who_43 hP hS ⟨trivial, Or.inl ⟨rfl, by omega⟩⟩
          · skip
            have q_30 := hq
            exact hret _ _ _ _ (-1) f0M L0 Q0 dX12_who_43 hP hS ⟨trivial, Or.inr (⟨rfl, by omega⟩)⟩
        · skip
          have q_31 := hq
          refine lv_if_ge (tgt := 44) hx hb dX12_who_35 (by decide) (fun c => absurd c (by decide)) (fun c => ?_)
          refine lv_aload_n hx hb dX12_who_38 rfl (lv_at hl 0 rfl) ?_
          refine lv_iload_n hx hb dX12_who_39 rfl (lv_at hl 1 rfl) ?_
          refine sg_calli (va_runV (As := [.int x0]) (rest := []) ⟨hx, hb, hml, hown, hts⟩ (cf_X12_bytesIs l D ca za h hh x0 H.size) (cwV 1 hts (gw_V (fun _ h => List.mem_cons_of_mem _ h) mw_231 mw_232 mw_233 mw_217 mw_230) rfl rfl rfl (by decide +kernel) ⟨Nat.le_of_ble_eq_true rfl, Nat.le_of_ble_eq_true rfl⟩) (sg_preV (ci := 12) (C := RX12) (T := TX12) (N := 55) hA hK hP hS hZ 0 (by decide) rfl rfl) rfl rfl hl.1 rfl (lv_room (Nat.le_of_ble_eq_true rfl)) dX12_who_40 ⟨Nat.le_refl _, Nat.le_refl _⟩) hA hS (fun r_35 f_32 L_33 Q_34 H locs hq hP hS => ?_)
          obtain ⟨⟨ef9, eL9, eQ9⟩, hq⟩ := hq
          rw [ef9, eL9, eQ9] at hP; clear ef9 eL9 eQ9
          rcases hq with ⟨rfl, hq⟩ | ⟨rfl, hq⟩
          · skip
            have q_36 := hq
            exact hret _ _ _ _ (-11) f0M L0 Q0 dX12_who_43 hP hS ⟨trivial, Or.inl ⟨rfl, by omega⟩⟩
          · skip
            have q_37 := hq
            exact hret _ _ _ _ (-1) f0M L0 Q0 dX12_who_43 hP hS ⟨trivial, Or.inr (⟨rfl, by omega⟩)⟩
      · skip
        have q_38 := hq
        refine lv_if_ne (tgt := 30) hx hb dX12_who_25 (by decide) (fun c => absurd c (by decide)) (fun c => ?_)
        refine lv_iconst (v := (-1)) hx hb dX12_who_28 (by decide) ?_
        exact hret _ _ _ _ (-1) f0M L0 Q0 dX12_who_29 hP hS ⟨trivial, Or.inr (⟨rfl, by omega⟩)⟩
    · skip
      have q_39 := hq
      refine lv_if_eq (tgt := 28) hx hb dX12_who_13 (by decide) (fun c => ?_) (fun c => absurd c (by decide))
      refine lv_iconst (v := (-1)) hx hb dX12_who_28 (by decide) ?_
      exact hret _ _ _ _ (-1) f0M L0 Q0 dX12_who_29 hP hS ⟨trivial, Or.inr (⟨rfl, by omega⟩)⟩
  · skip
    have q_40 := hq
    refine lv_iconst (v := (-1)) hx hb dX12_who_5 (by decide) ?_
    refine lv_icmp_eq (tgt := 28) hx hb dX12_who_6 (by decide) (fun c => ?_) (fun c => absurd c (by decide))
    refine lv_iconst (v := (-1)) hx hb dX12_who_28 (by decide) ?_
    exact hret _ _ _ _ (-1) f0M L0 Q0 dX12_who_29 hP hS ⟨trivial, Or.inr (⟨rfl, by omega⟩)⟩

set_option maxHeartbeats 4000000 in
set_option maxRecDepth 100000 in
theorem cf_X12_judge (l : Launch) (D : va_G) (ca : Nat → ClassId) (za h : Nat → Nat) (hh : sgH 26 h) (x0 : Int32) (x1 : Int32) (sz : Nat) : Met l yX12_judge gwX12_judge { frames := 2, cells := 0, slots := 0, locals := 45 } (sgP D vwCl (tyX ca) 26 h (eM ca h) zcM za f0M L0 Q0 sz [.ref (h 0), .int x0, .int x1]) (sgQi D vwCl 26 h (eM ca h) sz (fun r f1 L1 Q1 => True ∧ ((r = (-11) ∧ (0 ≤ x0.toInt ∧ x0.toInt / 10 ≤ 5 ∧ x0.toInt % 10 ≤ 5 ∧ (0 ≤ x1.toInt ∧ x1.toInt ≤ 2))) ∨ (r = (-1) ∧ (¬ (0 ≤ x0.toInt ∧ x0.toInt / 10 ≤ 5 ∧ x0.toInt % 10 ≤ 5 ∧ (0 ≤ x1.toInt ∧ x1.toInt ≤ 2))))))) 0 0 (sgA 26 h sz) := by
  refine sg_ofWi (cc := cX12_judge) (maxL := 4) RX12 (by decide) rfl rfl (Nat.le_of_ble_eq_true rfl) ?_
  intro p e s m below meth cd Qz ls hx hb hml hown hts hK hZ hP hS hl hret
  have hA := sgY.self (n := 26) (h := h) (sz := s.heap.size)
  have hl : lv_has ls 4 [(0, .ref (h 0)), (1, .int x0), (2, .int x1)] := hl
  obtain ⟨H, hH⟩ : ∃ z : Heap, z = s.heap := ⟨_, rfl⟩
  obtain ⟨locs, hlo⟩ : ∃ z : List Loc, z = [] := ⟨_, rfl⟩
  have hP : va_P D vwCl (sgw 26 h (eM ca h) f0M L0 Q0) H := by rw [hH]; exact hP
  have hS : va_S (sgA 26 h s.heap.size) s.heap H locs := by rw [hH, hlo]; exact hS
  suffices hgo : W p l e ({ frames := 2, cells := 0, slots := 0, locals := 45 }) s m ([.ref (h 0), .int x0, .int x1] : List Value).toArray below meth cd H locs 0 0 Qz (F0 m 0 ls []) by rw [hH, hlo] at hgo; exact hgo
  refine lv_iload_n hx hb dX12_judge_0 rfl (lv_at hl 1 rfl) ?_
  refine lv_if_lt (tgt := 31) hx hb dX12_judge_1 (by decide) (fun c => ?_) (fun c => ?_)
  · skip
    have c_1 : x0.toInt < 0 := (by have z := bn_lt c; have k1 : (0 : Int32).toInt = 0 := (by decide); omega)
    refine lv_iconst (v := (-1)) hx hb dX12_judge_31 (by decide) ?_
    exact hret _ _ _ _ (-1) f0M L0 Q0 dX12_judge_32 hP hS ⟨trivial, Or.inr (⟨rfl, by omega⟩)⟩
  · skip
    have c_2 : 0 ≤ x0.toInt := (by have z := bn_nlt c; have k1 : (0 : Int32).toInt = 0 := (by decide); omega)
    refine lv_iload_n hx hb dX12_judge_4 rfl (lv_at hl 1 rfl) ?_
    refine lv_bipush (v := 10) hx hb dX12_judge_5 (by decide) ?_
    refine lv_idiv hx hb dX12_judge_7 (by decide) ?_
    refine lv_topi (fun v_3 ev_3 => ?_)
    have q_4 : 0 ≤ x0.toInt → v_3.toInt = x0.toInt / 10 := fun z => by rw [ev_3]; exact bn_divI z (by decide) (by decide)
    refine sg_calli (va_runS (As := [.int v_3]) (rest := []) ⟨hx, hb, hml, hown, hts⟩ (cf_X12_isShelf l D ca za h hh f0M L0 Q0 v_3 H.size) (va_cwS 1 hts (gw_S (fun _ h => List.mem_cons_of_mem _ h) mw_223 mw_224 mw_217 mw_222) rfl rfl rfl (by decide +kernel) ⟨Nat.le_of_ble_eq_true rfl, Nat.le_of_ble_eq_true rfl⟩) (sg_preS hA hK hP hS hZ) rfl rfl hl.1 rfl (lv_room (Nat.le_of_ble_eq_true rfl)) dX12_judge_8 ⟨Nat.le_refl _, Nat.le_refl _⟩) hA hS (fun r_8 f_5 L_6 Q_7 H locs hq hP hS => ?_)
    obtain ⟨⟨ef9, eL9, eQ9⟩, hq⟩ := hq
    rw [ef9, eL9, eQ9] at hP; clear ef9 eL9 eQ9
    rcases hq with ⟨rfl, hq⟩ | ⟨rfl, hq⟩
    · skip
      have q_9 := hq
      refine lv_if_eq (tgt := 31) hx hb dX12_judge_11 (by decide) (fun c => absurd c (by decide)) (fun c => ?_)
      refine lv_iload_n hx hb dX12_judge_14 rfl (lv_at hl 1 rfl) ?_
      refine lv_bipush (v := 10) hx hb dX12_judge_15 (by decide) ?_
      refine lv_irem hx hb dX12_judge_17 (by decide) ?_
      refine lv_topi (fun v_10 ev_10 => ?_)
      have q_11 : 0 ≤ x0.toInt → v_10.toInt = x0.toInt % 10 := fun z => by rw [ev_10]; exact bn_remI z (by decide) (by decide)
      refine sg_calli (va_runS (As := [.int v_10]) (rest := []) ⟨hx, hb, hml, hown, hts⟩ (cf_X12_isShelf l D ca za h hh f0M L0 Q0 v_10 H.size) (va_cwS 1 hts (gw_S (fun _ h => List.mem_cons_of_mem _ h) mw_223 mw_224 mw_217 mw_222) rfl rfl rfl (by decide +kernel) ⟨Nat.le_of_ble_eq_true rfl, Nat.le_of_ble_eq_true rfl⟩) (sg_preS hA hK hP hS hZ) rfl rfl hl.1 rfl (lv_room (Nat.le_of_ble_eq_true rfl)) dX12_judge_18 ⟨Nat.le_refl _, Nat.le_refl _⟩) hA hS (fun r_15 f_12 L_13 Q_14 H locs hq hP hS => ?_)
      obtain ⟨⟨ef9, eL9, eQ9⟩, hq⟩ := hq
      rw [ef9, eL9, eQ9] at hP; clear ef9 eL9 eQ9
      rcases hq with ⟨rfl, hq⟩ | ⟨rfl, hq⟩
      · skip
        have q_16 := hq
        refine lv_if_eq (tgt := 31) hx hb dX12_judge_21 (by decide) (fun c => absurd c (by decide)) (fun c => ?_)
        refine lv_iload_n hx hb dX12_judge_24 rfl (lv_at hl 2 rfl) ?_
        refine sg_calli (va_runS (As := [.int x1]) (rest := []) ⟨hx, hb, hml, hown, hts⟩ (cf_X12_isPart l D ca za h hh f0M L0 Q0 x1 H.size) (va_cwS 1 hts (gw_S (fun _ h => List.mem_cons_of_mem _ h) mw_235 mw_236 mw_217 mw_234) rfl rfl rfl (by decide +kernel) ⟨Nat.le_of_ble_eq_true rfl, Nat.le_of_ble_eq_true rfl⟩) (sg_preS hA hK hP hS hZ) rfl rfl hl.1 rfl (lv_room (Nat.le_of_ble_eq_true rfl)) dX12_judge_25 ⟨Nat.le_refl _, Nat.le_refl _⟩) hA hS (fun r_20 f_17 L_18 Q_19 H locs hq hP hS => ?_)
        obtain ⟨⟨ef9, eL9, eQ9⟩, hq⟩ := hq
        rw [ef9, eL9, eQ9] at hP; clear ef9 eL9 eQ9
        rcases hq with ⟨rfl, hq⟩ | ⟨rfl, hq⟩
        · skip
          have q_21 := hq
          refine lv_if_ne (tgt := 33) hx hb dX12_judge_28 (by decide) (fun c => ?_) (fun c => absurd c (by decide))
          refine lv_aload_n hx hb dX12_judge_33 rfl (lv_at hl 0 rfl) ?_
          refine sg_get (ci := 12) (v := .ref (h 22)) (C := RX12) (T := TX12) (N := 55) hx hb hts (fun w h => List.mem_cons_of_mem _ (gx_12 w h)) hown hK hP 0 (by decide) rfl rfl 51 (by decide) (hts _ (List.mem_cons_of_mem _ mw_225)) (fun _ h9 => h9) rfl dX12_judge_34 ?_
          refine lv_iload_n hx hb dX12_judge_37 rfl (lv_at hl 1 rfl) ?_
          refine lv_bipush (v := 10) hx hb dX12_judge_38 (by decide) ?_
          refine lv_idiv hx hb dX12_judge_40 (by decide) ?_
          refine lv_topi (fun v_22 ev_22 => ?_)
          have q_23 : 0 ≤ x0.toInt → v_22.toInt = x0.toInt / 10 := fun z => by rw [ev_22]; exact bn_divI z (by decide) (by decide)
          refine sg_iald hx hb hK hP 22 (by decide) 0 rfl rfl (i := v_22) (vp_in_iff.mpr ⟨by omega, by omega⟩) dX12_judge_41 ?_
          refine lv_topi (fun v_24 ev_24 => ?_)
          have q_25 : v_24.toInt = -1 := by rw [ev_24, f0M_sh (by omega) (by omega)]; decide
          refine lv_if_lt (tgt := 57) hx hb dX12_judge_42 (by decide) (fun c => ?_) (fun c => ?_)
          · skip
            have c_26 : v_24.toInt < 0 := (by have z := bn_lt c; have k1 : (0 : Int32).toInt = 0 := (by decide); omega)
            refine lv_bipush (v := (-11)) hx hb dX12_judge_57 (by decide) ?_
            exact hret _ _ _ _ (-11) f0M L0 Q0 dX12_judge_59 hP hS ⟨trivial, Or.inl ⟨rfl, by omega⟩⟩
          · skip
            exfalso; have c_27 : 0 ≤ v_24.toInt := (by have z := bn_nlt c; have k1 : (0 : Int32).toInt = 0 := (by decide); omega); omega
        · skip
          have q_28 := hq
          refine lv_if_ne (tgt := 33) hx hb dX12_judge_28 (by decide) (fun c => absurd c (by decide)) (fun c => ?_)
          refine lv_iconst (v := (-1)) hx hb dX12_judge_31 (by decide) ?_
          exact hret _ _ _ _ (-1) f0M L0 Q0 dX12_judge_32 hP hS ⟨trivial, Or.inr (⟨rfl, by omega⟩)⟩
      · skip
        have q_29 := hq
        refine lv_if_eq (tgt := 31) hx hb dX12_judge_21 (by decide) (fun c => ?_) (fun c => absurd c (by decide))
        refine lv_iconst (v := (-1)) hx hb dX12_judge_31 (by decide) ?_
        exact hret _ _ _ _ (-1) f0M L0 Q0 dX12_judge_32 hP hS ⟨trivial, Or.inr (⟨rfl, by omega⟩)⟩
    · skip
      have q_30 := hq
      refine lv_if_eq (tgt := 31) hx hb dX12_judge_11 (by decide) (fun c => ?_) (fun c => absurd c (by decide))
      refine lv_iconst (v := (-1)) hx hb dX12_judge_31 (by decide) ?_
      exact hret _ _ _ _ (-1) f0M L0 Q0 dX12_judge_32 hP hS ⟨trivial, Or.inr (⟨rfl, by omega⟩)⟩

set_option maxHeartbeats 4000000 in
set_option maxRecDepth 100000 in
theorem cf_X12_drawn (l : Launch) (D : va_G) (ca : Nat → ClassId) (za h : Nat → Nat) (hh : sgH 26 h) (x0 : Int32) (x1 : Int32) (x2 : Int32) (x3 : Int32) (sz : Nat) : Met l yX12_drawn gwX12_drawn { frames := 3, cells := 0, slots := 0, locals := 66 } (sgP D vwCl (tyX ca) 26 h (eM ca h) zcM za f0M L0 Q0 sz [.ref (h 0), .int x0, .int x1, .int x2, .int x3]) (sgQi D vwCl 26 h (eM ca h) sz (fun r f1 L1 Q1 => True ∧ ((r = (-11) ∧ ((0 ≤ x0.toInt ∧ x0.toInt ≤ 5) ∧ (1 ≤ x2.toInt ∧ x2.toInt ≤ 20) ∧ (0 ≤ x3.toInt ∧ x3.toInt ≤ 1))) ∨ (r = (-1) ∧ (¬ ((0 ≤ x0.toInt ∧ x0.toInt ≤ 5) ∧ (1 ≤ x2.toInt ∧ x2.toInt ≤ 20) ∧ (0 ≤ x3.toInt ∧ x3.toInt ≤ 1))))))) 0 0 (sgA 26 h sz) := by
  refine sg_ofWi (cc := cX12_drawn) (maxL := 11) RX12 (by decide) rfl rfl (Nat.le_of_ble_eq_true rfl) ?_
  intro p e s m below meth cd Qz ls hx hb hml hown hts hK hZ hP hS hl hret
  have hA := sgY.self (n := 26) (h := h) (sz := s.heap.size)
  have hl : lv_has ls 11 [(0, .ref (h 0)), (1, .int x0), (2, .int x1), (3, .int x2), (4, .int x3)] := hl
  obtain ⟨H, hH⟩ : ∃ z : Heap, z = s.heap := ⟨_, rfl⟩
  obtain ⟨locs, hlo⟩ : ∃ z : List Loc, z = [] := ⟨_, rfl⟩
  have hP : va_P D vwCl (sgw 26 h (eM ca h) f0M L0 Q0) H := by rw [hH]; exact hP
  have hS : va_S (sgA 26 h s.heap.size) s.heap H locs := by rw [hH, hlo]; exact hS
  suffices hgo : W p l e ({ frames := 3, cells := 0, slots := 0, locals := 66 }) s m ([.ref (h 0), .int x0, .int x1, .int x2, .int x3] : List Value).toArray below meth cd H locs 0 0 Qz (F0 m 0 ls []) by rw [hH, hlo] at hgo; exact hgo
  refine lv_aload_n hx hb dX12_drawn_0 rfl (lv_at hl 0 rfl) ?_
  refine lv_iload_n hx hb dX12_drawn_1 rfl (lv_at hl 1 rfl) ?_
  refine sg_calli (va_runV (As := [.int x0]) (rest := []) ⟨hx, hb, hml, hown, hts⟩ (cf_X12_bytesIs l D ca za h hh x0 H.size) (cwV 1 hts (gw_V (fun _ h => List.mem_cons_of_mem _ h) mw_231 mw_232 mw_233 mw_217 mw_230) rfl rfl rfl (by decide +kernel) ⟨Nat.le_of_ble_eq_true rfl, Nat.le_of_ble_eq_true rfl⟩) (sg_preV (ci := 12) (C := RX12) (T := TX12) (N := 55) hA hK hP hS hZ 0 (by decide) rfl rfl) rfl rfl hl.1 rfl (lv_room (Nat.le_of_ble_eq_true rfl)) dX12_drawn_2 ⟨Nat.le_refl _, Nat.le_refl _⟩) hA hS (fun r_4 f_1 L_2 Q_3 H locs hq hP hS => ?_)
  obtain ⟨⟨ef9, eL9, eQ9⟩, hq⟩ := hq
  rw [ef9, eL9, eQ9] at hP; clear ef9 eL9 eQ9
  rcases hq with ⟨rfl, hq⟩ | ⟨rfl, hq⟩
  · skip
    have q_5 := hq
    refine lv_iconst (v := (-1)) hx hb dX12_drawn_5 (by decide) ?_
    refine lv_icmp_eq (tgt := 32) hx hb dX12_drawn_6 (by decide) (fun c => absurd c (by decide)) (fun c => ?_)
    refine lv_iload_n hx hb dX12_drawn_9 rfl (lv_at hl 3 rfl) ?_
    obtain ⟨w_6, ew_6⟩ : ∃ z : Int64, z = x2.toInt64 := ⟨_, rfl⟩
    have q_7 : w_6.toInt = x2.toInt := by rw [ew_6]; exact Int32.toInt_toInt64 _
    refine lv_i2l (v := w_6) hx hb dX12_drawn_10 ew_6.symm ?_
    refine lv_lconst (v := 1) hx hb dX12_drawn_11 (by decide) ?_
    refine lv_ldc2 (v := 20) hx hb hown (hts _ (List.mem_cons_of_mem _ mw_243)) dX12_drawn_12 ?_
    refine sg_calli (va_runS (As := [.long w_6, .long 1, .long 20]) (rest := []) ⟨hx, hb, hml, hown, hts⟩ (cf_X12_within l D ca za h hh f0M L0 Q0 w_6 1 20 H.size) (va_cwS 3 hts (gw_S (fun _ h => List.mem_cons_of_mem _ h) mw_215 mw_216 mw_217 mw_214) rfl rfl rfl (by decide +kernel) ⟨Nat.le_of_ble_eq_true rfl, Nat.le_of_ble_eq_true rfl⟩) (sg_preS hA hK hP hS hZ) rfl rfl hl.1 rfl (lv_room (Nat.le_of_ble_eq_true rfl)) dX12_drawn_15 ⟨Nat.le_refl _, Nat.le_refl _⟩) hA hS (fun r_11 f_8 L_9 Q_10 H locs hq hP hS => ?_)
    obtain ⟨⟨ef9, eL9, eQ9⟩, hq⟩ := hq
    rw [ef9, eL9, eQ9] at hP; clear ef9 eL9 eQ9
    have k_12 : (1 : Int64).toInt = 1 := by decide
    have k_13 : (20 : Int64).toInt = 20 := by decide
    rcases hq with ⟨rfl, hq⟩ | ⟨rfl, hq⟩
    · skip
      have q_14 := hq
      refine lv_if_eq (tgt := 32) hx hb dX12_drawn_18 (by decide) (fun c => absurd c (by decide)) (fun c => ?_)
      refine lv_iload hx hb dX12_drawn_21 (lv_at hl 4 rfl) ?_
      obtain ⟨w_15, ew_15⟩ : ∃ z : Int64, z = x3.toInt64 := ⟨_, rfl⟩
      have q_16 : w_15.toInt = x3.toInt := by rw [ew_15]; exact Int32.toInt_toInt64 _
      refine lv_i2l (v := w_15) hx hb dX12_drawn_23 ew_15.symm ?_
      refine lv_lconst (v := 0) hx hb dX12_drawn_24 (by decide) ?_
      refine lv_lconst (v := 1) hx hb dX12_drawn_25 (by decide) ?_
      refine sg_calli (va_runS (As := [.long w_15, .long 0, .long 1]) (rest := []) ⟨hx, hb, hml, hown, hts⟩ (cf_X12_within l D ca za h hh f0M L0 Q0 w_15 0 1 H.size) (va_cwS 3 hts (gw_S (fun _ h => List.mem_cons_of_mem _ h) mw_215 mw_216 mw_217 mw_214) rfl rfl rfl (by decide +kernel) ⟨Nat.le_of_ble_eq_true rfl, Nat.le_of_ble_eq_true rfl⟩) (sg_preS hA hK hP hS hZ) rfl rfl hl.1 rfl (lv_room (Nat.le_of_ble_eq_true rfl)) dX12_drawn_26 ⟨Nat.le_refl _, Nat.le_refl _⟩) hA hS (fun r_20 f_17 L_18 Q_19 H locs hq hP hS => ?_)
      obtain ⟨⟨ef9, eL9, eQ9⟩, hq⟩ := hq
      rw [ef9, eL9, eQ9] at hP; clear ef9 eL9 eQ9
      have k_21 : (0 : Int64).toInt = 0 := by decide
      have k_22 : (1 : Int64).toInt = 1 := by decide
      rcases hq with ⟨rfl, hq⟩ | ⟨rfl, hq⟩
      · skip
        have q_23 := hq
        refine lv_if_ne (tgt := 34) hx hb dX12_drawn_29 (by decide) (fun c => ?_) (fun c => absurd c (by decide))
        refine lv_aload_n hx hb dX12_drawn_34 rfl (lv_at hl 0 rfl) ?_
        refine lv_iload_n hx hb dX12_drawn_35 rfl (lv_at hl 1 rfl) ?_
        refine sg_calli (va_runV (As := [.int x0]) (rest := []) ⟨hx, hb, hml, hown, hts⟩ (cf_X12_bytesIs l D ca za h hh x0 H.size) (cwV 1 hts (gw_V (fun _ h => List.mem_cons_of_mem _ h) mw_231 mw_232 mw_233 mw_217 mw_230) rfl rfl rfl (by decide +kernel) ⟨Nat.le_of_ble_eq_true rfl, Nat.le_of_ble_eq_true rfl⟩) (sg_preV (ci := 12) (C := RX12) (T := TX12) (N := 55) hA hK hP hS hZ 0 (by decide) rfl rfl) rfl rfl hl.1 rfl (lv_room (Nat.le_of_ble_eq_true rfl)) dX12_drawn_36 ⟨Nat.le_refl _, Nat.le_refl _⟩) hA hS (fun r_27 f_24 L_25 Q_26 H locs hq hP hS => ?_)
        obtain ⟨⟨ef9, eL9, eQ9⟩, hq⟩ := hq
        rw [ef9, eL9, eQ9] at hP; clear ef9 eL9 eQ9
        rcases hq with ⟨rfl, hq⟩ | ⟨rfl, hq⟩
        · skip
          have q_28 := hq
          refine lv_if_ge (tgt := 48) hx hb dX12_drawn_39 (by decide) (fun c => absurd c (by decide)) (fun c => ?_)
          refine lv_aload_n hx hb dX12_drawn_42 rfl (lv_at hl 0 rfl) ?_
          refine lv_iload_n hx hb dX12_drawn_43 rfl (lv_at hl 1 rfl) ?_
          refine sg_calli (va_runV (As := [.int x0]) (rest := []) ⟨hx, hb, hml, hown, hts⟩ (cf_X12_bytesIs l D ca za h hh x0 H.size) (cwV 1 hts (gw_V (fun _ h => List.mem_cons_of_mem _ h) mw_231 mw_232 mw_233 mw_217 mw_230) rfl rfl rfl (by decide +kernel) ⟨Nat.le_of_ble_eq_true rfl, Nat.le_of_ble_eq_true rfl⟩) (sg_preV (ci := 12) (C := RX12) (T := TX12) (N := 55) hA hK hP hS hZ 0 (by decide) rfl rfl) rfl rfl hl.1 rfl (lv_room (Nat.le_of_ble_eq_true rfl)) dX12_drawn_44 ⟨Nat.le_refl _, Nat.le_refl _⟩) hA hS (fun r_32 f_29 L_30 Q_31 H locs hq hP hS => ?_)
          obtain ⟨⟨ef9, eL9, eQ9⟩, hq⟩ := hq
          rw [ef9, eL9, eQ9] at hP; clear ef9 eL9 eQ9
          rcases hq with ⟨rfl, hq⟩ | ⟨rfl, hq⟩
          · skip
            have q_33 := hq
            exact hret _ _ _ _ (-11) f0M L0 Q0 dX12_drawn_47 hP hS ⟨trivial, Or.inl ⟨rfl, by omega⟩⟩
          · skip
            have q_34 := hq
            exact hret _ _ _ _ (-1) f0M L0 Q0 dX12_drawn_47 hP hS ⟨trivial, Or.inr (⟨rfl, by omega⟩)⟩
        · skip
          have q_35 := hq
          refine lv_if_ge (tgt := 48) hx hb dX12_drawn_39 (by decide) (fun c => absurd c (by decide)) (fun c => ?_)
          refine lv_aload_n hx hb dX12_drawn_42 rfl (lv_at hl 0 rfl) ?_
          refine lv_iload_n hx hb dX12_drawn_43 rfl (lv_at hl 1 rfl) ?_
          refine sg_calli (va_runV (As := [.int x0]) (rest := []) ⟨hx, hb, hml, hown, hts⟩ (cf_X12_bytesIs l D ca za h hh x0 H.size) (cwV 1 hts (gw_V (fun _ h => List.mem_cons_of_mem _ h) mw_231 mw_232 mw_233 mw_217 mw_230) rfl rfl rfl (by decide +kernel) ⟨Nat.le_of_ble_eq_true rfl, Nat.le_of_ble_eq_true rfl⟩) (sg_preV (ci := 12) (C := RX12) (T := TX12) (N := 55) hA hK hP hS hZ 0 (by decide) rfl rfl) rfl rfl hl.1 rfl (lv_room (Nat.le_of_ble_eq_true rfl)) dX12_drawn_44 ⟨Nat.le_refl _, Nat.le_refl _⟩) hA hS (fun r_39 f_36 L_37 Q_38 H locs hq hP hS => ?_)
          obtain ⟨⟨ef9, eL9, eQ9⟩, hq⟩ := hq
          rw [ef9, eL9, eQ9] at hP; clear ef9 eL9 eQ9
          rcases hq with ⟨rfl, hq⟩ | ⟨rfl, hq⟩
          · skip
            have q_40 := hq
            exact hret _ _ _ _ (-11) f0M L0 Q0 dX12_drawn_47 hP hS ⟨trivial, Or.inl ⟨rfl, by omega⟩⟩
          · skip
            have q_41 := hq
            exact hret _ _ _ _ (-1) f0M L0 Q0 dX12_drawn_47 hP hS ⟨trivial, Or.inr (⟨rfl, by omega⟩)⟩
      · skip
        have q_42 := hq
        refine lv_if_ne (tgt := 34) hx hb dX12_drawn_29 (by decide) (fun c => absurd c (by decide)) (fun c => ?_)
        refine lv_iconst (v := (-1)) hx hb dX12_drawn_32 (by decide) ?_
        exact hret _ _ _ _ (-1) f0M L0 Q0 dX12_drawn_33 hP hS ⟨trivial, Or.inr (⟨rfl, by omega⟩)⟩
    · skip
      have q_43 := hq
      refine lv_if_eq (tgt := 32) hx hb dX12_drawn_18 (by decide) (fun c => ?_) (fun c => absurd c (by decide))
      refine lv_iconst (v := (-1)) hx hb dX12_drawn_32 (by decide) ?_
      exact hret _ _ _ _ (-1) f0M L0 Q0 dX12_drawn_33 hP hS ⟨trivial, Or.inr (⟨rfl, by omega⟩)⟩
  · skip
    have q_44 := hq
    refine lv_iconst (v := (-1)) hx hb dX12_drawn_5 (by decide) ?_
    refine lv_icmp_eq (tgt := 32) hx hb dX12_drawn_6 (by decide) (fun c => ?_) (fun c => absurd c (by decide))
    refine lv_iconst (v := (-1)) hx hb dX12_drawn_32 (by decide) ?_
    exact hret _ _ _ _ (-1) f0M L0 Q0 dX12_drawn_33 hP hS ⟨trivial, Or.inr (⟨rfl, by omega⟩)⟩

set_option maxHeartbeats 4000000 in
set_option maxRecDepth 100000 in
theorem cf_X12_sit (l : Launch) (D : va_G) (ca : Nat → ClassId) (za h : Nat → Nat) (hh : sgH 26 h) (x0 : Int32) (sz : Nat) : Met l yX12_sit gwX12_sit { frames := 2, cells := 0, slots := 0, locals := 47 } (sgP D vwCl (tyX ca) 26 h (eM ca h) zcM za f0M L0 Q0 sz [.ref (h 0), .int x0]) (sgQi D vwCl 26 h (eM ca h) sz (fun r f1 L1 Q1 => True ∧ ((r = (-1) ∧ (True))))) 0 0 (sgA 26 h sz) := by
  refine sg_ofWi (cc := cX12_sit) (maxL := 3) RX12 (by decide) rfl rfl (Nat.le_of_ble_eq_true rfl) ?_
  intro p e s m below meth cd Qz ls hx hb hml hown hts hK hZ hP hS hl hret
  have hA := sgY.self (n := 26) (h := h) (sz := s.heap.size)
  have hl : lv_has ls 3 [(0, .ref (h 0)), (1, .int x0)] := hl
  obtain ⟨H, hH⟩ : ∃ z : Heap, z = s.heap := ⟨_, rfl⟩
  obtain ⟨locs, hlo⟩ : ∃ z : List Loc, z = [] := ⟨_, rfl⟩
  have hP : va_P D vwCl (sgw 26 h (eM ca h) f0M L0 Q0) H := by rw [hH]; exact hP
  have hS : va_S (sgA 26 h s.heap.size) s.heap H locs := by rw [hH, hlo]; exact hS
  suffices hgo : W p l e ({ frames := 2, cells := 0, slots := 0, locals := 47 }) s m ([.ref (h 0), .int x0] : List Value).toArray below meth cd H locs 0 0 Qz (F0 m 0 ls []) by rw [hH, hlo] at hgo; exact hgo
  refine lv_aload_n hx hb dX12_sit_0 rfl (lv_at hl 0 rfl) ?_
  refine lv_iload_n hx hb dX12_sit_1 rfl (lv_at hl 1 rfl) ?_
  obtain ⟨w_1, ew_1⟩ : ∃ z : Int64, z = x0.toInt64 := ⟨_, rfl⟩
  have q_2 : w_1.toInt = x0.toInt := by rw [ew_1]; exact Int32.toInt_toInt64 _
  refine lv_i2l (v := w_1) hx hb dX12_sit_2 ew_1.symm ?_
  refine sg_calli (va_runV (As := [.long w_1]) (rest := []) ⟨hx, hb, hml, hown, hts⟩ (cf_X12_isSitter l D ca za h hh f0M L0 Q0 w_1 rfl H.size) (cwV 1 hts (gw_V (fun _ h => List.mem_cons_of_mem _ h) mw_227 mw_228 mw_229 mw_217 mw_226) rfl rfl rfl (by decide +kernel) ⟨Nat.le_of_ble_eq_true rfl, Nat.le_of_ble_eq_true rfl⟩) (sg_preV (ci := 12) (C := RX12) (T := TX12) (N := 55) hA hK hP hS hZ 0 (by decide) rfl rfl) rfl rfl hl.1 rfl (lv_room (Nat.le_of_ble_eq_true rfl)) dX12_sit_3 ⟨Nat.le_refl _, Nat.le_refl _⟩) hA hS (fun r_6 f_3 L_4 Q_5 H locs hq hP hS => ?_)
  obtain ⟨⟨ef9, eL9, eQ9⟩, hq⟩ := hq
  rw [ef9, eL9, eQ9] at hP; clear ef9 eL9 eQ9
  obtain ⟨rfl, hq⟩ := hq
  have q_7 := hq
  refine lv_if_ne (tgt := 11) hx hb dX12_sit_6 (by decide) (fun c => absurd c (by decide)) (fun c => ?_)
  refine lv_iconst (v := (-1)) hx hb dX12_sit_9 (by decide) ?_
  exact hret _ _ _ _ (-1) f0M L0 Q0 dX12_sit_10 hP hS ⟨trivial, ⟨rfl, trivial⟩⟩

set_option maxHeartbeats 4000000 in
set_option maxRecDepth 100000 in
theorem cf_X12_adds (l : Launch) (D : va_G) (ca : Nat → ClassId) (za h : Nat → Nat) (hh : sgH 26 h) (f : sg_F) (L : sg_L) (Q : sg_Q) (x0 : Int32) (x1 : Int32) (x2 : Int32) (x3 : Int32) (hs : f 0 6 = 0) (sz : Nat) : Met l yX12_adds gwX12_adds { frames := 0, cells := 0, slots := 0, locals := 0 } (sgP D vwCl (tyX ca) 26 h (eM ca h) zcM za f L Q sz [.ref (h 0), .int x0, .int x1, .int x2, .int x3]) (sgQv D vwCl 26 h (eM ca h) sz (fun f1 L1 Q1 => (f1 0 6 = 1))) 0 0 (sgA 26 h sz) := by
  refine sg_ofWv (cc := cX12_adds) (maxL := 6) RX12 (by decide) rfl rfl (Nat.le_of_ble_eq_true rfl) ?_
  intro p e s m below meth cd Qz ls hx hb hml hown hts hK hZ hP hS hl hret
  have hA := sgY.self (n := 26) (h := h) (sz := s.heap.size)
  have hl : lv_has ls 6 [(0, .ref (h 0)), (1, .int x0), (2, .int x1), (3, .int x2), (4, .int x3)] := hl
  obtain ⟨H, hH⟩ : ∃ z : Heap, z = s.heap := ⟨_, rfl⟩
  obtain ⟨locs, hlo⟩ : ∃ z : List Loc, z = [] := ⟨_, rfl⟩
  have hP : va_P D vwCl (sgw 26 h (eM ca h) f L Q) H := by rw [hH]; exact hP
  have hS : va_S (sgA 26 h s.heap.size) s.heap H locs := by rw [hH, hlo]; exact hS
  suffices hgo : W p l e ({ frames := 0, cells := 0, slots := 0, locals := 0 }) s m ([.ref (h 0), .int x0, .int x1, .int x2, .int x3] : List Value).toArray below meth cd H locs 0 0 Qz (F0 m 0 ls []) by rw [hH, hlo] at hgo; exact hgo
  refine lv_aload_n hx hb dX12_adds_0 rfl (lv_at hl 0 rfl) ?_
  refine sg_get (ci := 12) (v := .int 0) (C := RX12) (T := TX12) (N := 55) hx hb hts (fun w h => List.mem_cons_of_mem _ (gx_12 w h)) hown hK hP 0 (by decide) rfl rfl 6 (by decide) (hts _ (List.mem_cons_of_mem _ mw_220)) (fun _ h9 => h9) (congrArg (fun z => some (Value.int z)) (show f 0 6 = 0 from hs)) dX12_adds_1 ?_
  refine lv_istore (lv' := [(5, .int 0), (0, .ref (h 0)), (1, .int x0), (2, .int x1), (3, .int x2), (4, .int x3)]) hx hb dX12_adds_4 hl (by decide) rfl (fun ls hl => ?_)
  refine lv_aload_n hx hb dX12_adds_6 rfl (lv_at hl 1 rfl) ?_
  refine sg_get (ci := 12) (v := .ref (h 1)) (C := RX12) (T := TX12) (N := 55) hx hb hts (fun w h => List.mem_cons_of_mem _ (gx_12 w h)) hown hK hP 0 (by decide) rfl rfl 0 (by decide) (hts _ (List.mem_cons_of_mem _ mw_244)) (fun _ h9 => h9) rfl dX12_adds_7 ?_
  refine lv_iload hx hb dX12_adds_10 (lv_at hl 0 rfl) ?_
  refine lv_iload_n hx hb dX12_adds_12 rfl (lv_at hl 2 rfl) ?_
  refine sg_iast hx hb hh hA hK hP hS 1 (by decide) 0 (fun _ => rfl) rfl (i := 0) (x := x0) (vp_in_iff.mpr (by decide)) dX12_adds_13 (fun f_1 H locs ef_1 hP hS => ?_)
  refine lv_aload_n hx hb dX12_adds_14 rfl (lv_at hl 1 rfl) ?_
  refine sg_get (ci := 12) (v := .ref (h 1)) (C := RX12) (T := TX12) (N := 55) hx hb hts (fun w h => List.mem_cons_of_mem _ (gx_12 w h)) hown hK hP 0 (by decide) rfl rfl 0 (by decide) (hts _ (List.mem_cons_of_mem _ mw_244)) (fun _ h9 => h9) rfl dX12_adds_15 ?_
  refine lv_bipush (v := 8) hx hb dX12_adds_18 (by decide) ?_
  refine lv_iload hx hb dX12_adds_20 (lv_at hl 0 rfl) ?_
  refine lv_iadd hx hb dX12_adds_22 ?_
  refine W.eq (g2 := F0 m 23 ls [.int 8, .ref (h 1)]) (by rw [show (8 + 0 : Int32) = 8 from by decide]) ?_
  refine lv_iload_n hx hb dX12_adds_23 rfl (lv_at hl 3 rfl) ?_
  refine sg_iast hx hb hh hA hK hP hS 1 (by decide) 0 (fun _ => rfl) rfl (i := 8) (x := x1) (vp_in_iff.mpr (by decide)) dX12_adds_24 (fun f_2 H locs ef_2 hP hS => ?_)
  refine lv_aload_n hx hb dX12_adds_25 rfl (lv_at hl 1 rfl) ?_
  refine sg_get (ci := 12) (v := .ref (h 1)) (C := RX12) (T := TX12) (N := 55) hx hb hts (fun w h => List.mem_cons_of_mem _ (gx_12 w h)) hown hK hP 0 (by decide) rfl rfl 0 (by decide) (hts _ (List.mem_cons_of_mem _ mw_244)) (fun _ h9 => h9) rfl dX12_adds_26 ?_
  refine lv_bipush (v := 16) hx hb dX12_adds_29 (by decide) ?_
  refine lv_iload hx hb dX12_adds_31 (lv_at hl 0 rfl) ?_
  refine lv_iadd hx hb dX12_adds_33 ?_
  refine W.eq (g2 := F0 m 34 ls [.int 16, .ref (h 1)]) (by rw [show (16 + 0 : Int32) = 16 from by decide]) ?_
  refine lv_iload_n hx hb dX12_adds_34 rfl (lv_at hl 4 rfl) ?_
  refine sg_iast hx hb hh hA hK hP hS 1 (by decide) 0 (fun _ => rfl) rfl (i := 16) (x := x2) (vp_in_iff.mpr (by decide)) dX12_adds_35 (fun f_3 H locs ef_3 hP hS => ?_)
  refine lv_aload_n hx hb dX12_adds_36 rfl (lv_at hl 1 rfl) ?_
  refine sg_get (ci := 12) (v := .ref (h 1)) (C := RX12) (T := TX12) (N := 55) hx hb hts (fun w h => List.mem_cons_of_mem _ (gx_12 w h)) hown hK hP 0 (by decide) rfl rfl 0 (by decide) (hts _ (List.mem_cons_of_mem _ mw_244)) (fun _ h9 => h9) rfl dX12_adds_37 ?_
  refine lv_bipush (v := 24) hx hb dX12_adds_40 (by decide) ?_
  refine lv_iload hx hb dX12_adds_42 (lv_at hl 0 rfl) ?_
  refine lv_iadd hx hb dX12_adds_44 ?_
  refine W.eq (g2 := F0 m 45 ls [.int 24, .ref (h 1)]) (by rw [show (24 + 0 : Int32) = 24 from by decide]) ?_
  refine lv_iconst (v := 1) hx hb dX12_adds_45 (by decide) ?_
  refine sg_iast hx hb hh hA hK hP hS 1 (by decide) 0 (fun _ => rfl) rfl (i := 24) (x := 1) (vp_in_iff.mpr (by decide)) dX12_adds_46 (fun f_4 H locs ef_4 hP hS => ?_)
  refine lv_aload_n hx hb dX12_adds_47 rfl (lv_at hl 1 rfl) ?_
  refine sg_get (ci := 12) (v := .ref (h 1)) (C := RX12) (T := TX12) (N := 55) hx hb hts (fun w h => List.mem_cons_of_mem _ (gx_12 w h)) hown hK hP 0 (by decide) rfl rfl 0 (by decide) (hts _ (List.mem_cons_of_mem _ mw_244)) (fun _ h9 => h9) rfl dX12_adds_48 ?_
  refine lv_bipush (v := 32) hx hb dX12_adds_51 (by decide) ?_
  refine lv_iload hx hb dX12_adds_53 (lv_at hl 0 rfl) ?_
  refine lv_iadd hx hb dX12_adds_55 ?_
  refine W.eq (g2 := F0 m 56 ls [.int 32, .ref (h 1)]) (by rw [show (32 + 0 : Int32) = 32 from by decide]) ?_
  refine lv_iconst (v := 1) hx hb dX12_adds_56 (by decide) ?_
  refine sg_iast hx hb hh hA hK hP hS 1 (by decide) 0 (fun _ => rfl) rfl (i := 32) (x := 1) (vp_in_iff.mpr (by decide)) dX12_adds_57 (fun f_5 H locs ef_5 hP hS => ?_)
  refine lv_aload_n hx hb dX12_adds_58 rfl (lv_at hl 1 rfl) ?_
  refine sg_get (ci := 12) (v := .ref (h 1)) (C := RX12) (T := TX12) (N := 55) hx hb hts (fun w h => List.mem_cons_of_mem _ (gx_12 w h)) hown hK hP 0 (by decide) rfl rfl 0 (by decide) (hts _ (List.mem_cons_of_mem _ mw_244)) (fun _ h9 => h9) rfl dX12_adds_59 ?_
  refine lv_bipush (v := 40) hx hb dX12_adds_62 (by decide) ?_
  refine lv_iload hx hb dX12_adds_64 (lv_at hl 0 rfl) ?_
  refine lv_iadd hx hb dX12_adds_66 ?_
  refine W.eq (g2 := F0 m 67 ls [.int 40, .ref (h 1)]) (by rw [show (40 + 0 : Int32) = 40 from by decide]) ?_
  refine lv_iload hx hb dX12_adds_67 (lv_at hl 5 rfl) ?_
  refine sg_iast hx hb hh hA hK hP hS 1 (by decide) 0 (fun _ => rfl) rfl (i := 40) (x := x3) (vp_in_iff.mpr (by decide)) dX12_adds_69 (fun f_6 H locs ef_6 hP hS => ?_)
  refine lv_aload_n hx hb dX12_adds_70 rfl (lv_at hl 1 rfl) ?_
  refine sg_get (ci := 12) (v := .ref (h 1)) (C := RX12) (T := TX12) (N := 55) hx hb hts (fun w h => List.mem_cons_of_mem _ (gx_12 w h)) hown hK hP 0 (by decide) rfl rfl 0 (by decide) (hts _ (List.mem_cons_of_mem _ mw_244)) (fun _ h9 => h9) rfl dX12_adds_71 ?_
  refine lv_bipush (v := 48) hx hb dX12_adds_74 (by decide) ?_
  refine lv_iload hx hb dX12_adds_76 (lv_at hl 0 rfl) ?_
  refine lv_iadd hx hb dX12_adds_78 ?_
  refine W.eq (g2 := F0 m 79 ls [.int 48, .ref (h 1)]) (by rw [show (48 + 0 : Int32) = 48 from by decide]) ?_
  refine lv_iconst (v := 0) hx hb dX12_adds_79 (by decide) ?_
  refine sg_iast hx hb hh hA hK hP hS 1 (by decide) 0 (fun _ => rfl) rfl (i := 48) (x := 0) (vp_in_iff.mpr (by decide)) dX12_adds_80 (fun f_7 H locs ef_7 hP hS => ?_)
  refine lv_aload_n hx hb dX12_adds_81 rfl (lv_at hl 1 rfl) ?_
  refine sg_get (ci := 12) (v := .ref (h 1)) (C := RX12) (T := TX12) (N := 55) hx hb hts (fun w h => List.mem_cons_of_mem _ (gx_12 w h)) hown hK hP 0 (by decide) rfl rfl 0 (by decide) (hts _ (List.mem_cons_of_mem _ mw_244)) (fun _ h9 => h9) rfl dX12_adds_82 ?_
  refine lv_bipush (v := 56) hx hb dX12_adds_85 (by decide) ?_
  refine lv_iload hx hb dX12_adds_87 (lv_at hl 0 rfl) ?_
  refine lv_iadd hx hb dX12_adds_89 ?_
  refine W.eq (g2 := F0 m 90 ls [.int 56, .ref (h 1)]) (by rw [show (56 + 0 : Int32) = 56 from by decide]) ?_
  refine lv_iconst (v := 0) hx hb dX12_adds_90 (by decide) ?_
  refine sg_iast hx hb hh hA hK hP hS 1 (by decide) 0 (fun _ => rfl) rfl (i := 56) (x := 0) (vp_in_iff.mpr (by decide)) dX12_adds_91 (fun f_8 H locs ef_8 hP hS => ?_)
  refine lv_aload_n hx hb dX12_adds_92 rfl (lv_at hl 1 rfl) ?_
  refine lv_dup hx hb dX12_adds_93 rfl ?_
  refine sg_get (ci := 12) (v := .int 0) (C := RX12) (T := TX12) (N := 55) hx hb hts (fun w h => List.mem_cons_of_mem _ (gx_12 w h)) hown hK hP 0 (by decide) rfl rfl 6 (by decide) (hts _ (List.mem_cons_of_mem _ mw_220)) (fun _ h9 => h9) (congrArg (fun z => some (Value.int z)) (show f_8 0 6 = 0 from (by rw [ef_8]; exact (show _ = _ from (by rw [ef_7]; exact (show _ = _ from (by rw [ef_6]; exact (show _ = _ from (by rw [ef_5]; exact (show _ = _ from (by rw [ef_4]; exact (show _ = _ from (by rw [ef_3]; exact (show _ = _ from (by rw [ef_2]; exact (show _ = _ from (by rw [ef_1]; exact (show _ = _ from hs)))))))))))))))))) dX12_adds_94 ?_
  refine lv_iconst (v := 1) hx hb dX12_adds_97 (by decide) ?_
  refine lv_iadd hx hb dX12_adds_98 ?_
  refine W.eq (g2 := F0 m 99 ls [.int 1, .ref (h 0)]) (by rw [show (0 + 1 : Int32) = 1 from by decide]) ?_
  refine sg_put (ci := 12) (x := 1) (ty := .int) (C := RX12) (T := TX12) (N := 55) hx hb hts (fun w h => List.mem_cons_of_mem _ (gx_12 w h)) tyX12 tyX12_ok nmX12 hown hh hA hK hP hS 0 (by decide) rfl rfl 6 (by decide) (hts _ (List.mem_cons_of_mem _ mw_220)) (fun _ h9 => h9) rfl rfl (by decide +kernel) rfl rfl (Nat.le_of_ble_eq_true rfl) dX12_adds_99 (fun f_9 H locs ef_9 hP hS => ?_)
  exact hret _ _ _ _ f_9 L Q dX12_adds_102 hP hS (show _ = _ from (by rw [ef_9]; rfl))

set_option maxHeartbeats 4000000 in
set_option maxRecDepth 100000 in
theorem cf_X12_sitter (l : Launch) (D : va_G) (ca : Nat → ClassId) (za h : Nat → Nat) (hh : sgH 26 h) (x0 : Int32) (x1 : Int32) (sz : Nat) : Met l yX12_sitter gwX12_sitter { frames := 2, cells := 0, slots := 0, locals := 46 } (sgP D vwCl (tyX ca) 26 h (eM ca h) zcM za f0M L0 Q0 sz [.ref (h 0), .int x0, .int x1]) (sgQi D vwCl 26 h (eM ca h) sz (fun r f1 L1 Q1 => True ∧ ((r = 0 ∧ ((0 ≤ x0.toInt ∧ x0.toInt ≤ 60) ∧ (1 ≤ x1.toInt ∧ x1.toInt ≤ 12))) ∨ (r = (-1) ∧ (¬ ((0 ≤ x0.toInt ∧ x0.toInt ≤ 60) ∧ (1 ≤ x1.toInt ∧ x1.toInt ≤ 12))))))) 0 0 (sgA 26 h sz) := by
  refine sg_ofWi (cc := cX12_sitter) (maxL := 3) RX12 (by decide) rfl rfl (Nat.le_of_ble_eq_true rfl) ?_
  intro p e s m below meth cd Qz ls hx hb hml hown hts hK hZ hP hS hl hret
  have hA := sgY.self (n := 26) (h := h) (sz := s.heap.size)
  have hl : lv_has ls 3 [(0, .ref (h 0)), (1, .int x0), (2, .int x1)] := hl
  obtain ⟨H, hH⟩ : ∃ z : Heap, z = s.heap := ⟨_, rfl⟩
  obtain ⟨locs, hlo⟩ : ∃ z : List Loc, z = [] := ⟨_, rfl⟩
  have hP : va_P D vwCl (sgw 26 h (eM ca h) f0M L0 Q0) H := by rw [hH]; exact hP
  have hS : va_S (sgA 26 h s.heap.size) s.heap H locs := by rw [hH, hlo]; exact hS
  suffices hgo : W p l e ({ frames := 2, cells := 0, slots := 0, locals := 46 }) s m ([.ref (h 0), .int x0, .int x1] : List Value).toArray below meth cd H locs 0 0 Qz (F0 m 0 ls []) by rw [hH, hlo] at hgo; exact hgo
  refine lv_iload_n hx hb dX12_sitter_0 rfl (lv_at hl 1 rfl) ?_
  obtain ⟨w_1, ew_1⟩ : ∃ z : Int64, z = x0.toInt64 := ⟨_, rfl⟩
  have q_2 : w_1.toInt = x0.toInt := by rw [ew_1]; exact Int32.toInt_toInt64 _
  refine lv_i2l (v := w_1) hx hb dX12_sitter_1 ew_1.symm ?_
  refine sg_calli (va_runS (As := [.long w_1]) (rest := []) ⟨hx, hb, hml, hown, hts⟩ (cf_X12_isSetting l D ca za h hh f0M L0 Q0 w_1 H.size) (va_cwS 1 hts (gw_S (fun _ h => List.mem_cons_of_mem _ h) mw_238 mw_239 mw_217 mw_237) rfl rfl rfl (by decide +kernel) ⟨Nat.le_of_ble_eq_true rfl, Nat.le_of_ble_eq_true rfl⟩) (sg_preS hA hK hP hS hZ) rfl rfl hl.1 rfl (lv_room (Nat.le_of_ble_eq_true rfl)) dX12_sitter_2 ⟨Nat.le_refl _, Nat.le_refl _⟩) hA hS (fun r_6 f_3 L_4 Q_5 H locs hq hP hS => ?_)
  obtain ⟨⟨ef9, eL9, eQ9⟩, hq⟩ := hq
  rw [ef9, eL9, eQ9] at hP; clear ef9 eL9 eQ9
  rcases hq with ⟨rfl, hq⟩ | ⟨rfl, hq⟩
  · skip
    have q_7 := hq
    refine lv_if_eq (tgt := 20) hx hb dX12_sitter_5 (by decide) (fun c => absurd c (by decide)) (fun c => ?_)
    refine lv_iload_n hx hb dX12_sitter_8 rfl (lv_at hl 2 rfl) ?_
    obtain ⟨w_8, ew_8⟩ : ∃ z : Int64, z = x1.toInt64 := ⟨_, rfl⟩
    have q_9 : w_8.toInt = x1.toInt := by rw [ew_8]; exact Int32.toInt_toInt64 _
    refine lv_i2l (v := w_8) hx hb dX12_sitter_9 ew_8.symm ?_
    refine lv_lconst (v := 1) hx hb dX12_sitter_10 (by decide) ?_
    refine lv_ldc2 (v := 12) hx hb hown (hts _ (List.mem_cons_of_mem _ mw_245)) dX12_sitter_11 ?_
    refine sg_calli (va_runS (As := [.long w_8, .long 1, .long 12]) (rest := []) ⟨hx, hb, hml, hown, hts⟩ (cf_X12_within l D ca za h hh f0M L0 Q0 w_8 1 12 H.size) (va_cwS 3 hts (gw_S (fun _ h => List.mem_cons_of_mem _ h) mw_215 mw_216 mw_217 mw_214) rfl rfl rfl (by decide +kernel) ⟨Nat.le_of_ble_eq_true rfl, Nat.le_of_ble_eq_true rfl⟩) (sg_preS hA hK hP hS hZ) rfl rfl hl.1 rfl (lv_room (Nat.le_of_ble_eq_true rfl)) dX12_sitter_14 ⟨Nat.le_refl _, Nat.le_refl _⟩) hA hS (fun r_13 f_10 L_11 Q_12 H locs hq hP hS => ?_)
    obtain ⟨⟨ef9, eL9, eQ9⟩, hq⟩ := hq
    rw [ef9, eL9, eQ9] at hP; clear ef9 eL9 eQ9
    have k_14 : (1 : Int64).toInt = 1 := by decide
    have k_15 : (12 : Int64).toInt = 12 := by decide
    rcases hq with ⟨rfl, hq⟩ | ⟨rfl, hq⟩
    · skip
      have q_16 := hq
      refine lv_if_ne (tgt := 22) hx hb dX12_sitter_17 (by decide) (fun c => ?_) (fun c => absurd c (by decide))
      refine lv_aload_n hx hb dX12_sitter_22 rfl (lv_at hl 0 rfl) ?_
      refine sg_get (ci := 12) (v := .int 0) (C := RX12) (T := TX12) (N := 55) hx hb hts (fun w h => List.mem_cons_of_mem _ (gx_12 w h)) hown hK hP 0 (by decide) rfl rfl 6 (by decide) (hts _ (List.mem_cons_of_mem _ mw_220)) (fun _ h9 => h9) rfl dX12_sitter_23 ?_
      refine lv_bipush (v := 8) hx hb dX12_sitter_26 (by decide) ?_
      refine lv_icmp_ne (tgt := 34) hx hb dX12_sitter_28 (by decide) (fun c => ?_) (fun c => absurd c (by decide))
      refine lv_aload_n hx hb dX12_sitter_34 rfl (lv_at hl 0 rfl) ?_
      refine lv_iload_n hx hb dX12_sitter_35 rfl (lv_at hl 1 rfl) ?_
      refine lv_iload_n hx hb dX12_sitter_36 rfl (lv_at hl 1 rfl) ?_
      refine lv_iload_n hx hb dX12_sitter_37 rfl (lv_at hl 1 rfl) ?_
      refine lv_iload_n hx hb dX12_sitter_38 rfl (lv_at hl 2 rfl) ?_
      refine sg_callv (va_runV (As := [.int x0, .int x0, .int x0, .int x1]) (rest := []) ⟨hx, hb, hml, hown, hts⟩ (cf_X12_adds l D ca za h hh f0M L0 Q0 x0 x0 x0 x1 rfl H.size) (cwV 4 hts (gw_V (fun _ h => List.mem_cons_of_mem _ h) mw_247 mw_248 mw_249 mw_217 mw_246) rfl rfl rfl (by decide +kernel) ⟨Nat.le_of_ble_eq_true rfl, Nat.le_of_ble_eq_true rfl⟩) (sg_preV (ci := 12) (C := RX12) (T := TX12) (N := 55) hA hK hP hS hZ 0 (by decide) rfl rfl) rfl rfl hl.1 rfl (lv_room (Nat.le_of_ble_eq_true rfl)) dX12_sitter_39 ⟨Nat.le_refl _, Nat.le_refl _⟩) hA hS (fun f_17 L_18 Q_19 H locs hq hP hS => ?_)
      have h_20 := hq
      refine lv_aload_n hx hb dX12_sitter_42 rfl (lv_at hl 0 rfl) ?_
      refine sg_get (ci := 12) (v := .int 1) (C := RX12) (T := TX12) (N := 55) hx hb hts (fun w h => List.mem_cons_of_mem _ (gx_12 w h)) hown hK hP 0 (by decide) rfl rfl 6 (by decide) (hts _ (List.mem_cons_of_mem _ mw_220)) (fun _ h9 => h9) (congrArg (fun z => some (Value.int z)) (show f_17 0 6 = 1 from h_20)) dX12_sitter_43 ?_
      refine lv_iconst (v := 1) hx hb dX12_sitter_46 (by decide) ?_
      refine lv_isub hx hb dX12_sitter_47 ?_
      refine W.eq (g2 := F0 m 48 ls [.int 0]) (by rw [show (1 - 1 : Int32) = 0 from by decide]) ?_
      exact hret _ _ _ _ (0) f_17 L_18 Q_19 dX12_sitter_48 hP hS ⟨trivial, Or.inl ⟨rfl, by omega⟩⟩
    · skip
      have q_21 := hq
      refine lv_if_ne (tgt := 22) hx hb dX12_sitter_17 (by decide) (fun c => absurd c (by decide)) (fun c => ?_)
      refine lv_iconst (v := (-1)) hx hb dX12_sitter_20 (by decide) ?_
      exact hret _ _ _ _ (-1) f0M L0 Q0 dX12_sitter_21 hP hS ⟨trivial, Or.inr (⟨rfl, by omega⟩)⟩
  · skip
    have q_22 := hq
    refine lv_if_eq (tgt := 20) hx hb dX12_sitter_5 (by decide) (fun c => ?_) (fun c => absurd c (by decide))
    refine lv_iconst (v := (-1)) hx hb dX12_sitter_20 (by decide) ?_
    exact hret _ _ _ _ (-1) f0M L0 Q0 dX12_sitter_21 hP hS ⟨trivial, Or.inr (⟨rfl, by omega⟩)⟩

set_option maxHeartbeats 4000000 in
set_option maxRecDepth 100000 in
theorem cf_X12_sitters (l : Launch) (D : va_G) (ca : Nat → ClassId) (za h : Nat → Nat) (hh : sgH 26 h) (x0 : Int32) (x1 : Int32) (x2 : Int32) (sz : Nat) : Met l yX12_sitters gwX12_sitters { frames := 2, cells := 0, slots := 0, locals := 45 } (sgP D vwCl (tyX ca) 26 h (eM ca h) zcM za f0M L0 Q0 sz [.ref (h 0), .int x0, .int x1, .int x2]) (sgQi D vwCl 26 h (eM ca h) sz (fun r f1 L1 Q1 => True ∧ ((r = 0 ∧ ((0 ≤ x0.toInt ∧ x0.toInt ≤ 5) ∧ (1 ≤ x2.toInt ∧ x2.toInt ≤ 8))) ∨ (r = (-1) ∧ (¬ ((0 ≤ x0.toInt ∧ x0.toInt ≤ 5) ∧ (1 ≤ x2.toInt ∧ x2.toInt ≤ 8))))))) 0 0 (sgA 26 h sz) := by
  refine sg_ofWi (cc := cX12_sitters) (maxL := 7) RX12 (by decide) rfl rfl (Nat.le_of_ble_eq_true rfl) ?_
  intro p e s m below meth cd Qz ls hx hb hml hown hts hK hZ hP hS hl hret
  have hA := sgY.self (n := 26) (h := h) (sz := s.heap.size)
  have hl : lv_has ls 7 [(0, .ref (h 0)), (1, .int x0), (2, .int x1), (3, .int x2)] := hl
  obtain ⟨H, hH⟩ : ∃ z : Heap, z = s.heap := ⟨_, rfl⟩
  obtain ⟨locs, hlo⟩ : ∃ z : List Loc, z = [] := ⟨_, rfl⟩
  have hP : va_P D vwCl (sgw 26 h (eM ca h) f0M L0 Q0) H := by rw [hH]; exact hP
  have hS : va_S (sgA 26 h s.heap.size) s.heap H locs := by rw [hH, hlo]; exact hS
  suffices hgo : W p l e ({ frames := 2, cells := 0, slots := 0, locals := 45 }) s m ([.ref (h 0), .int x0, .int x1, .int x2] : List Value).toArray below meth cd H locs 0 0 Qz (F0 m 0 ls []) by rw [hH, hlo] at hgo; exact hgo
  refine lv_iload_n hx hb dX12_sitters_0 rfl (lv_at hl 1 rfl) ?_
  refine sg_calli (va_runS (As := [.int x0]) (rest := []) ⟨hx, hb, hml, hown, hts⟩ (cf_X12_isShelf l D ca za h hh f0M L0 Q0 x0 H.size) (va_cwS 1 hts (gw_S (fun _ h => List.mem_cons_of_mem _ h) mw_223 mw_224 mw_217 mw_222) rfl rfl rfl (by decide +kernel) ⟨Nat.le_of_ble_eq_true rfl, Nat.le_of_ble_eq_true rfl⟩) (sg_preS hA hK hP hS hZ) rfl rfl hl.1 rfl (lv_room (Nat.le_of_ble_eq_true rfl)) dX12_sitters_1 ⟨Nat.le_refl _, Nat.le_refl _⟩) hA hS (fun r_4 f_1 L_2 Q_3 H locs hq hP hS => ?_)
  obtain ⟨⟨ef9, eL9, eQ9⟩, hq⟩ := hq
  rw [ef9, eL9, eQ9] at hP; clear ef9 eL9 eQ9
  rcases hq with ⟨rfl, hq⟩ | ⟨rfl, hq⟩
  · skip
    have q_5 := hq
    refine lv_if_eq (tgt := 19) hx hb dX12_sitters_4 (by decide) (fun c => absurd c (by decide)) (fun c => ?_)
    refine lv_iload_n hx hb dX12_sitters_7 rfl (lv_at hl 3 rfl) ?_
    obtain ⟨w_6, ew_6⟩ : ∃ z : Int64, z = x2.toInt64 := ⟨_, rfl⟩
    have q_7 : w_6.toInt = x2.toInt := by rw [ew_6]; exact Int32.toInt_toInt64 _
    refine lv_i2l (v := w_6) hx hb dX12_sitters_8 ew_6.symm ?_
    refine lv_lconst (v := 1) hx hb dX12_sitters_9 (by decide) ?_
    refine lv_ldc2 (v := 8) hx hb hown (hts _ (List.mem_cons_of_mem _ mw_250)) dX12_sitters_10 ?_
    refine sg_calli (va_runS (As := [.long w_6, .long 1, .long 8]) (rest := []) ⟨hx, hb, hml, hown, hts⟩ (cf_X12_within l D ca za h hh f0M L0 Q0 w_6 1 8 H.size) (va_cwS 3 hts (gw_S (fun _ h => List.mem_cons_of_mem _ h) mw_215 mw_216 mw_217 mw_214) rfl rfl rfl (by decide +kernel) ⟨Nat.le_of_ble_eq_true rfl, Nat.le_of_ble_eq_true rfl⟩) (sg_preS hA hK hP hS hZ) rfl rfl hl.1 rfl (lv_room (Nat.le_of_ble_eq_true rfl)) dX12_sitters_13 ⟨Nat.le_refl _, Nat.le_refl _⟩) hA hS (fun r_11 f_8 L_9 Q_10 H locs hq hP hS => ?_)
    obtain ⟨⟨ef9, eL9, eQ9⟩, hq⟩ := hq
    rw [ef9, eL9, eQ9] at hP; clear ef9 eL9 eQ9
    have k_12 : (1 : Int64).toInt = 1 := by decide
    have k_13 : (8 : Int64).toInt = 8 := by decide
    rcases hq with ⟨rfl, hq⟩ | ⟨rfl, hq⟩
    · skip
      have q_14 := hq
      refine lv_if_ne (tgt := 21) hx hb dX12_sitters_16 (by decide) (fun c => ?_) (fun c => absurd c (by decide))
      refine lv_aload_n hx hb dX12_sitters_21 rfl (lv_at hl 0 rfl) ?_
      refine sg_get (ci := 12) (v := .ref (h 22)) (C := RX12) (T := TX12) (N := 55) hx hb hts (fun w h => List.mem_cons_of_mem _ (gx_12 w h)) hown hK hP 0 (by decide) rfl rfl 51 (by decide) (hts _ (List.mem_cons_of_mem _ mw_225)) (fun _ h9 => h9) rfl dX12_sitters_22 ?_
      refine lv_iload_n hx hb dX12_sitters_25 rfl (lv_at hl 1 rfl) ?_
      refine sg_iald hx hb hK hP 22 (by decide) 0 rfl rfl (i := x0) (vp_in_iff.mpr ⟨by omega, by omega⟩) dX12_sitters_26 ?_
      refine lv_topi (fun v_15 ev_15 => ?_)
      have q_16 : v_15.toInt = -1 := by rw [ev_15, f0M_sh (by omega) (by omega)]; decide
      refine lv_if_lt (tgt := 44) hx hb dX12_sitters_27 (by decide) (fun c => ?_) (fun c => ?_)
      · skip
        have c_17 : v_15.toInt < 0 := (by have z := bn_lt c; have k1 : (0 : Int32).toInt = 0 := (by decide); omega)
        refine lv_iconst (v := 0) hx hb dX12_sitters_44 (by decide) ?_
        refine lv_istore (lv' := [(4, .int 0), (0, .ref (h 0)), (1, .int x0), (2, .int x1), (3, .int x2)]) hx hb dX12_sitters_45 hl (by decide) rfl (fun ls hl => ?_)
        refine lv_aload_n hx hb dX12_sitters_47 rfl (lv_at hl 1 rfl) ?_
        refine sg_get (ci := 12) (v := .ref (h 22)) (C := RX12) (T := TX12) (N := 55) hx hb hts (fun w h => List.mem_cons_of_mem _ (gx_12 w h)) hown hK hP 0 (by decide) rfl rfl 51 (by decide) (hts _ (List.mem_cons_of_mem _ mw_225)) (fun _ h9 => h9) rfl dX12_sitters_48 ?_
        refine lv_iload_n hx hb dX12_sitters_51 rfl (lv_at hl 2 rfl) ?_
        refine sg_iald hx hb hK hP 22 (by decide) 0 rfl rfl (i := x0) (vp_in_iff.mpr ⟨by omega, by omega⟩) dX12_sitters_52 ?_
        refine lv_topi (fun v_19 ev_19 => ?_)
        have q_20 : v_19.toInt = -1 := by rw [ev_19, f0M_sh (by omega) (by omega)]; decide
        refine lv_bipush (v := 50) hx hb dX12_sitters_53 (by decide) ?_
        refine lv_icmp_ne (tgt := 66) hx hb dX12_sitters_55 (by decide) (fun c => ?_) (fun c => ?_)
        · skip
          have c_21 : v_19.toInt ≠ 50 := (by have z := bn_ne c; have k1 : (50 : Int32).toInt = 50 := (by decide); omega)
          refine lv_iconst (v := 0) hx hb dX12_sitters_66 (by decide) ?_
          refine lv_istore (lv' := [(5, .int 0), (4, .int 0), (0, .ref (h 0)), (1, .int x0), (2, .int x1), (3, .int x2)]) hx hb dX12_sitters_67 hl (by decide) rfl (fun ls hl => ?_)
          refine lv_iload hx hb dX12_sitters_69 (lv_at hl 0 rfl) ?_
          refine lv_if_eq (tgt := 253) hx hb dX12_sitters_71 (by decide) (fun c => ?_) (fun c => absurd c (by decide))
          refine lv_iload hx hb dX12_sitters_253 (lv_at hl 1 rfl) ?_
          exact hret _ _ _ _ (0) f0M L0 Q0 dX12_sitters_255 hP hS ⟨trivial, Or.inl ⟨rfl, by omega⟩⟩
        · skip
          exfalso; have c_22 : v_19.toInt = 50 := (by have z := Int32.toInt_inj.mpr c; have k1 : (50 : Int32).toInt = 50 := (by decide); omega); omega
      · skip
        exfalso; have c_18 : 0 ≤ v_15.toInt := (by have z := bn_nlt c; have k1 : (0 : Int32).toInt = 0 := (by decide); omega); omega
    · skip
      have q_23 := hq
      refine lv_if_ne (tgt := 21) hx hb dX12_sitters_16 (by decide) (fun c => absurd c (by decide)) (fun c => ?_)
      refine lv_iconst (v := (-1)) hx hb dX12_sitters_19 (by decide) ?_
      exact hret _ _ _ _ (-1) f0M L0 Q0 dX12_sitters_20 hP hS ⟨trivial, Or.inr (⟨rfl, by omega⟩)⟩
  · skip
    have q_24 := hq
    refine lv_if_eq (tgt := 19) hx hb dX12_sitters_4 (by decide) (fun c => ?_) (fun c => absurd c (by decide))
    refine lv_iconst (v := (-1)) hx hb dX12_sitters_19 (by decide) ?_
    exact hret _ _ _ _ (-1) f0M L0 Q0 dX12_sitters_20 hP hS ⟨trivial, Or.inr (⟨rfl, by omega⟩)⟩

set_option maxHeartbeats 4000000 in
set_option maxRecDepth 100000 in
theorem cf_X12_placeOf (l : Launch) (D : va_G) (ca : Nat → ClassId) (za h : Nat → Nat) (hh : sgH 26 h) (f : sg_F) (L : sg_L) (Q : sg_Q) (x0 : Int32) (x1 : Int32) (hs : f 0 6 = 0) (sz : Nat) : Met l yX12_placeOf gwX12_placeOf { frames := 2, cells := 0, slots := 0, locals := 47 } (sgP D vwCl (tyX ca) 26 h (eM ca h) zcM za f L Q sz [.ref (h 0), .int x0, .int x1]) (sgQi D vwCl 26 h (eM ca h) sz (fun r f1 L1 Q1 => (f1 = f ∧ L1 = L ∧ Q1 = Q) ∧ ((r = (-1) ∧ (x1.toInt < 8 ∨ 10 < x1.toInt ∨ x0.toInt < 0 ∨ 2 < x0.toInt ∨ (x1.toInt = 10 ∧ x0.toInt ≠ 0))) ∨ (r = 64 ∧ (x1.toInt = 8 ∧ x0.toInt = 0)) ∨ (r = 65 ∧ (x1.toInt = 8 ∧ x0.toInt = 1)) ∨ (r = 66 ∧ (x1.toInt = 8 ∧ x0.toInt = 2)) ∨ (r = 67 ∧ (x1.toInt = 9 ∧ x0.toInt = 0)) ∨ (r = 68 ∧ (x1.toInt = 9 ∧ x0.toInt = 1)) ∨ (r = 69 ∧ (x1.toInt = 9 ∧ x0.toInt = 2)) ∨ (r = 70 ∧ (x1.toInt = 10 ∧ x0.toInt = 0))))) 0 0 (sgA 26 h sz) := by
  refine sg_ofWi (cc := cX12_placeOf) (maxL := 3) RX12 (by decide) rfl rfl (Nat.le_of_ble_eq_true rfl) ?_
  intro p e s m below meth cd Qz ls hx hb hml hown hts hK hZ hP hS hl hret
  have hA := sgY.self (n := 26) (h := h) (sz := s.heap.size)
  have hl : lv_has ls 3 [(0, .ref (h 0)), (1, .int x0), (2, .int x1)] := hl
  obtain ⟨H, hH⟩ : ∃ z : Heap, z = s.heap := ⟨_, rfl⟩
  obtain ⟨locs, hlo⟩ : ∃ z : List Loc, z = [] := ⟨_, rfl⟩
  have hP : va_P D vwCl (sgw 26 h (eM ca h) f L Q) H := by rw [hH]; exact hP
  have hS : va_S (sgA 26 h s.heap.size) s.heap H locs := by rw [hH, hlo]; exact hS
  suffices hgo : W p l e ({ frames := 2, cells := 0, slots := 0, locals := 47 }) s m ([.ref (h 0), .int x0, .int x1] : List Value).toArray below meth cd H locs 0 0 Qz (F0 m 0 ls []) by rw [hH, hlo] at hgo; exact hgo
  refine lv_iload_n hx hb dX12_placeOf_0 rfl (lv_at hl 2 rfl) ?_
  obtain ⟨w_1, ew_1⟩ : ∃ z : Int64, z = x1.toInt64 := ⟨_, rfl⟩
  have q_2 : w_1.toInt = x1.toInt := by rw [ew_1]; exact Int32.toInt_toInt64 _
  refine lv_i2l (v := w_1) hx hb dX12_placeOf_1 ew_1.symm ?_
  refine lv_lconst (v := 0) hx hb dX12_placeOf_2 (by decide) ?_
  refine lv_ldc2 (v := 7) hx hb hown (hts _ (List.mem_cons_of_mem _ mw_251)) dX12_placeOf_3 ?_
  refine sg_calli (va_runS (As := [.long w_1, .long 0, .long 7]) (rest := []) ⟨hx, hb, hml, hown, hts⟩ (cf_X12_within l D ca za h hh f L Q w_1 0 7 H.size) (va_cwS 3 hts (gw_S (fun _ h => List.mem_cons_of_mem _ h) mw_215 mw_216 mw_217 mw_214) rfl rfl rfl (by decide +kernel) ⟨Nat.le_of_ble_eq_true rfl, Nat.le_of_ble_eq_true rfl⟩) (sg_preS hA hK hP hS hZ) rfl rfl hl.1 rfl (lv_room (Nat.le_of_ble_eq_true rfl)) dX12_placeOf_6 ⟨Nat.le_refl _, Nat.le_refl _⟩) hA hS (fun r_6 f_3 L_4 Q_5 H locs hq hP hS => ?_)
  obtain ⟨⟨ef9, eL9, eQ9⟩, hq⟩ := hq
  rw [ef9, eL9, eQ9] at hP; clear ef9 eL9 eQ9
  have k_7 : (0 : Int64).toInt = 0 := by decide
  have k_8 : (7 : Int64).toInt = 7 := by decide
  rcases hq with ⟨rfl, hq⟩ | ⟨rfl, hq⟩
  · skip
    have q_9 := hq
    refine lv_if_eq (tgt := 32) hx hb dX12_placeOf_9 (by decide) (fun c => absurd c (by decide)) (fun c => ?_)
    refine lv_aload_n hx hb dX12_placeOf_12 rfl (lv_at hl 0 rfl) ?_
    refine lv_iload_n hx hb dX12_placeOf_13 rfl (lv_at hl 1 rfl) ?_
    obtain ⟨w_10, ew_10⟩ : ∃ z : Int64, z = x0.toInt64 := ⟨_, rfl⟩
    have q_11 : w_10.toInt = x0.toInt := by rw [ew_10]; exact Int32.toInt_toInt64 _
    refine lv_i2l (v := w_10) hx hb dX12_placeOf_14 ew_10.symm ?_
    refine sg_calli (va_runV (As := [.long w_10]) (rest := []) ⟨hx, hb, hml, hown, hts⟩ (cf_X12_isSitter l D ca za h hh f L Q w_10 (hs) H.size) (cwV 1 hts (gw_V (fun _ h => List.mem_cons_of_mem _ h) mw_227 mw_228 mw_229 mw_217 mw_226) rfl rfl rfl (by decide +kernel) ⟨Nat.le_of_ble_eq_true rfl, Nat.le_of_ble_eq_true rfl⟩) (sg_preV (ci := 12) (C := RX12) (T := TX12) (N := 55) hA hK hP hS hZ 0 (by decide) rfl rfl) rfl rfl hl.1 rfl (lv_room (Nat.le_of_ble_eq_true rfl)) dX12_placeOf_15 ⟨Nat.le_refl _, Nat.le_refl _⟩) hA hS (fun r_15 f_12 L_13 Q_14 H locs hq hP hS => ?_)
    obtain ⟨⟨ef9, eL9, eQ9⟩, hq⟩ := hq
    rw [ef9, eL9, eQ9] at hP; clear ef9 eL9 eQ9
    obtain ⟨rfl, hq⟩ := hq
    have q_16 := hq
    refine lv_if_eq (tgt := 30) hx hb dX12_placeOf_18 (by decide) (fun c => ?_) (fun c => absurd c (by decide))
    refine lv_iconst (v := (-1)) hx hb dX12_placeOf_30 (by decide) ?_
    exact hret _ _ _ _ (-1) f L Q dX12_placeOf_31 hP hS ⟨⟨rfl, rfl, rfl⟩, Or.inl ⟨rfl, by omega⟩⟩
  · skip
    have q_17 := hq
    refine lv_if_eq (tgt := 32) hx hb dX12_placeOf_9 (by decide) (fun c => ?_) (fun c => absurd c (by decide))
    refine lv_iload_n hx hb dX12_placeOf_32 rfl (lv_at hl 2 rfl) ?_
    obtain ⟨w_18, ew_18⟩ : ∃ z : Int64, z = x1.toInt64 := ⟨_, rfl⟩
    have q_19 : w_18.toInt = x1.toInt := by rw [ew_18]; exact Int32.toInt_toInt64 _
    refine lv_i2l (v := w_18) hx hb dX12_placeOf_33 ew_18.symm ?_
    refine lv_ldc2 (v := 8) hx hb hown (hts _ (List.mem_cons_of_mem _ mw_250)) dX12_placeOf_34 ?_
    refine lv_ldc2 (v := 9) hx hb hown (hts _ (List.mem_cons_of_mem _ mw_252)) dX12_placeOf_37 ?_
    refine sg_calli (va_runS (As := [.long w_18, .long 8, .long 9]) (rest := []) ⟨hx, hb, hml, hown, hts⟩ (cf_X12_within l D ca za h hh f L Q w_18 8 9 H.size) (va_cwS 3 hts (gw_S (fun _ h => List.mem_cons_of_mem _ h) mw_215 mw_216 mw_217 mw_214) rfl rfl rfl (by decide +kernel) ⟨Nat.le_of_ble_eq_true rfl, Nat.le_of_ble_eq_true rfl⟩) (sg_preS hA hK hP hS hZ) rfl rfl hl.1 rfl (lv_room (Nat.le_of_ble_eq_true rfl)) dX12_placeOf_40 ⟨Nat.le_refl _, Nat.le_refl _⟩) hA hS (fun r_23 f_20 L_21 Q_22 H locs hq hP hS => ?_)
    obtain ⟨⟨ef9, eL9, eQ9⟩, hq⟩ := hq
    rw [ef9, eL9, eQ9] at hP; clear ef9 eL9 eQ9
    have k_24 : (8 : Int64).toInt = 8 := by decide
    have k_25 : (9 : Int64).toInt = 9 := by decide
    rcases hq with ⟨rfl, hq⟩ | ⟨rfl, hq⟩
    · skip
      have q_26 := hq
      refine lv_if_eq (tgt := 69) hx hb dX12_placeOf_43 (by decide) (fun c => absurd c (by decide)) (fun c => ?_)
      refine lv_iload_n hx hb dX12_placeOf_46 rfl (lv_at hl 1 rfl) ?_
      refine sg_calli (va_runS (As := [.int x0]) (rest := []) ⟨hx, hb, hml, hown, hts⟩ (cf_X12_isPart l D ca za h hh f L Q x0 H.size) (va_cwS 1 hts (gw_S (fun _ h => List.mem_cons_of_mem _ h) mw_235 mw_236 mw_217 mw_234) rfl rfl rfl (by decide +kernel) ⟨Nat.le_of_ble_eq_true rfl, Nat.le_of_ble_eq_true rfl⟩) (sg_preS hA hK hP hS hZ) rfl rfl hl.1 rfl (lv_room (Nat.le_of_ble_eq_true rfl)) dX12_placeOf_47 ⟨Nat.le_refl _, Nat.le_refl _⟩) hA hS (fun r_30 f_27 L_28 Q_29 H locs hq hP hS => ?_)
      obtain ⟨⟨ef9, eL9, eQ9⟩, hq⟩ := hq
      rw [ef9, eL9, eQ9] at hP; clear ef9 eL9 eQ9
      rcases hq with ⟨rfl, hq⟩ | ⟨rfl, hq⟩
      · skip
        have q_31 := hq
        refine lv_if_eq (tgt := 67) hx hb dX12_placeOf_50 (by decide) (fun c => absurd c (by decide)) (fun c => ?_)
        refine lv_bipush (v := 64) hx hb dX12_placeOf_53 (by decide) ?_
        refine lv_iconst (v := 3) hx hb dX12_placeOf_55 (by decide) ?_
        refine lv_iload_n hx hb dX12_placeOf_56 rfl (lv_at hl 2 rfl) ?_
        refine lv_bipush (v := 8) hx hb dX12_placeOf_57 (by decide) ?_
        refine lv_isub hx hb dX12_placeOf_59 ?_
        refine lv_topi (fun v_32 ev_32 => ?_)
        have q_33 : v_32.toInt = x1.toInt - 8 := by rw [ev_32]; have k1 : (8 : Int32).toInt = 8 := (by decide); exact (bn_subI (by omega) (by omega)).trans (by omega)
        refine lv_imul hx hb dX12_placeOf_60 ?_
        refine lv_topi (fun v_34 ev_34 => ?_)
        have q_35 : v_34.toInt = 3 * v_32.toInt := by rw [ev_34]; exact bn_mulJ (by decide) (by omega) (by omega)
        refine lv_iadd hx hb dX12_placeOf_61 ?_
        refine lv_topi (fun v_36 ev_36 => ?_)
        have q_37 : v_36.toInt = 64 + v_34.toInt := by rw [ev_36]; have k0 : (64 : Int32).toInt = 64 := (by decide); exact (bn_addI (by omega) (by omega)).trans (by omega)
        refine lv_iload_n hx hb dX12_placeOf_62 rfl (lv_at hl 1 rfl) ?_
        refine lv_iadd hx hb dX12_placeOf_63 ?_
        refine lv_topi (fun v_38 ev_38 => ?_)
        have q_39 : v_38.toInt = v_36.toInt + x0.toInt := by rw [ev_38]; exact (bn_addI (by omega) (by omega)).trans (by omega)
        refine lv_goto (tgt := 68) hx hb dX12_placeOf_64 (by decide) ?_
        rcases (show x1.toInt = 8 ∨ x1.toInt = 9 from by omega) with z1 | z1 <;> rcases (show x0.toInt = 0 ∨ x0.toInt = 1 ∨ x0.toInt = 2 from by omega) with z | z | z <;> exact hret _ _ _ _ (v_38) f L Q dX12_placeOf_68 hP hS ⟨⟨rfl, rfl, rfl⟩, (by first | exact Or.inl ⟨Int32.toInt_inj.mp (by have k9 : ((-1) : Int32).toInt = (-1) := (by decide); omega), by omega⟩ | exact Or.inr (Or.inl ⟨Int32.toInt_inj.mp (by have k9 : (64 : Int32).toInt = 64 := (by decide); omega), by omega⟩) | exact Or.inr (Or.inr (Or.inl ⟨Int32.toInt_inj.mp (by have k9 : (65 : Int32).toInt = 65 := (by decide); omega), by omega⟩)) | exact Or.inr (Or.inr (Or.inr (Or.inl ⟨Int32.toInt_inj.mp (by have k9 : (66 : Int32).toInt = 66 := (by decide); omega), by omega⟩))) | exact Or.inr (Or.inr (Or.inr (Or.inr (Or.inl ⟨Int32.toInt_inj.mp (by have k9 : (67 : Int32).toInt = 67 := (by decide); omega), by omega⟩)))) | exact Or.inr (Or.inr (Or.inr (Or.inr (Or.inr (Or.inl ⟨Int32.toInt_inj.mp (by have k9 : (68 : Int32).toInt = 68 := (by decide); omega), by omega⟩))))) | exact Or.inr (Or.inr (Or.inr (Or.inr (Or.inr (Or.inr (Or.inl ⟨Int32.toInt_inj.mp (by have k9 : (69 : Int32).toInt = 69 := (by decide); omega), by omega⟩)))))) | exact Or.inr (Or.inr (Or.inr (Or.inr (Or.inr (Or.inr (Or.inr (⟨Int32.toInt_inj.mp (by have k9 : (70 : Int32).toInt = 70 := (by decide); omega), by omega⟩))))))))⟩
      · skip
        have q_40 := hq
        refine lv_if_eq (tgt := 67) hx hb dX12_placeOf_50 (by decide) (fun c => ?_) (fun c => absurd c (by decide))
        refine lv_iconst (v := (-1)) hx hb dX12_placeOf_67 (by decide) ?_
        exact hret _ _ _ _ (-1) f L Q dX12_placeOf_68 hP hS ⟨⟨rfl, rfl, rfl⟩, Or.inl ⟨rfl, by omega⟩⟩
    · skip
      have q_41 := hq
      refine lv_if_eq (tgt := 69) hx hb dX12_placeOf_43 (by decide) (fun c => ?_) (fun c => absurd c (by decide))
      refine lv_iload_n hx hb dX12_placeOf_69 rfl (lv_at hl 2 rfl) ?_
      refine lv_bipush (v := 10) hx hb dX12_placeOf_70 (by decide) ?_
      refine lv_icmp_ne (tgt := 84) hx hb dX12_placeOf_72 (by decide) (fun c => ?_) (fun c => ?_)
      · skip
        have c_42 : x1.toInt ≠ 10 := (by have z := bn_ne c; have k1 : (10 : Int32).toInt = 10 := (by decide); omega)
        refine lv_iconst (v := (-1)) hx hb dX12_placeOf_84 (by decide) ?_
        exact hret _ _ _ _ (-1) f L Q dX12_placeOf_85 hP hS ⟨⟨rfl, rfl, rfl⟩, Or.inl ⟨rfl, by omega⟩⟩
      · skip
        have c_43 : x1.toInt = 10 := (by have z := Int32.toInt_inj.mpr c; have k1 : (10 : Int32).toInt = 10 := (by decide); omega)
        refine lv_iload_n hx hb dX12_placeOf_75 rfl (lv_at hl 1 rfl) ?_
        refine lv_if_ne (tgt := 84) hx hb dX12_placeOf_76 (by decide) (fun c => ?_) (fun c => ?_)
        · skip
          have c_44 : x0.toInt ≠ 0 := (by have z := bn_ne c; have k1 : (0 : Int32).toInt = 0 := (by decide); omega)
          refine lv_iconst (v := (-1)) hx hb dX12_placeOf_84 (by decide) ?_
          exact hret _ _ _ _ (-1) f L Q dX12_placeOf_85 hP hS ⟨⟨rfl, rfl, rfl⟩, Or.inl ⟨rfl, by omega⟩⟩
        · skip
          have c_45 : x0.toInt = 0 := (by have z := Int32.toInt_inj.mpr c; have k1 : (0 : Int32).toInt = 0 := (by decide); omega)
          refine lv_bipush (v := 70) hx hb dX12_placeOf_79 (by decide) ?_
          refine lv_goto (tgt := 85) hx hb dX12_placeOf_81 (by decide) ?_
          exact hret _ _ _ _ (70) f L Q dX12_placeOf_85 hP hS ⟨⟨rfl, rfl, rfl⟩, Or.inr (Or.inr (Or.inr (Or.inr (Or.inr (Or.inr (Or.inr (⟨rfl, by omega⟩)))))))⟩

set_option maxHeartbeats 4000000 in
set_option maxRecDepth 100000 in
theorem cf_X12_mostOf_8 (l : Launch) (D : va_G) (ca : Nat → ClassId) (za h : Nat → Nat) (hh : sgH 26 h) (f : sg_F) (L : sg_L) (Q : sg_Q) (sz : Nat) : Met l yX12_mostOf gwX12_mostOf { frames := 0, cells := 0, slots := 0, locals := 0 } (sgP D vwCl (tyX ca) 26 h (eM ca h) zcM za f L Q sz [.int 8]) (sgQi D vwCl 26 h (eM ca h) sz (fun r f1 L1 Q1 => (f1 = f ∧ L1 = L ∧ Q1 = Q) ∧ ((r = 3 ∧ (True))))) 0 0 (sgA 26 h sz) := by
  refine sg_ofWi (cc := cX12_mostOf) (maxL := 1) RX12 (by decide) rfl rfl (Nat.le_of_ble_eq_true rfl) ?_
  intro p e s m below meth cd Qz ls hx hb hml hown hts hK hZ hP hS hl hret
  have hA := sgY.self (n := 26) (h := h) (sz := s.heap.size)
  have hl : lv_has ls 1 [(0, .int 8)] := hl
  obtain ⟨H, hH⟩ : ∃ z : Heap, z = s.heap := ⟨_, rfl⟩
  obtain ⟨locs, hlo⟩ : ∃ z : List Loc, z = [] := ⟨_, rfl⟩
  have hP : va_P D vwCl (sgw 26 h (eM ca h) f L Q) H := by rw [hH]; exact hP
  have hS : va_S (sgA 26 h s.heap.size) s.heap H locs := by rw [hH, hlo]; exact hS
  suffices hgo : W p l e ({ frames := 0, cells := 0, slots := 0, locals := 0 }) s m ([.int 8] : List Value).toArray below meth cd H locs 0 0 Qz (F0 m 0 ls []) by rw [hH, hlo] at hgo; exact hgo
  refine lv_iload_n hx hb dX12_mostOf_0 rfl (lv_at hl 0 rfl) ?_
  refine lv_tableIn (x := 8) (tgt := 54) hx hb dX12_mostOf_1 (by decide) (by decide) rfl (by decide) ?_
  refine lv_iconst (v := 3) hx hb dX12_mostOf_54 (by decide) ?_
  exact hret _ _ _ _ (3) f L Q dX12_mostOf_55 hP hS ⟨⟨rfl, rfl, rfl⟩, ⟨rfl, trivial⟩⟩

set_option maxHeartbeats 4000000 in
set_option maxRecDepth 100000 in
theorem cf_X12_mostOf_9 (l : Launch) (D : va_G) (ca : Nat → ClassId) (za h : Nat → Nat) (hh : sgH 26 h) (f : sg_F) (L : sg_L) (Q : sg_Q) (sz : Nat) : Met l yX12_mostOf gwX12_mostOf { frames := 0, cells := 0, slots := 0, locals := 0 } (sgP D vwCl (tyX ca) 26 h (eM ca h) zcM za f L Q sz [.int 9]) (sgQi D vwCl 26 h (eM ca h) sz (fun r f1 L1 Q1 => (f1 = f ∧ L1 = L ∧ Q1 = Q) ∧ ((r = 9 ∧ (True))))) 0 0 (sgA 26 h sz) := by
  refine sg_ofWi (cc := cX12_mostOf) (maxL := 1) RX12 (by decide) rfl rfl (Nat.le_of_ble_eq_true rfl) ?_
  intro p e s m below meth cd Qz ls hx hb hml hown hts hK hZ hP hS hl hret
  have hA := sgY.self (n := 26) (h := h) (sz := s.heap.size)
  have hl : lv_has ls 1 [(0, .int 9)] := hl
  obtain ⟨H, hH⟩ : ∃ z : Heap, z = s.heap := ⟨_, rfl⟩
  obtain ⟨locs, hlo⟩ : ∃ z : List Loc, z = [] := ⟨_, rfl⟩
  have hP : va_P D vwCl (sgw 26 h (eM ca h) f L Q) H := by rw [hH]; exact hP
  have hS : va_S (sgA 26 h s.heap.size) s.heap H locs := by rw [hH, hlo]; exact hS
  suffices hgo : W p l e ({ frames := 0, cells := 0, slots := 0, locals := 0 }) s m ([.int 9] : List Value).toArray below meth cd H locs 0 0 Qz (F0 m 0 ls []) by rw [hH, hlo] at hgo; exact hgo
  refine lv_iload_n hx hb dX12_mostOf_0 rfl (lv_at hl 0 rfl) ?_
  refine lv_tableIn (x := 9) (tgt := 48) hx hb dX12_mostOf_1 (by decide) (by decide) rfl (by decide) ?_
  refine lv_bipush (v := 9) hx hb dX12_mostOf_48 (by decide) ?_
  exact hret _ _ _ _ (9) f L Q dX12_mostOf_50 hP hS ⟨⟨rfl, rfl, rfl⟩, ⟨rfl, trivial⟩⟩

set_option maxHeartbeats 4000000 in
set_option maxRecDepth 100000 in
theorem cf_X12_mostOf_10 (l : Launch) (D : va_G) (ca : Nat → ClassId) (za h : Nat → Nat) (hh : sgH 26 h) (f : sg_F) (L : sg_L) (Q : sg_Q) (sz : Nat) : Met l yX12_mostOf gwX12_mostOf { frames := 0, cells := 0, slots := 0, locals := 0 } (sgP D vwCl (tyX ca) 26 h (eM ca h) zcM za f L Q sz [.int 10]) (sgQi D vwCl 26 h (eM ca h) sz (fun r f1 L1 Q1 => (f1 = f ∧ L1 = L ∧ Q1 = Q) ∧ ((r = 99 ∧ (True))))) 0 0 (sgA 26 h sz) := by
  refine sg_ofWi (cc := cX12_mostOf) (maxL := 1) RX12 (by decide) rfl rfl (Nat.le_of_ble_eq_true rfl) ?_
  intro p e s m below meth cd Qz ls hx hb hml hown hts hK hZ hP hS hl hret
  have hA := sgY.self (n := 26) (h := h) (sz := s.heap.size)
  have hl : lv_has ls 1 [(0, .int 10)] := hl
  obtain ⟨H, hH⟩ : ∃ z : Heap, z = s.heap := ⟨_, rfl⟩
  obtain ⟨locs, hlo⟩ : ∃ z : List Loc, z = [] := ⟨_, rfl⟩
  have hP : va_P D vwCl (sgw 26 h (eM ca h) f L Q) H := by rw [hH]; exact hP
  have hS : va_S (sgA 26 h s.heap.size) s.heap H locs := by rw [hH, hlo]; exact hS
  suffices hgo : W p l e ({ frames := 0, cells := 0, slots := 0, locals := 0 }) s m ([.int 10] : List Value).toArray below meth cd H locs 0 0 Qz (F0 m 0 ls []) by rw [hH, hlo] at hgo; exact hgo
  refine lv_iload_n hx hb dX12_mostOf_0 rfl (lv_at hl 0 rfl) ?_
  refine lv_tableIn (x := 10) (tgt := 56) hx hb dX12_mostOf_1 (by decide) (by decide) rfl (by decide) ?_
  refine lv_bipush (v := 99) hx hb dX12_mostOf_56 (by decide) ?_
  exact hret _ _ _ _ (99) f L Q dX12_mostOf_58 hP hS ⟨⟨rfl, rfl, rfl⟩, ⟨rfl, trivial⟩⟩

set_option maxHeartbeats 4000000 in
set_option maxRecDepth 100000 in
theorem cf_X12_becomes_64 (l : Launch) (D : va_G) (ca : Nat → ClassId) (za h : Nat → Nat) (hh : sgH 26 h) (x1 : Int32) (sz : Nat) : Met l yX12_becomes gwX12_becomes { frames := 0, cells := 0, slots := 0, locals := 0 } (sgP D vwCl (tyX ca) 26 h (eM ca h) zcM za f0M L0 Q0 sz [.ref (h 0), .int 64, .int x1]) (sgQi D vwCl 26 h (eM ca h) sz (fun r f1 L1 Q1 => True ∧ ((r = 0 ∧ (True))))) 0 0 (sgA 26 h sz) := by
  refine sg_ofWi (cc := cX12_becomes) (maxL := 5) RX12 (by decide) rfl rfl (Nat.le_of_ble_eq_true rfl) ?_
  intro p e s m below meth cd Qz ls hx hb hml hown hts hK hZ hP hS hl hret
  have hA := sgY.self (n := 26) (h := h) (sz := s.heap.size)
  have hl : lv_has ls 5 [(0, .ref (h 0)), (1, .int 64), (2, .int x1)] := hl
  obtain ⟨H, hH⟩ : ∃ z : Heap, z = s.heap := ⟨_, rfl⟩
  obtain ⟨locs, hlo⟩ : ∃ z : List Loc, z = [] := ⟨_, rfl⟩
  have hP : va_P D vwCl (sgw 26 h (eM ca h) f0M L0 Q0) H := by rw [hH]; exact hP
  have hS : va_S (sgA 26 h s.heap.size) s.heap H locs := by rw [hH, hlo]; exact hS
  suffices hgo : W p l e ({ frames := 0, cells := 0, slots := 0, locals := 0 }) s m ([.ref (h 0), .int 64, .int x1] : List Value).toArray below meth cd H locs 0 0 Qz (F0 m 0 ls []) by rw [hH, hlo] at hgo; exact hgo
  refine lv_aload_n hx hb dX12_becomes_0 rfl (lv_at hl 0 rfl) ?_
  refine sg_get (ci := 12) (v := .ref (h 1)) (C := RX12) (T := TX12) (N := 55) hx hb hts (fun w h => List.mem_cons_of_mem _ (gx_12 w h)) hown hK hP 0 (by decide) rfl rfl 0 (by decide) (hts _ (List.mem_cons_of_mem _ mw_244)) (fun _ h9 => h9) rfl dX12_becomes_1 ?_
  refine lv_iload_n hx hb dX12_becomes_4 rfl (lv_at hl 1 rfl) ?_
  refine sg_iald hx hb hK hP 1 (by decide) 0 rfl rfl (i := 64) (vp_in_iff.mpr (by decide)) dX12_becomes_5 ?_
  refine W.eq (g2 := F0 m 6 ls [.int 0]) (by rw [show f0M 1 (Int32.toNatClampNeg 64) = 0 from rfl]) ?_
  refine lv_istore_n (lv' := [(3, .int 0), (0, .ref (h 0)), (1, .int 64), (2, .int x1)]) hx hb dX12_becomes_6 rfl hl (by decide) rfl (fun ls hl => ?_)
  refine lv_iload_n hx hb dX12_becomes_7 rfl (lv_at hl 0 rfl) ?_
  refine lv_iload_n hx hb dX12_becomes_8 rfl (lv_at hl 3 rfl) ?_
  refine lv_icmp_ne (tgt := 14) hx hb dX12_becomes_9 (by decide) (fun c => ?_) (fun c => ?_)
  · skip
    have c_1 : 0 ≠ x1.toInt := (by have z := bn_ne c; have k0 : (0 : Int32).toInt = 0 := (by decide); omega)
    refine lv_aload_n hx hb dX12_becomes_14 rfl (lv_at hl 1 rfl) ?_
    refine sg_get (ci := 12) (v := .int 0) (C := RX12) (T := TX12) (N := 55) hx hb hts (fun w h => List.mem_cons_of_mem _ (gx_12 w h)) hown hK hP 0 (by decide) rfl rfl 5 (by decide) (hts _ (List.mem_cons_of_mem _ mw_253)) (fun _ h9 => h9) rfl dX12_becomes_15 ?_
    refine lv_bipush (v := 40) hx hb dX12_becomes_18 (by decide) ?_
    refine lv_icmp_ne (tgt := 97) hx hb dX12_becomes_20 (by decide) (fun c => ?_) (fun c => absurd c (by decide))
    refine lv_aload_n hx hb dX12_becomes_97 rfl (lv_at hl 1 rfl) ?_
    refine sg_get (ci := 12) (v := .ref (h 2)) (C := RX12) (T := TX12) (N := 55) hx hb hts (fun w h => List.mem_cons_of_mem _ (gx_12 w h)) hown hK hP 0 (by decide) rfl rfl 1 (by decide) (hts _ (List.mem_cons_of_mem _ mw_254)) (fun _ h9 => h9) rfl dX12_becomes_98 ?_
    refine lv_aload_n hx hb dX12_becomes_101 rfl (lv_at hl 1 rfl) ?_
    refine sg_get (ci := 12) (v := .int 0) (C := RX12) (T := TX12) (N := 55) hx hb hts (fun w h => List.mem_cons_of_mem _ (gx_12 w h)) hown hK hP 0 (by decide) rfl rfl 5 (by decide) (hts _ (List.mem_cons_of_mem _ mw_253)) (fun _ h9 => h9) rfl dX12_becomes_102 ?_
    refine lv_iload_n hx hb dX12_becomes_105 rfl (lv_at hl 2 rfl) ?_
    refine sg_iast hx hb hh hA hK hP hS 2 (by decide) 0 (fun _ => rfl) rfl (i := 0) (x := 64) (vp_in_iff.mpr (by decide)) dX12_becomes_106 (fun f_3 H locs ef_3 hP hS => ?_)
    refine lv_aload_n hx hb dX12_becomes_107 rfl (lv_at hl 1 rfl) ?_
    refine sg_get (ci := 12) (v := .ref (h 3)) (C := RX12) (T := TX12) (N := 55) hx hb hts (fun w h => List.mem_cons_of_mem _ (gx_12 w h)) hown hK hP 0 (by decide) rfl rfl 2 (by decide) (hts _ (List.mem_cons_of_mem _ mw_255)) (fun _ h9 => h9) rfl dX12_becomes_108 ?_
    refine lv_aload_n hx hb dX12_becomes_111 rfl (lv_at hl 1 rfl) ?_
    refine sg_get (ci := 12) (v := .int 0) (C := RX12) (T := TX12) (N := 55) hx hb hts (fun w h => List.mem_cons_of_mem _ (gx_12 w h)) hown hK hP 0 (by decide) rfl rfl 5 (by decide) (hts _ (List.mem_cons_of_mem _ mw_253)) (fun _ h9 => h9) (congrArg (fun z => some (Value.int z)) (show f_3 0 5 = 0 from (by rw [ef_3]; exact rfl))) dX12_becomes_112 ?_
    refine lv_iload_n hx hb dX12_becomes_115 rfl (lv_at hl 0 rfl) ?_
    refine sg_iast hx hb hh hA hK hP hS 3 (by decide) 0 (fun _ => rfl) rfl (i := 0) (x := 0) (vp_in_iff.mpr (by decide)) dX12_becomes_116 (fun f_4 H locs ef_4 hP hS => ?_)
    refine lv_aload_n hx hb dX12_becomes_117 rfl (lv_at hl 1 rfl) ?_
    refine sg_get (ci := 12) (v := .ref (h 4)) (C := RX12) (T := TX12) (N := 55) hx hb hts (fun w h => List.mem_cons_of_mem _ (gx_12 w h)) hown hK hP 0 (by decide) rfl rfl 3 (by decide) (hts _ (List.mem_cons_of_mem _ mw_256)) (fun _ h9 => h9) rfl dX12_becomes_118 ?_
    refine lv_aload_n hx hb dX12_becomes_121 rfl (lv_at hl 1 rfl) ?_
    refine sg_get (ci := 12) (v := .int 0) (C := RX12) (T := TX12) (N := 55) hx hb hts (fun w h => List.mem_cons_of_mem _ (gx_12 w h)) hown hK hP 0 (by decide) rfl rfl 5 (by decide) (hts _ (List.mem_cons_of_mem _ mw_253)) (fun _ h9 => h9) (congrArg (fun z => some (Value.int z)) (show f_4 0 5 = 0 from (by rw [ef_4]; exact (show _ = _ from (by rw [ef_3]; exact rfl))))) dX12_becomes_122 ?_
    refine lv_iload_n hx hb dX12_becomes_125 rfl (lv_at hl 3 rfl) ?_
    refine sg_iast hx hb hh hA hK hP hS 4 (by decide) 0 (fun _ => rfl) rfl (i := 0) (x := x1) (vp_in_iff.mpr (by decide)) dX12_becomes_126 (fun f_5 H locs ef_5 hP hS => ?_)
    refine lv_aload_n hx hb dX12_becomes_127 rfl (lv_at hl 1 rfl) ?_
    refine lv_dup hx hb dX12_becomes_128 rfl ?_
    refine sg_get (ci := 12) (v := .int 0) (C := RX12) (T := TX12) (N := 55) hx hb hts (fun w h => List.mem_cons_of_mem _ (gx_12 w h)) hown hK hP 0 (by decide) rfl rfl 5 (by decide) (hts _ (List.mem_cons_of_mem _ mw_253)) (fun _ h9 => h9) (congrArg (fun z => some (Value.int z)) (show f_5 0 5 = 0 from (by rw [ef_5]; exact (show _ = _ from (by rw [ef_4]; exact (show _ = _ from (by rw [ef_3]; exact rfl))))))) dX12_becomes_129 ?_
    refine lv_iconst (v := 1) hx hb dX12_becomes_132 (by decide) ?_
    refine lv_iadd hx hb dX12_becomes_133 ?_
    refine W.eq (g2 := F0 m 134 ls [.int 1, .ref (h 0)]) (by rw [show (0 + 1 : Int32) = 1 from by decide]) ?_
    refine sg_put (ci := 12) (x := 1) (ty := .int) (C := RX12) (T := TX12) (N := 55) hx hb hts (fun w h => List.mem_cons_of_mem _ (gx_12 w h)) tyX12 tyX12_ok nmX12 hown hh hA hK hP hS 0 (by decide) rfl rfl 5 (by decide) (hts _ (List.mem_cons_of_mem _ mw_253)) (fun _ h9 => h9) rfl rfl (by decide +kernel) rfl rfl (Nat.le_of_ble_eq_true rfl) dX12_becomes_134 (fun f_6 H locs ef_6 hP hS => ?_)
    refine lv_aload_n hx hb dX12_becomes_137 rfl (lv_at hl 1 rfl) ?_
    refine lv_aload_n hx hb dX12_becomes_138 rfl (lv_at hl 1 rfl) ?_
    refine sg_get (ci := 12) (v := .int 1) (C := RX12) (T := TX12) (N := 55) hx hb hts (fun w h => List.mem_cons_of_mem _ (gx_12 w h)) hown hK hP 0 (by decide) rfl rfl 5 (by decide) (hts _ (List.mem_cons_of_mem _ mw_253)) (fun _ h9 => h9) (congrArg (fun z => some (Value.int z)) (show f_6 0 5 = 1 from (by rw [ef_6]; rfl))) dX12_becomes_139 ?_
    refine sg_put (ci := 12) (x := 1) (ty := .int) (C := RX12) (T := TX12) (N := 55) hx hb hts (fun w h => List.mem_cons_of_mem _ (gx_12 w h)) tyX12 tyX12_ok nmX12 hown hh hA hK hP hS 0 (by decide) rfl rfl 4 (by decide) (hts _ (List.mem_cons_of_mem _ mw_257)) (fun _ h9 => h9) rfl rfl (by decide +kernel) rfl rfl (Nat.le_of_ble_eq_true rfl) dX12_becomes_142 (fun f_7 H locs ef_7 hP hS => ?_)
    refine lv_aload_n hx hb dX12_becomes_145 rfl (lv_at hl 1 rfl) ?_
    refine sg_get (ci := 12) (v := .ref (h 1)) (C := RX12) (T := TX12) (N := 55) hx hb hts (fun w h => List.mem_cons_of_mem _ (gx_12 w h)) hown hK hP 0 (by decide) rfl rfl 0 (by decide) (hts _ (List.mem_cons_of_mem _ mw_244)) (fun _ h9 => h9) rfl dX12_becomes_146 ?_
    refine lv_iload_n hx hb dX12_becomes_149 rfl (lv_at hl 2 rfl) ?_
    refine lv_iload_n hx hb dX12_becomes_150 rfl (lv_at hl 3 rfl) ?_
    refine sg_iast hx hb hh hA hK hP hS 1 (by decide) 0 (fun _ => rfl) rfl (i := 64) (x := x1) (vp_in_iff.mpr (by decide)) dX12_becomes_151 (fun f_8 H locs ef_8 hP hS => ?_)
    refine lv_iload_n hx hb dX12_becomes_152 rfl (lv_at hl 0 rfl) ?_
    exact hret _ _ _ _ (0) f_8 L0 Q0 dX12_becomes_153 hP hS ⟨trivial, ⟨rfl, trivial⟩⟩
  · skip
    have c_2 : 0 = x1.toInt := (by have z := Int32.toInt_inj.mpr c; have k0 : (0 : Int32).toInt = 0 := (by decide); omega)
    refine lv_iload_n hx hb dX12_becomes_12 rfl (lv_at hl 0 rfl) ?_
    exact hret _ _ _ _ (0) f0M L0 Q0 dX12_becomes_13 hP hS ⟨trivial, ⟨rfl, trivial⟩⟩

set_option maxHeartbeats 4000000 in
set_option maxRecDepth 100000 in
theorem cf_X12_becomes_65 (l : Launch) (D : va_G) (ca : Nat → ClassId) (za h : Nat → Nat) (hh : sgH 26 h) (x1 : Int32) (sz : Nat) : Met l yX12_becomes gwX12_becomes { frames := 0, cells := 0, slots := 0, locals := 0 } (sgP D vwCl (tyX ca) 26 h (eM ca h) zcM za f0M L0 Q0 sz [.ref (h 0), .int 65, .int x1]) (sgQi D vwCl 26 h (eM ca h) sz (fun r f1 L1 Q1 => True ∧ ((r = 0 ∧ (True))))) 0 0 (sgA 26 h sz) := by
  refine sg_ofWi (cc := cX12_becomes) (maxL := 5) RX12 (by decide) rfl rfl (Nat.le_of_ble_eq_true rfl) ?_
  intro p e s m below meth cd Qz ls hx hb hml hown hts hK hZ hP hS hl hret
  have hA := sgY.self (n := 26) (h := h) (sz := s.heap.size)
  have hl : lv_has ls 5 [(0, .ref (h 0)), (1, .int 65), (2, .int x1)] := hl
  obtain ⟨H, hH⟩ : ∃ z : Heap, z = s.heap := ⟨_, rfl⟩
  obtain ⟨locs, hlo⟩ : ∃ z : List Loc, z = [] := ⟨_, rfl⟩
  have hP : va_P D vwCl (sgw 26 h (eM ca h) f0M L0 Q0) H := by rw [hH]; exact hP
  have hS : va_S (sgA 26 h s.heap.size) s.heap H locs := by rw [hH, hlo]; exact hS
  suffices hgo : W p l e ({ frames := 0, cells := 0, slots := 0, locals := 0 }) s m ([.ref (h 0), .int 65, .int x1] : List Value).toArray below meth cd H locs 0 0 Qz (F0 m 0 ls []) by rw [hH, hlo] at hgo; exact hgo
  refine lv_aload_n hx hb dX12_becomes_0 rfl (lv_at hl 0 rfl) ?_
  refine sg_get (ci := 12) (v := .ref (h 1)) (C := RX12) (T := TX12) (N := 55) hx hb hts (fun w h => List.mem_cons_of_mem _ (gx_12 w h)) hown hK hP 0 (by decide) rfl rfl 0 (by decide) (hts _ (List.mem_cons_of_mem _ mw_244)) (fun _ h9 => h9) rfl dX12_becomes_1 ?_
  refine lv_iload_n hx hb dX12_becomes_4 rfl (lv_at hl 1 rfl) ?_
  refine sg_iald hx hb hK hP 1 (by decide) 0 rfl rfl (i := 65) (vp_in_iff.mpr (by decide)) dX12_becomes_5 ?_
  refine W.eq (g2 := F0 m 6 ls [.int 0]) (by rw [show f0M 1 (Int32.toNatClampNeg 65) = 0 from rfl]) ?_
  refine lv_istore_n (lv' := [(3, .int 0), (0, .ref (h 0)), (1, .int 65), (2, .int x1)]) hx hb dX12_becomes_6 rfl hl (by decide) rfl (fun ls hl => ?_)
  refine lv_iload_n hx hb dX12_becomes_7 rfl (lv_at hl 0 rfl) ?_
  refine lv_iload_n hx hb dX12_becomes_8 rfl (lv_at hl 3 rfl) ?_
  refine lv_icmp_ne (tgt := 14) hx hb dX12_becomes_9 (by decide) (fun c => ?_) (fun c => ?_)
  · skip
    have c_1 : 0 ≠ x1.toInt := (by have z := bn_ne c; have k0 : (0 : Int32).toInt = 0 := (by decide); omega)
    refine lv_aload_n hx hb dX12_becomes_14 rfl (lv_at hl 1 rfl) ?_
    refine sg_get (ci := 12) (v := .int 0) (C := RX12) (T := TX12) (N := 55) hx hb hts (fun w h => List.mem_cons_of_mem _ (gx_12 w h)) hown hK hP 0 (by decide) rfl rfl 5 (by decide) (hts _ (List.mem_cons_of_mem _ mw_253)) (fun _ h9 => h9) rfl dX12_becomes_15 ?_
    refine lv_bipush (v := 40) hx hb dX12_becomes_18 (by decide) ?_
    refine lv_icmp_ne (tgt := 97) hx hb dX12_becomes_20 (by decide) (fun c => ?_) (fun c => absurd c (by decide))
    refine lv_aload_n hx hb dX12_becomes_97 rfl (lv_at hl 1 rfl) ?_
    refine sg_get (ci := 12) (v := .ref (h 2)) (C := RX12) (T := TX12) (N := 55) hx hb hts (fun w h => List.mem_cons_of_mem _ (gx_12 w h)) hown hK hP 0 (by decide) rfl rfl 1 (by decide) (hts _ (List.mem_cons_of_mem _ mw_254)) (fun _ h9 => h9) rfl dX12_becomes_98 ?_
    refine lv_aload_n hx hb dX12_becomes_101 rfl (lv_at hl 1 rfl) ?_
    refine sg_get (ci := 12) (v := .int 0) (C := RX12) (T := TX12) (N := 55) hx hb hts (fun w h => List.mem_cons_of_mem _ (gx_12 w h)) hown hK hP 0 (by decide) rfl rfl 5 (by decide) (hts _ (List.mem_cons_of_mem _ mw_253)) (fun _ h9 => h9) rfl dX12_becomes_102 ?_
    refine lv_iload_n hx hb dX12_becomes_105 rfl (lv_at hl 2 rfl) ?_
    refine sg_iast hx hb hh hA hK hP hS 2 (by decide) 0 (fun _ => rfl) rfl (i := 0) (x := 65) (vp_in_iff.mpr (by decide)) dX12_becomes_106 (fun f_3 H locs ef_3 hP hS => ?_)
    refine lv_aload_n hx hb dX12_becomes_107 rfl (lv_at hl 1 rfl) ?_
    refine sg_get (ci := 12) (v := .ref (h 3)) (C := RX12) (T := TX12) (N := 55) hx hb hts (fun w h => List.mem_cons_of_mem _ (gx_12 w h)) hown hK hP 0 (by decide) rfl rfl 2 (by decide) (hts _ (List.mem_cons_of_mem _ mw_255)) (fun _ h9 => h9) rfl dX12_becomes_108 ?_
    refine lv_aload_n hx hb dX12_becomes_111 rfl (lv_at hl 1 rfl) ?_
    refine sg_get (ci := 12) (v := .int 0) (C := RX12) (T := TX12) (N := 55) hx hb hts (fun w h => List.mem_cons_of_mem _ (gx_12 w h)) hown hK hP 0 (by decide) rfl rfl 5 (by decide) (hts _ (List.mem_cons_of_mem _ mw_253)) (fun _ h9 => h9) (congrArg (fun z => some (Value.int z)) (show f_3 0 5 = 0 from (by rw [ef_3]; exact rfl))) dX12_becomes_112 ?_
    refine lv_iload_n hx hb dX12_becomes_115 rfl (lv_at hl 0 rfl) ?_
    refine sg_iast hx hb hh hA hK hP hS 3 (by decide) 0 (fun _ => rfl) rfl (i := 0) (x := 0) (vp_in_iff.mpr (by decide)) dX12_becomes_116 (fun f_4 H locs ef_4 hP hS => ?_)
    refine lv_aload_n hx hb dX12_becomes_117 rfl (lv_at hl 1 rfl) ?_
    refine sg_get (ci := 12) (v := .ref (h 4)) (C := RX12) (T := TX12) (N := 55) hx hb hts (fun w h => List.mem_cons_of_mem _ (gx_12 w h)) hown hK hP 0 (by decide) rfl rfl 3 (by decide) (hts _ (List.mem_cons_of_mem _ mw_256)) (fun _ h9 => h9) rfl dX12_becomes_118 ?_
    refine lv_aload_n hx hb dX12_becomes_121 rfl (lv_at hl 1 rfl) ?_
    refine sg_get (ci := 12) (v := .int 0) (C := RX12) (T := TX12) (N := 55) hx hb hts (fun w h => List.mem_cons_of_mem _ (gx_12 w h)) hown hK hP 0 (by decide) rfl rfl 5 (by decide) (hts _ (List.mem_cons_of_mem _ mw_253)) (fun _ h9 => h9) (congrArg (fun z => some (Value.int z)) (show f_4 0 5 = 0 from (by rw [ef_4]; exact (show _ = _ from (by rw [ef_3]; exact rfl))))) dX12_becomes_122 ?_
    refine lv_iload_n hx hb dX12_becomes_125 rfl (lv_at hl 3 rfl) ?_
    refine sg_iast hx hb hh hA hK hP hS 4 (by decide) 0 (fun _ => rfl) rfl (i := 0) (x := x1) (vp_in_iff.mpr (by decide)) dX12_becomes_126 (fun f_5 H locs ef_5 hP hS => ?_)
    refine lv_aload_n hx hb dX12_becomes_127 rfl (lv_at hl 1 rfl) ?_
    refine lv_dup hx hb dX12_becomes_128 rfl ?_
    refine sg_get (ci := 12) (v := .int 0) (C := RX12) (T := TX12) (N := 55) hx hb hts (fun w h => List.mem_cons_of_mem _ (gx_12 w h)) hown hK hP 0 (by decide) rfl rfl 5 (by decide) (hts _ (List.mem_cons_of_mem _ mw_253)) (fun _ h9 => h9) (congrArg (fun z => some (Value.int z)) (show f_5 0 5 = 0 from (by rw [ef_5]; exact (show _ = _ from (by rw [ef_4]; exact (show _ = _ from (by rw [ef_3]; exact rfl))))))) dX12_becomes_129 ?_
    refine lv_iconst (v := 1) hx hb dX12_becomes_132 (by decide) ?_
    refine lv_iadd hx hb dX12_becomes_133 ?_
    refine W.eq (g2 := F0 m 134 ls [.int 1, .ref (h 0)]) (by rw [show (0 + 1 : Int32) = 1 from by decide]) ?_
    refine sg_put (ci := 12) (x := 1) (ty := .int) (C := RX12) (T := TX12) (N := 55) hx hb hts (fun w h => List.mem_cons_of_mem _ (gx_12 w h)) tyX12 tyX12_ok nmX12 hown hh hA hK hP hS 0 (by decide) rfl rfl 5 (by decide) (hts _ (List.mem_cons_of_mem _ mw_253)) (fun _ h9 => h9) rfl rfl (by decide +kernel) rfl rfl (Nat.le_of_ble_eq_true rfl) dX12_becomes_134 (fun f_6 H locs ef_6 hP hS => ?_)
    refine lv_aload_n hx hb dX12_becomes_137 rfl (lv_at hl 1 rfl) ?_
    refine lv_aload_n hx hb dX12_becomes_138 rfl (lv_at hl 1 rfl) ?_
    refine sg_get (ci := 12) (v := .int 1) (C := RX12) (T := TX12) (N := 55) hx hb hts (fun w h => List.mem_cons_of_mem _ (gx_12 w h)) hown hK hP 0 (by decide) rfl rfl 5 (by decide) (hts _ (List.mem_cons_of_mem _ mw_253)) (fun _ h9 => h9) (congrArg (fun z => some (Value.int z)) (show f_6 0 5 = 1 from (by rw [ef_6]; rfl))) dX12_becomes_139 ?_
    refine sg_put (ci := 12) (x := 1) (ty := .int) (C := RX12) (T := TX12) (N := 55) hx hb hts (fun w h => List.mem_cons_of_mem _ (gx_12 w h)) tyX12 tyX12_ok nmX12 hown hh hA hK hP hS 0 (by decide) rfl rfl 4 (by decide) (hts _ (List.mem_cons_of_mem _ mw_257)) (fun _ h9 => h9) rfl rfl (by decide +kernel) rfl rfl (Nat.le_of_ble_eq_true rfl) dX12_becomes_142 (fun f_7 H locs ef_7 hP hS => ?_)
    refine lv_aload_n hx hb dX12_becomes_145 rfl (lv_at hl 1 rfl) ?_
    refine sg_get (ci := 12) (v := .ref (h 1)) (C := RX12) (T := TX12) (N := 55) hx hb hts (fun w h => List.mem_cons_of_mem _ (gx_12 w h)) hown hK hP 0 (by decide) rfl rfl 0 (by decide) (hts _ (List.mem_cons_of_mem _ mw_244)) (fun _ h9 => h9) rfl dX12_becomes_146 ?_
    refine lv_iload_n hx hb dX12_becomes_149 rfl (lv_at hl 2 rfl) ?_
    refine lv_iload_n hx hb dX12_becomes_150 rfl (lv_at hl 3 rfl) ?_
    refine sg_iast hx hb hh hA hK hP hS 1 (by decide) 0 (fun _ => rfl) rfl (i := 65) (x := x1) (vp_in_iff.mpr (by decide)) dX12_becomes_151 (fun f_8 H locs ef_8 hP hS => ?_)
    refine lv_iload_n hx hb dX12_becomes_152 rfl (lv_at hl 0 rfl) ?_
    exact hret _ _ _ _ (0) f_8 L0 Q0 dX12_becomes_153 hP hS ⟨trivial, ⟨rfl, trivial⟩⟩
  · skip
    have c_2 : 0 = x1.toInt := (by have z := Int32.toInt_inj.mpr c; have k0 : (0 : Int32).toInt = 0 := (by decide); omega)
    refine lv_iload_n hx hb dX12_becomes_12 rfl (lv_at hl 0 rfl) ?_
    exact hret _ _ _ _ (0) f0M L0 Q0 dX12_becomes_13 hP hS ⟨trivial, ⟨rfl, trivial⟩⟩

set_option maxHeartbeats 4000000 in
set_option maxRecDepth 100000 in
theorem cf_X12_becomes_66 (l : Launch) (D : va_G) (ca : Nat → ClassId) (za h : Nat → Nat) (hh : sgH 26 h) (x1 : Int32) (sz : Nat) : Met l yX12_becomes gwX12_becomes { frames := 0, cells := 0, slots := 0, locals := 0 } (sgP D vwCl (tyX ca) 26 h (eM ca h) zcM za f0M L0 Q0 sz [.ref (h 0), .int 66, .int x1]) (sgQi D vwCl 26 h (eM ca h) sz (fun r f1 L1 Q1 => True ∧ ((r = 0 ∧ (True))))) 0 0 (sgA 26 h sz) := by
  refine sg_ofWi (cc := cX12_becomes) (maxL := 5) RX12 (by decide) rfl rfl (Nat.le_of_ble_eq_true rfl) ?_
  intro p e s m below meth cd Qz ls hx hb hml hown hts hK hZ hP hS hl hret
  have hA := sgY.self (n := 26) (h := h) (sz := s.heap.size)
  have hl : lv_has ls 5 [(0, .ref (h 0)), (1, .int 66), (2, .int x1)] := hl
  obtain ⟨H, hH⟩ : ∃ z : Heap, z = s.heap := ⟨_, rfl⟩
  obtain ⟨locs, hlo⟩ : ∃ z : List Loc, z = [] := ⟨_, rfl⟩
  have hP : va_P D vwCl (sgw 26 h (eM ca h) f0M L0 Q0) H := by rw [hH]; exact hP
  have hS : va_S (sgA 26 h s.heap.size) s.heap H locs := by rw [hH, hlo]; exact hS
  suffices hgo : W p l e ({ frames := 0, cells := 0, slots := 0, locals := 0 }) s m ([.ref (h 0), .int 66, .int x1] : List Value).toArray below meth cd H locs 0 0 Qz (F0 m 0 ls []) by rw [hH, hlo] at hgo; exact hgo
  refine lv_aload_n hx hb dX12_becomes_0 rfl (lv_at hl 0 rfl) ?_
  refine sg_get (ci := 12) (v := .ref (h 1)) (C := RX12) (T := TX12) (N := 55) hx hb hts (fun w h => List.mem_cons_of_mem _ (gx_12 w h)) hown hK hP 0 (by decide) rfl rfl 0 (by decide) (hts _ (List.mem_cons_of_mem _ mw_244)) (fun _ h9 => h9) rfl dX12_becomes_1 ?_
  refine lv_iload_n hx hb dX12_becomes_4 rfl (lv_at hl 1 rfl) ?_
  refine sg_iald hx hb hK hP 1 (by decide) 0 rfl rfl (i := 66) (vp_in_iff.mpr (by decide)) dX12_becomes_5 ?_
  refine W.eq (g2 := F0 m 6 ls [.int 0]) (by rw [show f0M 1 (Int32.toNatClampNeg 66) = 0 from rfl]) ?_
  refine lv_istore_n (lv' := [(3, .int 0), (0, .ref (h 0)), (1, .int 66), (2, .int x1)]) hx hb dX12_becomes_6 rfl hl (by decide) rfl (fun ls hl => ?_)
  refine lv_iload_n hx hb dX12_becomes_7 rfl (lv_at hl 0 rfl) ?_
  refine lv_iload_n hx hb dX12_becomes_8 rfl (lv_at hl 3 rfl) ?_
  refine lv_icmp_ne (tgt := 14) hx hb dX12_becomes_9 (by decide) (fun c => ?_) (fun c => ?_)
  · skip
    have c_1 : 0 ≠ x1.toInt := (by have z := bn_ne c; have k0 : (0 : Int32).toInt = 0 := (by decide); omega)
    refine lv_aload_n hx hb dX12_becomes_14 rfl (lv_at hl 1 rfl) ?_
    refine sg_get (ci := 12) (v := .int 0) (C := RX12) (T := TX12) (N := 55) hx hb hts (fun w h => List.mem_cons_of_mem _ (gx_12 w h)) hown hK hP 0 (by decide) rfl rfl 5 (by decide) (hts _ (List.mem_cons_of_mem _ mw_253)) (fun _ h9 => h9) rfl dX12_becomes_15 ?_
    refine lv_bipush (v := 40) hx hb dX12_becomes_18 (by decide) ?_
    refine lv_icmp_ne (tgt := 97) hx hb dX12_becomes_20 (by decide) (fun c => ?_) (fun c => absurd c (by decide))
    refine lv_aload_n hx hb dX12_becomes_97 rfl (lv_at hl 1 rfl) ?_
    refine sg_get (ci := 12) (v := .ref (h 2)) (C := RX12) (T := TX12) (N := 55) hx hb hts (fun w h => List.mem_cons_of_mem _ (gx_12 w h)) hown hK hP 0 (by decide) rfl rfl 1 (by decide) (hts _ (List.mem_cons_of_mem _ mw_254)) (fun _ h9 => h9) rfl dX12_becomes_98 ?_
    refine lv_aload_n hx hb dX12_becomes_101 rfl (lv_at hl 1 rfl) ?_
    refine sg_get (ci := 12) (v := .int 0) (C := RX12) (T := TX12) (N := 55) hx hb hts (fun w h => List.mem_cons_of_mem _ (gx_12 w h)) hown hK hP 0 (by decide) rfl rfl 5 (by decide) (hts _ (List.mem_cons_of_mem _ mw_253)) (fun _ h9 => h9) rfl dX12_becomes_102 ?_
    refine lv_iload_n hx hb dX12_becomes_105 rfl (lv_at hl 2 rfl) ?_
    refine sg_iast hx hb hh hA hK hP hS 2 (by decide) 0 (fun _ => rfl) rfl (i := 0) (x := 66) (vp_in_iff.mpr (by decide)) dX12_becomes_106 (fun f_3 H locs ef_3 hP hS => ?_)
    refine lv_aload_n hx hb dX12_becomes_107 rfl (lv_at hl 1 rfl) ?_
    refine sg_get (ci := 12) (v := .ref (h 3)) (C := RX12) (T := TX12) (N := 55) hx hb hts (fun w h => List.mem_cons_of_mem _ (gx_12 w h)) hown hK hP 0 (by decide) rfl rfl 2 (by decide) (hts _ (List.mem_cons_of_mem _ mw_255)) (fun _ h9 => h9) rfl dX12_becomes_108 ?_
    refine lv_aload_n hx hb dX12_becomes_111 rfl (lv_at hl 1 rfl) ?_
    refine sg_get (ci := 12) (v := .int 0) (C := RX12) (T := TX12) (N := 55) hx hb hts (fun w h => List.mem_cons_of_mem _ (gx_12 w h)) hown hK hP 0 (by decide) rfl rfl 5 (by decide) (hts _ (List.mem_cons_of_mem _ mw_253)) (fun _ h9 => h9) (congrArg (fun z => some (Value.int z)) (show f_3 0 5 = 0 from (by rw [ef_3]; exact rfl))) dX12_becomes_112 ?_
    refine lv_iload_n hx hb dX12_becomes_115 rfl (lv_at hl 0 rfl) ?_
    refine sg_iast hx hb hh hA hK hP hS 3 (by decide) 0 (fun _ => rfl) rfl (i := 0) (x := 0) (vp_in_iff.mpr (by decide)) dX12_becomes_116 (fun f_4 H locs ef_4 hP hS => ?_)
    refine lv_aload_n hx hb dX12_becomes_117 rfl (lv_at hl 1 rfl) ?_
    refine sg_get (ci := 12) (v := .ref (h 4)) (C := RX12) (T := TX12) (N := 55) hx hb hts (fun w h => List.mem_cons_of_mem _ (gx_12 w h)) hown hK hP 0 (by decide) rfl rfl 3 (by decide) (hts _ (List.mem_cons_of_mem _ mw_256)) (fun _ h9 => h9) rfl dX12_becomes_118 ?_
    refine lv_aload_n hx hb dX12_becomes_121 rfl (lv_at hl 1 rfl) ?_
    refine sg_get (ci := 12) (v := .int 0) (C := RX12) (T := TX12) (N := 55) hx hb hts (fun w h => List.mem_cons_of_mem _ (gx_12 w h)) hown hK hP 0 (by decide) rfl rfl 5 (by decide) (hts _ (List.mem_cons_of_mem _ mw_253)) (fun _ h9 => h9) (congrArg (fun z => some (Value.int z)) (show f_4 0 5 = 0 from (by rw [ef_4]; exact (show _ = _ from (by rw [ef_3]; exact rfl))))) dX12_becomes_122 ?_
    refine lv_iload_n hx hb dX12_becomes_125 rfl (lv_at hl 3 rfl) ?_
    refine sg_iast hx hb hh hA hK hP hS 4 (by decide) 0 (fun _ => rfl) rfl (i := 0) (x := x1) (vp_in_iff.mpr (by decide)) dX12_becomes_126 (fun f_5 H locs ef_5 hP hS => ?_)
    refine lv_aload_n hx hb dX12_becomes_127 rfl (lv_at hl 1 rfl) ?_
    refine lv_dup hx hb dX12_becomes_128 rfl ?_
    refine sg_get (ci := 12) (v := .int 0) (C := RX12) (T := TX12) (N := 55) hx hb hts (fun w h => List.mem_cons_of_mem _ (gx_12 w h)) hown hK hP 0 (by decide) rfl rfl 5 (by decide) (hts _ (List.mem_cons_of_mem _ mw_253)) (fun _ h9 => h9) (congrArg (fun z => some (Value.int z)) (show f_5 0 5 = 0 from (by rw [ef_5]; exact (show _ = _ from (by rw [ef_4]; exact (show _ = _ from (by rw [ef_3]; exact rfl))))))) dX12_becomes_129 ?_
    refine lv_iconst (v := 1) hx hb dX12_becomes_132 (by decide) ?_
    refine lv_iadd hx hb dX12_becomes_133 ?_
    refine W.eq (g2 := F0 m 134 ls [.int 1, .ref (h 0)]) (by rw [show (0 + 1 : Int32) = 1 from by decide]) ?_
    refine sg_put (ci := 12) (x := 1) (ty := .int) (C := RX12) (T := TX12) (N := 55) hx hb hts (fun w h => List.mem_cons_of_mem _ (gx_12 w h)) tyX12 tyX12_ok nmX12 hown hh hA hK hP hS 0 (by decide) rfl rfl 5 (by decide) (hts _ (List.mem_cons_of_mem _ mw_253)) (fun _ h9 => h9) rfl rfl (by decide +kernel) rfl rfl (Nat.le_of_ble_eq_true rfl) dX12_becomes_134 (fun f_6 H locs ef_6 hP hS => ?_)
    refine lv_aload_n hx hb dX12_becomes_137 rfl (lv_at hl 1 rfl) ?_
    refine lv_aload_n hx hb dX12_becomes_138 rfl (lv_at hl 1 rfl) ?_
    refine sg_get (ci := 12) (v := .int 1) (C := RX12) (T := TX12) (N := 55) hx hb hts (fun w h => List.mem_cons_of_mem _ (gx_12 w h)) hown hK hP 0 (by decide) rfl rfl 5 (by decide) (hts _ (List.mem_cons_of_mem _ mw_253)) (fun _ h9 => h9) (congrArg (fun z => some (Value.int z)) (show f_6 0 5 = 1 from (by rw [ef_6]; rfl))) dX12_becomes_139 ?_
    refine sg_put (ci := 12) (x := 1) (ty := .int) (C := RX12) (T := TX12) (N := 55) hx hb hts (fun w h => List.mem_cons_of_mem _ (gx_12 w h)) tyX12 tyX12_ok nmX12 hown hh hA hK hP hS 0 (by decide) rfl rfl 4 (by decide) (hts _ (List.mem_cons_of_mem _ mw_257)) (fun _ h9 => h9) rfl rfl (by decide +kernel) rfl rfl (Nat.le_of_ble_eq_true rfl) dX12_becomes_142 (fun f_7 H locs ef_7 hP hS => ?_)
    refine lv_aload_n hx hb dX12_becomes_145 rfl (lv_at hl 1 rfl) ?_
    refine sg_get (ci := 12) (v := .ref (h 1)) (C := RX12) (T := TX12) (N := 55) hx hb hts (fun w h => List.mem_cons_of_mem _ (gx_12 w h)) hown hK hP 0 (by decide) rfl rfl 0 (by decide) (hts _ (List.mem_cons_of_mem _ mw_244)) (fun _ h9 => h9) rfl dX12_becomes_146 ?_
    refine lv_iload_n hx hb dX12_becomes_149 rfl (lv_at hl 2 rfl) ?_
    refine lv_iload_n hx hb dX12_becomes_150 rfl (lv_at hl 3 rfl) ?_
    refine sg_iast hx hb hh hA hK hP hS 1 (by decide) 0 (fun _ => rfl) rfl (i := 66) (x := x1) (vp_in_iff.mpr (by decide)) dX12_becomes_151 (fun f_8 H locs ef_8 hP hS => ?_)
    refine lv_iload_n hx hb dX12_becomes_152 rfl (lv_at hl 0 rfl) ?_
    exact hret _ _ _ _ (0) f_8 L0 Q0 dX12_becomes_153 hP hS ⟨trivial, ⟨rfl, trivial⟩⟩
  · skip
    have c_2 : 0 = x1.toInt := (by have z := Int32.toInt_inj.mpr c; have k0 : (0 : Int32).toInt = 0 := (by decide); omega)
    refine lv_iload_n hx hb dX12_becomes_12 rfl (lv_at hl 0 rfl) ?_
    exact hret _ _ _ _ (0) f0M L0 Q0 dX12_becomes_13 hP hS ⟨trivial, ⟨rfl, trivial⟩⟩

set_option maxHeartbeats 4000000 in
set_option maxRecDepth 100000 in
theorem cf_X12_becomes_67 (l : Launch) (D : va_G) (ca : Nat → ClassId) (za h : Nat → Nat) (hh : sgH 26 h) (x1 : Int32) (sz : Nat) : Met l yX12_becomes gwX12_becomes { frames := 0, cells := 0, slots := 0, locals := 0 } (sgP D vwCl (tyX ca) 26 h (eM ca h) zcM za f0M L0 Q0 sz [.ref (h 0), .int 67, .int x1]) (sgQi D vwCl 26 h (eM ca h) sz (fun r f1 L1 Q1 => True ∧ ((r = 1 ∧ (True))))) 0 0 (sgA 26 h sz) := by
  refine sg_ofWi (cc := cX12_becomes) (maxL := 5) RX12 (by decide) rfl rfl (Nat.le_of_ble_eq_true rfl) ?_
  intro p e s m below meth cd Qz ls hx hb hml hown hts hK hZ hP hS hl hret
  have hA := sgY.self (n := 26) (h := h) (sz := s.heap.size)
  have hl : lv_has ls 5 [(0, .ref (h 0)), (1, .int 67), (2, .int x1)] := hl
  obtain ⟨H, hH⟩ : ∃ z : Heap, z = s.heap := ⟨_, rfl⟩
  obtain ⟨locs, hlo⟩ : ∃ z : List Loc, z = [] := ⟨_, rfl⟩
  have hP : va_P D vwCl (sgw 26 h (eM ca h) f0M L0 Q0) H := by rw [hH]; exact hP
  have hS : va_S (sgA 26 h s.heap.size) s.heap H locs := by rw [hH, hlo]; exact hS
  suffices hgo : W p l e ({ frames := 0, cells := 0, slots := 0, locals := 0 }) s m ([.ref (h 0), .int 67, .int x1] : List Value).toArray below meth cd H locs 0 0 Qz (F0 m 0 ls []) by rw [hH, hlo] at hgo; exact hgo
  refine lv_aload_n hx hb dX12_becomes_0 rfl (lv_at hl 0 rfl) ?_
  refine sg_get (ci := 12) (v := .ref (h 1)) (C := RX12) (T := TX12) (N := 55) hx hb hts (fun w h => List.mem_cons_of_mem _ (gx_12 w h)) hown hK hP 0 (by decide) rfl rfl 0 (by decide) (hts _ (List.mem_cons_of_mem _ mw_244)) (fun _ h9 => h9) rfl dX12_becomes_1 ?_
  refine lv_iload_n hx hb dX12_becomes_4 rfl (lv_at hl 1 rfl) ?_
  refine sg_iald hx hb hK hP 1 (by decide) 0 rfl rfl (i := 67) (vp_in_iff.mpr (by decide)) dX12_becomes_5 ?_
  refine W.eq (g2 := F0 m 6 ls [.int 1]) (by rw [show f0M 1 (Int32.toNatClampNeg 67) = 1 from rfl]) ?_
  refine lv_istore_n (lv' := [(3, .int 1), (0, .ref (h 0)), (1, .int 67), (2, .int x1)]) hx hb dX12_becomes_6 rfl hl (by decide) rfl (fun ls hl => ?_)
  refine lv_iload_n hx hb dX12_becomes_7 rfl (lv_at hl 0 rfl) ?_
  refine lv_iload_n hx hb dX12_becomes_8 rfl (lv_at hl 3 rfl) ?_
  refine lv_icmp_ne (tgt := 14) hx hb dX12_becomes_9 (by decide) (fun c => ?_) (fun c => ?_)
  · skip
    have c_1 : 1 ≠ x1.toInt := (by have z := bn_ne c; have k0 : (1 : Int32).toInt = 1 := (by decide); omega)
    refine lv_aload_n hx hb dX12_becomes_14 rfl (lv_at hl 1 rfl) ?_
    refine sg_get (ci := 12) (v := .int 0) (C := RX12) (T := TX12) (N := 55) hx hb hts (fun w h => List.mem_cons_of_mem _ (gx_12 w h)) hown hK hP 0 (by decide) rfl rfl 5 (by decide) (hts _ (List.mem_cons_of_mem _ mw_253)) (fun _ h9 => h9) rfl dX12_becomes_15 ?_
    refine lv_bipush (v := 40) hx hb dX12_becomes_18 (by decide) ?_
    refine lv_icmp_ne (tgt := 97) hx hb dX12_becomes_20 (by decide) (fun c => ?_) (fun c => absurd c (by decide))
    refine lv_aload_n hx hb dX12_becomes_97 rfl (lv_at hl 1 rfl) ?_
    refine sg_get (ci := 12) (v := .ref (h 2)) (C := RX12) (T := TX12) (N := 55) hx hb hts (fun w h => List.mem_cons_of_mem _ (gx_12 w h)) hown hK hP 0 (by decide) rfl rfl 1 (by decide) (hts _ (List.mem_cons_of_mem _ mw_254)) (fun _ h9 => h9) rfl dX12_becomes_98 ?_
    refine lv_aload_n hx hb dX12_becomes_101 rfl (lv_at hl 1 rfl) ?_
    refine sg_get (ci := 12) (v := .int 0) (C := RX12) (T := TX12) (N := 55) hx hb hts (fun w h => List.mem_cons_of_mem _ (gx_12 w h)) hown hK hP 0 (by decide) rfl rfl 5 (by decide) (hts _ (List.mem_cons_of_mem _ mw_253)) (fun _ h9 => h9) rfl dX12_becomes_102 ?_
    refine lv_iload_n hx hb dX12_becomes_105 rfl (lv_at hl 2 rfl) ?_
    refine sg_iast hx hb hh hA hK hP hS 2 (by decide) 0 (fun _ => rfl) rfl (i := 0) (x := 67) (vp_in_iff.mpr (by decide)) dX12_becomes_106 (fun f_3 H locs ef_3 hP hS => ?_)
    refine lv_aload_n hx hb dX12_becomes_107 rfl (lv_at hl 1 rfl) ?_
    refine sg_get (ci := 12) (v := .ref (h 3)) (C := RX12) (T := TX12) (N := 55) hx hb hts (fun w h => List.mem_cons_of_mem _ (gx_12 w h)) hown hK hP 0 (by decide) rfl rfl 2 (by decide) (hts _ (List.mem_cons_of_mem _ mw_255)) (fun _ h9 => h9) rfl dX12_becomes_108 ?_
    refine lv_aload_n hx hb dX12_becomes_111 rfl (lv_at hl 1 rfl) ?_
    refine sg_get (ci := 12) (v := .int 0) (C := RX12) (T := TX12) (N := 55) hx hb hts (fun w h => List.mem_cons_of_mem _ (gx_12 w h)) hown hK hP 0 (by decide) rfl rfl 5 (by decide) (hts _ (List.mem_cons_of_mem _ mw_253)) (fun _ h9 => h9) (congrArg (fun z => some (Value.int z)) (show f_3 0 5 = 0 from (by rw [ef_3]; exact rfl))) dX12_becomes_112 ?_
    refine lv_iload_n hx hb dX12_becomes_115 rfl (lv_at hl 0 rfl) ?_
    refine sg_iast hx hb hh hA hK hP hS 3 (by decide) 0 (fun _ => rfl) rfl (i := 0) (x := 1) (vp_in_iff.mpr (by decide)) dX12_becomes_116 (fun f_4 H locs ef_4 hP hS => ?_)
    refine lv_aload_n hx hb dX12_becomes_117 rfl (lv_at hl 1 rfl) ?_
    refine sg_get (ci := 12) (v := .ref (h 4)) (C := RX12) (T := TX12) (N := 55) hx hb hts (fun w h => List.mem_cons_of_mem _ (gx_12 w h)) hown hK hP 0 (by decide) rfl rfl 3 (by decide) (hts _ (List.mem_cons_of_mem _ mw_256)) (fun _ h9 => h9) rfl dX12_becomes_118 ?_
    refine lv_aload_n hx hb dX12_becomes_121 rfl (lv_at hl 1 rfl) ?_
    refine sg_get (ci := 12) (v := .int 0) (C := RX12) (T := TX12) (N := 55) hx hb hts (fun w h => List.mem_cons_of_mem _ (gx_12 w h)) hown hK hP 0 (by decide) rfl rfl 5 (by decide) (hts _ (List.mem_cons_of_mem _ mw_253)) (fun _ h9 => h9) (congrArg (fun z => some (Value.int z)) (show f_4 0 5 = 0 from (by rw [ef_4]; exact (show _ = _ from (by rw [ef_3]; exact rfl))))) dX12_becomes_122 ?_
    refine lv_iload_n hx hb dX12_becomes_125 rfl (lv_at hl 3 rfl) ?_
    refine sg_iast hx hb hh hA hK hP hS 4 (by decide) 0 (fun _ => rfl) rfl (i := 0) (x := x1) (vp_in_iff.mpr (by decide)) dX12_becomes_126 (fun f_5 H locs ef_5 hP hS => ?_)
    refine lv_aload_n hx hb dX12_becomes_127 rfl (lv_at hl 1 rfl) ?_
    refine lv_dup hx hb dX12_becomes_128 rfl ?_
    refine sg_get (ci := 12) (v := .int 0) (C := RX12) (T := TX12) (N := 55) hx hb hts (fun w h => List.mem_cons_of_mem _ (gx_12 w h)) hown hK hP 0 (by decide) rfl rfl 5 (by decide) (hts _ (List.mem_cons_of_mem _ mw_253)) (fun _ h9 => h9) (congrArg (fun z => some (Value.int z)) (show f_5 0 5 = 0 from (by rw [ef_5]; exact (show _ = _ from (by rw [ef_4]; exact (show _ = _ from (by rw [ef_3]; exact rfl))))))) dX12_becomes_129 ?_
    refine lv_iconst (v := 1) hx hb dX12_becomes_132 (by decide) ?_
    refine lv_iadd hx hb dX12_becomes_133 ?_
    refine W.eq (g2 := F0 m 134 ls [.int 1, .ref (h 0)]) (by rw [show (0 + 1 : Int32) = 1 from by decide]) ?_
    refine sg_put (ci := 12) (x := 1) (ty := .int) (C := RX12) (T := TX12) (N := 55) hx hb hts (fun w h => List.mem_cons_of_mem _ (gx_12 w h)) tyX12 tyX12_ok nmX12 hown hh hA hK hP hS 0 (by decide) rfl rfl 5 (by decide) (hts _ (List.mem_cons_of_mem _ mw_253)) (fun _ h9 => h9) rfl rfl (by decide +kernel) rfl rfl (Nat.le_of_ble_eq_true rfl) dX12_becomes_134 (fun f_6 H locs ef_6 hP hS => ?_)
    refine lv_aload_n hx hb dX12_becomes_137 rfl (lv_at hl 1 rfl) ?_
    refine lv_aload_n hx hb dX12_becomes_138 rfl (lv_at hl 1 rfl) ?_
    refine sg_get (ci := 12) (v := .int 1) (C := RX12) (T := TX12) (N := 55) hx hb hts (fun w h => List.mem_cons_of_mem _ (gx_12 w h)) hown hK hP 0 (by decide) rfl rfl 5 (by decide) (hts _ (List.mem_cons_of_mem _ mw_253)) (fun _ h9 => h9) (congrArg (fun z => some (Value.int z)) (show f_6 0 5 = 1 from (by rw [ef_6]; rfl))) dX12_becomes_139 ?_
    refine sg_put (ci := 12) (x := 1) (ty := .int) (C := RX12) (T := TX12) (N := 55) hx hb hts (fun w h => List.mem_cons_of_mem _ (gx_12 w h)) tyX12 tyX12_ok nmX12 hown hh hA hK hP hS 0 (by decide) rfl rfl 4 (by decide) (hts _ (List.mem_cons_of_mem _ mw_257)) (fun _ h9 => h9) rfl rfl (by decide +kernel) rfl rfl (Nat.le_of_ble_eq_true rfl) dX12_becomes_142 (fun f_7 H locs ef_7 hP hS => ?_)
    refine lv_aload_n hx hb dX12_becomes_145 rfl (lv_at hl 1 rfl) ?_
    refine sg_get (ci := 12) (v := .ref (h 1)) (C := RX12) (T := TX12) (N := 55) hx hb hts (fun w h => List.mem_cons_of_mem _ (gx_12 w h)) hown hK hP 0 (by decide) rfl rfl 0 (by decide) (hts _ (List.mem_cons_of_mem _ mw_244)) (fun _ h9 => h9) rfl dX12_becomes_146 ?_
    refine lv_iload_n hx hb dX12_becomes_149 rfl (lv_at hl 2 rfl) ?_
    refine lv_iload_n hx hb dX12_becomes_150 rfl (lv_at hl 3 rfl) ?_
    refine sg_iast hx hb hh hA hK hP hS 1 (by decide) 0 (fun _ => rfl) rfl (i := 67) (x := x1) (vp_in_iff.mpr (by decide)) dX12_becomes_151 (fun f_8 H locs ef_8 hP hS => ?_)
    refine lv_iload_n hx hb dX12_becomes_152 rfl (lv_at hl 0 rfl) ?_
    exact hret _ _ _ _ (1) f_8 L0 Q0 dX12_becomes_153 hP hS ⟨trivial, ⟨rfl, trivial⟩⟩
  · skip
    have c_2 : 1 = x1.toInt := (by have z := Int32.toInt_inj.mpr c; have k0 : (1 : Int32).toInt = 1 := (by decide); omega)
    refine lv_iload_n hx hb dX12_becomes_12 rfl (lv_at hl 0 rfl) ?_
    exact hret _ _ _ _ (1) f0M L0 Q0 dX12_becomes_13 hP hS ⟨trivial, ⟨rfl, trivial⟩⟩

set_option maxHeartbeats 4000000 in
set_option maxRecDepth 100000 in
theorem cf_X12_becomes_68 (l : Launch) (D : va_G) (ca : Nat → ClassId) (za h : Nat → Nat) (hh : sgH 26 h) (x1 : Int32) (sz : Nat) : Met l yX12_becomes gwX12_becomes { frames := 0, cells := 0, slots := 0, locals := 0 } (sgP D vwCl (tyX ca) 26 h (eM ca h) zcM za f0M L0 Q0 sz [.ref (h 0), .int 68, .int x1]) (sgQi D vwCl 26 h (eM ca h) sz (fun r f1 L1 Q1 => True ∧ ((r = 1 ∧ (True))))) 0 0 (sgA 26 h sz) := by
  refine sg_ofWi (cc := cX12_becomes) (maxL := 5) RX12 (by decide) rfl rfl (Nat.le_of_ble_eq_true rfl) ?_
  intro p e s m below meth cd Qz ls hx hb hml hown hts hK hZ hP hS hl hret
  have hA := sgY.self (n := 26) (h := h) (sz := s.heap.size)
  have hl : lv_has ls 5 [(0, .ref (h 0)), (1, .int 68), (2, .int x1)] := hl
  obtain ⟨H, hH⟩ : ∃ z : Heap, z = s.heap := ⟨_, rfl⟩
  obtain ⟨locs, hlo⟩ : ∃ z : List Loc, z = [] := ⟨_, rfl⟩
  have hP : va_P D vwCl (sgw 26 h (eM ca h) f0M L0 Q0) H := by rw [hH]; exact hP
  have hS : va_S (sgA 26 h s.heap.size) s.heap H locs := by rw [hH, hlo]; exact hS
  suffices hgo : W p l e ({ frames := 0, cells := 0, slots := 0, locals := 0 }) s m ([.ref (h 0), .int 68, .int x1] : List Value).toArray below meth cd H locs 0 0 Qz (F0 m 0 ls []) by rw [hH, hlo] at hgo; exact hgo
  refine lv_aload_n hx hb dX12_becomes_0 rfl (lv_at hl 0 rfl) ?_
  refine sg_get (ci := 12) (v := .ref (h 1)) (C := RX12) (T := TX12) (N := 55) hx hb hts (fun w h => List.mem_cons_of_mem _ (gx_12 w h)) hown hK hP 0 (by decide) rfl rfl 0 (by decide) (hts _ (List.mem_cons_of_mem _ mw_244)) (fun _ h9 => h9) rfl dX12_becomes_1 ?_
  refine lv_iload_n hx hb dX12_becomes_4 rfl (lv_at hl 1 rfl) ?_
  refine sg_iald hx hb hK hP 1 (by decide) 0 rfl rfl (i := 68) (vp_in_iff.mpr (by decide)) dX12_becomes_5 ?_
  refine W.eq (g2 := F0 m 6 ls [.int 1]) (by rw [show f0M 1 (Int32.toNatClampNeg 68) = 1 from rfl]) ?_
  refine lv_istore_n (lv' := [(3, .int 1), (0, .ref (h 0)), (1, .int 68), (2, .int x1)]) hx hb dX12_becomes_6 rfl hl (by decide) rfl (fun ls hl => ?_)
  refine lv_iload_n hx hb dX12_becomes_7 rfl (lv_at hl 0 rfl) ?_
  refine lv_iload_n hx hb dX12_becomes_8 rfl (lv_at hl 3 rfl) ?_
  refine lv_icmp_ne (tgt := 14) hx hb dX12_becomes_9 (by decide) (fun c => ?_) (fun c => ?_)
  · skip
    have c_1 : 1 ≠ x1.toInt := (by have z := bn_ne c; have k0 : (1 : Int32).toInt = 1 := (by decide); omega)
    refine lv_aload_n hx hb dX12_becomes_14 rfl (lv_at hl 1 rfl) ?_
    refine sg_get (ci := 12) (v := .int 0) (C := RX12) (T := TX12) (N := 55) hx hb hts (fun w h => List.mem_cons_of_mem _ (gx_12 w h)) hown hK hP 0 (by decide) rfl rfl 5 (by decide) (hts _ (List.mem_cons_of_mem _ mw_253)) (fun _ h9 => h9) rfl dX12_becomes_15 ?_
    refine lv_bipush (v := 40) hx hb dX12_becomes_18 (by decide) ?_
    refine lv_icmp_ne (tgt := 97) hx hb dX12_becomes_20 (by decide) (fun c => ?_) (fun c => absurd c (by decide))
    refine lv_aload_n hx hb dX12_becomes_97 rfl (lv_at hl 1 rfl) ?_
    refine sg_get (ci := 12) (v := .ref (h 2)) (C := RX12) (T := TX12) (N := 55) hx hb hts (fun w h => List.mem_cons_of_mem _ (gx_12 w h)) hown hK hP 0 (by decide) rfl rfl 1 (by decide) (hts _ (List.mem_cons_of_mem _ mw_254)) (fun _ h9 => h9) rfl dX12_becomes_98 ?_
    refine lv_aload_n hx hb dX12_becomes_101 rfl (lv_at hl 1 rfl) ?_
    refine sg_get (ci := 12) (v := .int 0) (C := RX12) (T := TX12) (N := 55) hx hb hts (fun w h => List.mem_cons_of_mem _ (gx_12 w h)) hown hK hP 0 (by decide) rfl rfl 5 (by decide) (hts _ (List.mem_cons_of_mem _ mw_253)) (fun _ h9 => h9) rfl dX12_becomes_102 ?_
    refine lv_iload_n hx hb dX12_becomes_105 rfl (lv_at hl 2 rfl) ?_
    refine sg_iast hx hb hh hA hK hP hS 2 (by decide) 0 (fun _ => rfl) rfl (i := 0) (x := 68) (vp_in_iff.mpr (by decide)) dX12_becomes_106 (fun f_3 H locs ef_3 hP hS => ?_)
    refine lv_aload_n hx hb dX12_becomes_107 rfl (lv_at hl 1 rfl) ?_
    refine sg_get (ci := 12) (v := .ref (h 3)) (C := RX12) (T := TX12) (N := 55) hx hb hts (fun w h => List.mem_cons_of_mem _ (gx_12 w h)) hown hK hP 0 (by decide) rfl rfl 2 (by decide) (hts _ (List.mem_cons_of_mem _ mw_255)) (fun _ h9 => h9) rfl dX12_becomes_108 ?_
    refine lv_aload_n hx hb dX12_becomes_111 rfl (lv_at hl 1 rfl) ?_
    refine sg_get (ci := 12) (v := .int 0) (C := RX12) (T := TX12) (N := 55) hx hb hts (fun w h => List.mem_cons_of_mem _ (gx_12 w h)) hown hK hP 0 (by decide) rfl rfl 5 (by decide) (hts _ (List.mem_cons_of_mem _ mw_253)) (fun _ h9 => h9) (congrArg (fun z => some (Value.int z)) (show f_3 0 5 = 0 from (by rw [ef_3]; exact rfl))) dX12_becomes_112 ?_
    refine lv_iload_n hx hb dX12_becomes_115 rfl (lv_at hl 0 rfl) ?_
    refine sg_iast hx hb hh hA hK hP hS 3 (by decide) 0 (fun _ => rfl) rfl (i := 0) (x := 1) (vp_in_iff.mpr (by decide)) dX12_becomes_116 (fun f_4 H locs ef_4 hP hS => ?_)
    refine lv_aload_n hx hb dX12_becomes_117 rfl (lv_at hl 1 rfl) ?_
    refine sg_get (ci := 12) (v := .ref (h 4)) (C := RX12) (T := TX12) (N := 55) hx hb hts (fun w h => List.mem_cons_of_mem _ (gx_12 w h)) hown hK hP 0 (by decide) rfl rfl 3 (by decide) (hts _ (List.mem_cons_of_mem _ mw_256)) (fun _ h9 => h9) rfl dX12_becomes_118 ?_
    refine lv_aload_n hx hb dX12_becomes_121 rfl (lv_at hl 1 rfl) ?_
    refine sg_get (ci := 12) (v := .int 0) (C := RX12) (T := TX12) (N := 55) hx hb hts (fun w h => List.mem_cons_of_mem _ (gx_12 w h)) hown hK hP 0 (by decide) rfl rfl 5 (by decide) (hts _ (List.mem_cons_of_mem _ mw_253)) (fun _ h9 => h9) (congrArg (fun z => some (Value.int z)) (show f_4 0 5 = 0 from (by rw [ef_4]; exact (show _ = _ from (by rw [ef_3]; exact rfl))))) dX12_becomes_122 ?_
    refine lv_iload_n hx hb dX12_becomes_125 rfl (lv_at hl 3 rfl) ?_
    refine sg_iast hx hb hh hA hK hP hS 4 (by decide) 0 (fun _ => rfl) rfl (i := 0) (x := x1) (vp_in_iff.mpr (by decide)) dX12_becomes_126 (fun f_5 H locs ef_5 hP hS => ?_)
    refine lv_aload_n hx hb dX12_becomes_127 rfl (lv_at hl 1 rfl) ?_
    refine lv_dup hx hb dX12_becomes_128 rfl ?_
    refine sg_get (ci := 12) (v := .int 0) (C := RX12) (T := TX12) (N := 55) hx hb hts (fun w h => List.mem_cons_of_mem _ (gx_12 w h)) hown hK hP 0 (by decide) rfl rfl 5 (by decide) (hts _ (List.mem_cons_of_mem _ mw_253)) (fun _ h9 => h9) (congrArg (fun z => some (Value.int z)) (show f_5 0 5 = 0 from (by rw [ef_5]; exact (show _ = _ from (by rw [ef_4]; exact (show _ = _ from (by rw [ef_3]; exact rfl))))))) dX12_becomes_129 ?_
    refine lv_iconst (v := 1) hx hb dX12_becomes_132 (by decide) ?_
    refine lv_iadd hx hb dX12_becomes_133 ?_
    refine W.eq (g2 := F0 m 134 ls [.int 1, .ref (h 0)]) (by rw [show (0 + 1 : Int32) = 1 from by decide]) ?_
    refine sg_put (ci := 12) (x := 1) (ty := .int) (C := RX12) (T := TX12) (N := 55) hx hb hts (fun w h => List.mem_cons_of_mem _ (gx_12 w h)) tyX12 tyX12_ok nmX12 hown hh hA hK hP hS 0 (by decide) rfl rfl 5 (by decide) (hts _ (List.mem_cons_of_mem _ mw_253)) (fun _ h9 => h9) rfl rfl (by decide +kernel) rfl rfl (Nat.le_of_ble_eq_true rfl) dX12_becomes_134 (fun f_6 H locs ef_6 hP hS => ?_)
    refine lv_aload_n hx hb dX12_becomes_137 rfl (lv_at hl 1 rfl) ?_
    refine lv_aload_n hx hb dX12_becomes_138 rfl (lv_at hl 1 rfl) ?_
    refine sg_get (ci := 12) (v := .int 1) (C := RX12) (T := TX12) (N := 55) hx hb hts (fun w h => List.mem_cons_of_mem _ (gx_12 w h)) hown hK hP 0 (by decide) rfl rfl 5 (by decide) (hts _ (List.mem_cons_of_mem _ mw_253)) (fun _ h9 => h9) (congrArg (fun z => some (Value.int z)) (show f_6 0 5 = 1 from (by rw [ef_6]; rfl))) dX12_becomes_139 ?_
    refine sg_put (ci := 12) (x := 1) (ty := .int) (C := RX12) (T := TX12) (N := 55) hx hb hts (fun w h => List.mem_cons_of_mem _ (gx_12 w h)) tyX12 tyX12_ok nmX12 hown hh hA hK hP hS 0 (by decide) rfl rfl 4 (by decide) (hts _ (List.mem_cons_of_mem _ mw_257)) (fun _ h9 => h9) rfl rfl (by decide +kernel) rfl rfl (Nat.le_of_ble_eq_true rfl) dX12_becomes_142 (fun f_7 H locs ef_7 hP hS => ?_)
    refine lv_aload_n hx hb dX12_becomes_145 rfl (lv_at hl 1 rfl) ?_
    refine sg_get (ci := 12) (v := .ref (h 1)) (C := RX12) (T := TX12) (N := 55) hx hb hts (fun w h => List.mem_cons_of_mem _ (gx_12 w h)) hown hK hP 0 (by decide) rfl rfl 0 (by decide) (hts _ (List.mem_cons_of_mem _ mw_244)) (fun _ h9 => h9) rfl dX12_becomes_146 ?_
    refine lv_iload_n hx hb dX12_becomes_149 rfl (lv_at hl 2 rfl) ?_
    refine lv_iload_n hx hb dX12_becomes_150 rfl (lv_at hl 3 rfl) ?_
    refine sg_iast hx hb hh hA hK hP hS 1 (by decide) 0 (fun _ => rfl) rfl (i := 68) (x := x1) (vp_in_iff.mpr (by decide)) dX12_becomes_151 (fun f_8 H locs ef_8 hP hS => ?_)
    refine lv_iload_n hx hb dX12_becomes_152 rfl (lv_at hl 0 rfl) ?_
    exact hret _ _ _ _ (1) f_8 L0 Q0 dX12_becomes_153 hP hS ⟨trivial, ⟨rfl, trivial⟩⟩
  · skip
    have c_2 : 1 = x1.toInt := (by have z := Int32.toInt_inj.mpr c; have k0 : (1 : Int32).toInt = 1 := (by decide); omega)
    refine lv_iload_n hx hb dX12_becomes_12 rfl (lv_at hl 0 rfl) ?_
    exact hret _ _ _ _ (1) f0M L0 Q0 dX12_becomes_13 hP hS ⟨trivial, ⟨rfl, trivial⟩⟩

set_option maxHeartbeats 4000000 in
set_option maxRecDepth 100000 in
theorem cf_X12_becomes_69 (l : Launch) (D : va_G) (ca : Nat → ClassId) (za h : Nat → Nat) (hh : sgH 26 h) (x1 : Int32) (sz : Nat) : Met l yX12_becomes gwX12_becomes { frames := 0, cells := 0, slots := 0, locals := 0 } (sgP D vwCl (tyX ca) 26 h (eM ca h) zcM za f0M L0 Q0 sz [.ref (h 0), .int 69, .int x1]) (sgQi D vwCl 26 h (eM ca h) sz (fun r f1 L1 Q1 => True ∧ ((r = 1 ∧ (True))))) 0 0 (sgA 26 h sz) := by
  refine sg_ofWi (cc := cX12_becomes) (maxL := 5) RX12 (by decide) rfl rfl (Nat.le_of_ble_eq_true rfl) ?_
  intro p e s m below meth cd Qz ls hx hb hml hown hts hK hZ hP hS hl hret
  have hA := sgY.self (n := 26) (h := h) (sz := s.heap.size)
  have hl : lv_has ls 5 [(0, .ref (h 0)), (1, .int 69), (2, .int x1)] := hl
  obtain ⟨H, hH⟩ : ∃ z : Heap, z = s.heap := ⟨_, rfl⟩
  obtain ⟨locs, hlo⟩ : ∃ z : List Loc, z = [] := ⟨_, rfl⟩
  have hP : va_P D vwCl (sgw 26 h (eM ca h) f0M L0 Q0) H := by rw [hH]; exact hP
  have hS : va_S (sgA 26 h s.heap.size) s.heap H locs := by rw [hH, hlo]; exact hS
  suffices hgo : W p l e ({ frames := 0, cells := 0, slots := 0, locals := 0 }) s m ([.ref (h 0), .int 69, .int x1] : List Value).toArray below meth cd H locs 0 0 Qz (F0 m 0 ls []) by rw [hH, hlo] at hgo; exact hgo
  refine lv_aload_n hx hb dX12_becomes_0 rfl (lv_at hl 0 rfl) ?_
  refine sg_get (ci := 12) (v := .ref (h 1)) (C := RX12) (T := TX12) (N := 55) hx hb hts (fun w h => List.mem_cons_of_mem _ (gx_12 w h)) hown hK hP 0 (by decide) rfl rfl 0 (by decide) (hts _ (List.mem_cons_of_mem _ mw_244)) (fun _ h9 => h9) rfl dX12_becomes_1 ?_
  refine lv_iload_n hx hb dX12_becomes_4 rfl (lv_at hl 1 rfl) ?_
  refine sg_iald hx hb hK hP 1 (by decide) 0 rfl rfl (i := 69) (vp_in_iff.mpr (by decide)) dX12_becomes_5 ?_
  refine W.eq (g2 := F0 m 6 ls [.int 1]) (by rw [show f0M 1 (Int32.toNatClampNeg 69) = 1 from rfl]) ?_
  refine lv_istore_n (lv' := [(3, .int 1), (0, .ref (h 0)), (1, .int 69), (2, .int x1)]) hx hb dX12_becomes_6 rfl hl (by decide) rfl (fun ls hl => ?_)
  refine lv_iload_n hx hb dX12_becomes_7 rfl (lv_at hl 0 rfl) ?_
  refine lv_iload_n hx hb dX12_becomes_8 rfl (lv_at hl 3 rfl) ?_
  refine lv_icmp_ne (tgt := 14) hx hb dX12_becomes_9 (by decide) (fun c => ?_) (fun c => ?_)
  · skip
    have c_1 : 1 ≠ x1.toInt := (by have z := bn_ne c; have k0 : (1 : Int32).toInt = 1 := (by decide); omega)
    refine lv_aload_n hx hb dX12_becomes_14 rfl (lv_at hl 1 rfl) ?_
    refine sg_get (ci := 12) (v := .int 0) (C := RX12) (T := TX12) (N := 55) hx hb hts (fun w h => List.mem_cons_of_mem _ (gx_12 w h)) hown hK hP 0 (by decide) rfl rfl 5 (by decide) (hts _ (List.mem_cons_of_mem _ mw_253)) (fun _ h9 => h9) rfl dX12_becomes_15 ?_
    refine lv_bipush (v := 40) hx hb dX12_becomes_18 (by decide) ?_
    refine lv_icmp_ne (tgt := 97) hx hb dX12_becomes_20 (by decide) (fun c => ?_) (fun c => absurd c (by decide))
    refine lv_aload_n hx hb dX12_becomes_97 rfl (lv_at hl 1 rfl) ?_
    refine sg_get (ci := 12) (v := .ref (h 2)) (C := RX12) (T := TX12) (N := 55) hx hb hts (fun w h => List.mem_cons_of_mem _ (gx_12 w h)) hown hK hP 0 (by decide) rfl rfl 1 (by decide) (hts _ (List.mem_cons_of_mem _ mw_254)) (fun _ h9 => h9) rfl dX12_becomes_98 ?_
    refine lv_aload_n hx hb dX12_becomes_101 rfl (lv_at hl 1 rfl) ?_
    refine sg_get (ci := 12) (v := .int 0) (C := RX12) (T := TX12) (N := 55) hx hb hts (fun w h => List.mem_cons_of_mem _ (gx_12 w h)) hown hK hP 0 (by decide) rfl rfl 5 (by decide) (hts _ (List.mem_cons_of_mem _ mw_253)) (fun _ h9 => h9) rfl dX12_becomes_102 ?_
    refine lv_iload_n hx hb dX12_becomes_105 rfl (lv_at hl 2 rfl) ?_
    refine sg_iast hx hb hh hA hK hP hS 2 (by decide) 0 (fun _ => rfl) rfl (i := 0) (x := 69) (vp_in_iff.mpr (by decide)) dX12_becomes_106 (fun f_3 H locs ef_3 hP hS => ?_)
    refine lv_aload_n hx hb dX12_becomes_107 rfl (lv_at hl 1 rfl) ?_
    refine sg_get (ci := 12) (v := .ref (h 3)) (C := RX12) (T := TX12) (N := 55) hx hb hts (fun w h => List.mem_cons_of_mem _ (gx_12 w h)) hown hK hP 0 (by decide) rfl rfl 2 (by decide) (hts _ (List.mem_cons_of_mem _ mw_255)) (fun _ h9 => h9) rfl dX12_becomes_108 ?_
    refine lv_aload_n hx hb dX12_becomes_111 rfl (lv_at hl 1 rfl) ?_
    refine sg_get (ci := 12) (v := .int 0) (C := RX12) (T := TX12) (N := 55) hx hb hts (fun w h => List.mem_cons_of_mem _ (gx_12 w h)) hown hK hP 0 (by decide) rfl rfl 5 (by decide) (hts _ (List.mem_cons_of_mem _ mw_253)) (fun _ h9 => h9) (congrArg (fun z => some (Value.int z)) (show f_3 0 5 = 0 from (by rw [ef_3]; exact rfl))) dX12_becomes_112 ?_
    refine lv_iload_n hx hb dX12_becomes_115 rfl (lv_at hl 0 rfl) ?_
    refine sg_iast hx hb hh hA hK hP hS 3 (by decide) 0 (fun _ => rfl) rfl (i := 0) (x := 1) (vp_in_iff.mpr (by decide)) dX12_becomes_116 (fun f_4 H locs ef_4 hP hS => ?_)
    refine lv_aload_n hx hb dX12_becomes_117 rfl (lv_at hl 1 rfl) ?_
    refine sg_get (ci := 12) (v := .ref (h 4)) (C := RX12) (T := TX12) (N := 55) hx hb hts (fun w h => List.mem_cons_of_mem _ (gx_12 w h)) hown hK hP 0 (by decide) rfl rfl 3 (by decide) (hts _ (List.mem_cons_of_mem _ mw_256)) (fun _ h9 => h9) rfl dX12_becomes_118 ?_
    refine lv_aload_n hx hb dX12_becomes_121 rfl (lv_at hl 1 rfl) ?_
    refine sg_get (ci := 12) (v := .int 0) (C := RX12) (T := TX12) (N := 55) hx hb hts (fun w h => List.mem_cons_of_mem _ (gx_12 w h)) hown hK hP 0 (by decide) rfl rfl 5 (by decide) (hts _ (List.mem_cons_of_mem _ mw_253)) (fun _ h9 => h9) (congrArg (fun z => some (Value.int z)) (show f_4 0 5 = 0 from (by rw [ef_4]; exact (show _ = _ from (by rw [ef_3]; exact rfl))))) dX12_becomes_122 ?_
    refine lv_iload_n hx hb dX12_becomes_125 rfl (lv_at hl 3 rfl) ?_
    refine sg_iast hx hb hh hA hK hP hS 4 (by decide) 0 (fun _ => rfl) rfl (i := 0) (x := x1) (vp_in_iff.mpr (by decide)) dX12_becomes_126 (fun f_5 H locs ef_5 hP hS => ?_)
    refine lv_aload_n hx hb dX12_becomes_127 rfl (lv_at hl 1 rfl) ?_
    refine lv_dup hx hb dX12_becomes_128 rfl ?_
    refine sg_get (ci := 12) (v := .int 0) (C := RX12) (T := TX12) (N := 55) hx hb hts (fun w h => List.mem_cons_of_mem _ (gx_12 w h)) hown hK hP 0 (by decide) rfl rfl 5 (by decide) (hts _ (List.mem_cons_of_mem _ mw_253)) (fun _ h9 => h9) (congrArg (fun z => some (Value.int z)) (show f_5 0 5 = 0 from (by rw [ef_5]; exact (show _ = _ from (by rw [ef_4]; exact (show _ = _ from (by rw [ef_3]; exact rfl))))))) dX12_becomes_129 ?_
    refine lv_iconst (v := 1) hx hb dX12_becomes_132 (by decide) ?_
    refine lv_iadd hx hb dX12_becomes_133 ?_
    refine W.eq (g2 := F0 m 134 ls [.int 1, .ref (h 0)]) (by rw [show (0 + 1 : Int32) = 1 from by decide]) ?_
    refine sg_put (ci := 12) (x := 1) (ty := .int) (C := RX12) (T := TX12) (N := 55) hx hb hts (fun w h => List.mem_cons_of_mem _ (gx_12 w h)) tyX12 tyX12_ok nmX12 hown hh hA hK hP hS 0 (by decide) rfl rfl 5 (by decide) (hts _ (List.mem_cons_of_mem _ mw_253)) (fun _ h9 => h9) rfl rfl (by decide +kernel) rfl rfl (Nat.le_of_ble_eq_true rfl) dX12_becomes_134 (fun f_6 H locs ef_6 hP hS => ?_)
    refine lv_aload_n hx hb dX12_becomes_137 rfl (lv_at hl 1 rfl) ?_
    refine lv_aload_n hx hb dX12_becomes_138 rfl (lv_at hl 1 rfl) ?_
    refine sg_get (ci := 12) (v := .int 1) (C := RX12) (T := TX12) (N := 55) hx hb hts (fun w h => List.mem_cons_of_mem _ (gx_12 w h)) hown hK hP 0 (by decide) rfl rfl 5 (by decide) (hts _ (List.mem_cons_of_mem _ mw_253)) (fun _ h9 => h9) (congrArg (fun z => some (Value.int z)) (show f_6 0 5 = 1 from (by rw [ef_6]; rfl))) dX12_becomes_139 ?_
    refine sg_put (ci := 12) (x := 1) (ty := .int) (C := RX12) (T := TX12) (N := 55) hx hb hts (fun w h => List.mem_cons_of_mem _ (gx_12 w h)) tyX12 tyX12_ok nmX12 hown hh hA hK hP hS 0 (by decide) rfl rfl 4 (by decide) (hts _ (List.mem_cons_of_mem _ mw_257)) (fun _ h9 => h9) rfl rfl (by decide +kernel) rfl rfl (Nat.le_of_ble_eq_true rfl) dX12_becomes_142 (fun f_7 H locs ef_7 hP hS => ?_)
    refine lv_aload_n hx hb dX12_becomes_145 rfl (lv_at hl 1 rfl) ?_
    refine sg_get (ci := 12) (v := .ref (h 1)) (C := RX12) (T := TX12) (N := 55) hx hb hts (fun w h => List.mem_cons_of_mem _ (gx_12 w h)) hown hK hP 0 (by decide) rfl rfl 0 (by decide) (hts _ (List.mem_cons_of_mem _ mw_244)) (fun _ h9 => h9) rfl dX12_becomes_146 ?_
    refine lv_iload_n hx hb dX12_becomes_149 rfl (lv_at hl 2 rfl) ?_
    refine lv_iload_n hx hb dX12_becomes_150 rfl (lv_at hl 3 rfl) ?_
    refine sg_iast hx hb hh hA hK hP hS 1 (by decide) 0 (fun _ => rfl) rfl (i := 69) (x := x1) (vp_in_iff.mpr (by decide)) dX12_becomes_151 (fun f_8 H locs ef_8 hP hS => ?_)
    refine lv_iload_n hx hb dX12_becomes_152 rfl (lv_at hl 0 rfl) ?_
    exact hret _ _ _ _ (1) f_8 L0 Q0 dX12_becomes_153 hP hS ⟨trivial, ⟨rfl, trivial⟩⟩
  · skip
    have c_2 : 1 = x1.toInt := (by have z := Int32.toInt_inj.mpr c; have k0 : (1 : Int32).toInt = 1 := (by decide); omega)
    refine lv_iload_n hx hb dX12_becomes_12 rfl (lv_at hl 0 rfl) ?_
    exact hret _ _ _ _ (1) f0M L0 Q0 dX12_becomes_13 hP hS ⟨trivial, ⟨rfl, trivial⟩⟩

set_option maxHeartbeats 4000000 in
set_option maxRecDepth 100000 in
theorem cf_X12_becomes_70 (l : Launch) (D : va_G) (ca : Nat → ClassId) (za h : Nat → Nat) (hh : sgH 26 h) (x1 : Int32) (sz : Nat) : Met l yX12_becomes gwX12_becomes { frames := 0, cells := 0, slots := 0, locals := 0 } (sgP D vwCl (tyX ca) 26 h (eM ca h) zcM za f0M L0 Q0 sz [.ref (h 0), .int 70, .int x1]) (sgQi D vwCl 26 h (eM ca h) sz (fun r f1 L1 Q1 => True ∧ ((r = 3 ∧ (True))))) 0 0 (sgA 26 h sz) := by
  refine sg_ofWi (cc := cX12_becomes) (maxL := 5) RX12 (by decide) rfl rfl (Nat.le_of_ble_eq_true rfl) ?_
  intro p e s m below meth cd Qz ls hx hb hml hown hts hK hZ hP hS hl hret
  have hA := sgY.self (n := 26) (h := h) (sz := s.heap.size)
  have hl : lv_has ls 5 [(0, .ref (h 0)), (1, .int 70), (2, .int x1)] := hl
  obtain ⟨H, hH⟩ : ∃ z : Heap, z = s.heap := ⟨_, rfl⟩
  obtain ⟨locs, hlo⟩ : ∃ z : List Loc, z = [] := ⟨_, rfl⟩
  have hP : va_P D vwCl (sgw 26 h (eM ca h) f0M L0 Q0) H := by rw [hH]; exact hP
  have hS : va_S (sgA 26 h s.heap.size) s.heap H locs := by rw [hH, hlo]; exact hS
  suffices hgo : W p l e ({ frames := 0, cells := 0, slots := 0, locals := 0 }) s m ([.ref (h 0), .int 70, .int x1] : List Value).toArray below meth cd H locs 0 0 Qz (F0 m 0 ls []) by rw [hH, hlo] at hgo; exact hgo
  refine lv_aload_n hx hb dX12_becomes_0 rfl (lv_at hl 0 rfl) ?_
  refine sg_get (ci := 12) (v := .ref (h 1)) (C := RX12) (T := TX12) (N := 55) hx hb hts (fun w h => List.mem_cons_of_mem _ (gx_12 w h)) hown hK hP 0 (by decide) rfl rfl 0 (by decide) (hts _ (List.mem_cons_of_mem _ mw_244)) (fun _ h9 => h9) rfl dX12_becomes_1 ?_
  refine lv_iload_n hx hb dX12_becomes_4 rfl (lv_at hl 1 rfl) ?_
  refine sg_iald hx hb hK hP 1 (by decide) 0 rfl rfl (i := 70) (vp_in_iff.mpr (by decide)) dX12_becomes_5 ?_
  refine W.eq (g2 := F0 m 6 ls [.int 3]) (by rw [show f0M 1 (Int32.toNatClampNeg 70) = 3 from rfl]) ?_
  refine lv_istore_n (lv' := [(3, .int 3), (0, .ref (h 0)), (1, .int 70), (2, .int x1)]) hx hb dX12_becomes_6 rfl hl (by decide) rfl (fun ls hl => ?_)
  refine lv_iload_n hx hb dX12_becomes_7 rfl (lv_at hl 0 rfl) ?_
  refine lv_iload_n hx hb dX12_becomes_8 rfl (lv_at hl 3 rfl) ?_
  refine lv_icmp_ne (tgt := 14) hx hb dX12_becomes_9 (by decide) (fun c => ?_) (fun c => ?_)
  · skip
    have c_1 : 3 ≠ x1.toInt := (by have z := bn_ne c; have k0 : (3 : Int32).toInt = 3 := (by decide); omega)
    refine lv_aload_n hx hb dX12_becomes_14 rfl (lv_at hl 1 rfl) ?_
    refine sg_get (ci := 12) (v := .int 0) (C := RX12) (T := TX12) (N := 55) hx hb hts (fun w h => List.mem_cons_of_mem _ (gx_12 w h)) hown hK hP 0 (by decide) rfl rfl 5 (by decide) (hts _ (List.mem_cons_of_mem _ mw_253)) (fun _ h9 => h9) rfl dX12_becomes_15 ?_
    refine lv_bipush (v := 40) hx hb dX12_becomes_18 (by decide) ?_
    refine lv_icmp_ne (tgt := 97) hx hb dX12_becomes_20 (by decide) (fun c => ?_) (fun c => absurd c (by decide))
    refine lv_aload_n hx hb dX12_becomes_97 rfl (lv_at hl 1 rfl) ?_
    refine sg_get (ci := 12) (v := .ref (h 2)) (C := RX12) (T := TX12) (N := 55) hx hb hts (fun w h => List.mem_cons_of_mem _ (gx_12 w h)) hown hK hP 0 (by decide) rfl rfl 1 (by decide) (hts _ (List.mem_cons_of_mem _ mw_254)) (fun _ h9 => h9) rfl dX12_becomes_98 ?_
    refine lv_aload_n hx hb dX12_becomes_101 rfl (lv_at hl 1 rfl) ?_
    refine sg_get (ci := 12) (v := .int 0) (C := RX12) (T := TX12) (N := 55) hx hb hts (fun w h => List.mem_cons_of_mem _ (gx_12 w h)) hown hK hP 0 (by decide) rfl rfl 5 (by decide) (hts _ (List.mem_cons_of_mem _ mw_253)) (fun _ h9 => h9) rfl dX12_becomes_102 ?_
    refine lv_iload_n hx hb dX12_becomes_105 rfl (lv_at hl 2 rfl) ?_
    refine sg_iast hx hb hh hA hK hP hS 2 (by decide) 0 (fun _ => rfl) rfl (i := 0) (x := 70) (vp_in_iff.mpr (by decide)) dX12_becomes_106 (fun f_3 H locs ef_3 hP hS => ?_)
    refine lv_aload_n hx hb dX12_becomes_107 rfl (lv_at hl 1 rfl) ?_
    refine sg_get (ci := 12) (v := .ref (h 3)) (C := RX12) (T := TX12) (N := 55) hx hb hts (fun w h => List.mem_cons_of_mem _ (gx_12 w h)) hown hK hP 0 (by decide) rfl rfl 2 (by decide) (hts _ (List.mem_cons_of_mem _ mw_255)) (fun _ h9 => h9) rfl dX12_becomes_108 ?_
    refine lv_aload_n hx hb dX12_becomes_111 rfl (lv_at hl 1 rfl) ?_
    refine sg_get (ci := 12) (v := .int 0) (C := RX12) (T := TX12) (N := 55) hx hb hts (fun w h => List.mem_cons_of_mem _ (gx_12 w h)) hown hK hP 0 (by decide) rfl rfl 5 (by decide) (hts _ (List.mem_cons_of_mem _ mw_253)) (fun _ h9 => h9) (congrArg (fun z => some (Value.int z)) (show f_3 0 5 = 0 from (by rw [ef_3]; exact rfl))) dX12_becomes_112 ?_
    refine lv_iload_n hx hb dX12_becomes_115 rfl (lv_at hl 0 rfl) ?_
    refine sg_iast hx hb hh hA hK hP hS 3 (by decide) 0 (fun _ => rfl) rfl (i := 0) (x := 3) (vp_in_iff.mpr (by decide)) dX12_becomes_116 (fun f_4 H locs ef_4 hP hS => ?_)
    refine lv_aload_n hx hb dX12_becomes_117 rfl (lv_at hl 1 rfl) ?_
    refine sg_get (ci := 12) (v := .ref (h 4)) (C := RX12) (T := TX12) (N := 55) hx hb hts (fun w h => List.mem_cons_of_mem _ (gx_12 w h)) hown hK hP 0 (by decide) rfl rfl 3 (by decide) (hts _ (List.mem_cons_of_mem _ mw_256)) (fun _ h9 => h9) rfl dX12_becomes_118 ?_
    refine lv_aload_n hx hb dX12_becomes_121 rfl (lv_at hl 1 rfl) ?_
    refine sg_get (ci := 12) (v := .int 0) (C := RX12) (T := TX12) (N := 55) hx hb hts (fun w h => List.mem_cons_of_mem _ (gx_12 w h)) hown hK hP 0 (by decide) rfl rfl 5 (by decide) (hts _ (List.mem_cons_of_mem _ mw_253)) (fun _ h9 => h9) (congrArg (fun z => some (Value.int z)) (show f_4 0 5 = 0 from (by rw [ef_4]; exact (show _ = _ from (by rw [ef_3]; exact rfl))))) dX12_becomes_122 ?_
    refine lv_iload_n hx hb dX12_becomes_125 rfl (lv_at hl 3 rfl) ?_
    refine sg_iast hx hb hh hA hK hP hS 4 (by decide) 0 (fun _ => rfl) rfl (i := 0) (x := x1) (vp_in_iff.mpr (by decide)) dX12_becomes_126 (fun f_5 H locs ef_5 hP hS => ?_)
    refine lv_aload_n hx hb dX12_becomes_127 rfl (lv_at hl 1 rfl) ?_
    refine lv_dup hx hb dX12_becomes_128 rfl ?_
    refine sg_get (ci := 12) (v := .int 0) (C := RX12) (T := TX12) (N := 55) hx hb hts (fun w h => List.mem_cons_of_mem _ (gx_12 w h)) hown hK hP 0 (by decide) rfl rfl 5 (by decide) (hts _ (List.mem_cons_of_mem _ mw_253)) (fun _ h9 => h9) (congrArg (fun z => some (Value.int z)) (show f_5 0 5 = 0 from (by rw [ef_5]; exact (show _ = _ from (by rw [ef_4]; exact (show _ = _ from (by rw [ef_3]; exact rfl))))))) dX12_becomes_129 ?_
    refine lv_iconst (v := 1) hx hb dX12_becomes_132 (by decide) ?_
    refine lv_iadd hx hb dX12_becomes_133 ?_
    refine W.eq (g2 := F0 m 134 ls [.int 1, .ref (h 0)]) (by rw [show (0 + 1 : Int32) = 1 from by decide]) ?_
    refine sg_put (ci := 12) (x := 1) (ty := .int) (C := RX12) (T := TX12) (N := 55) hx hb hts (fun w h => List.mem_cons_of_mem _ (gx_12 w h)) tyX12 tyX12_ok nmX12 hown hh hA hK hP hS 0 (by decide) rfl rfl 5 (by decide) (hts _ (List.mem_cons_of_mem _ mw_253)) (fun _ h9 => h9) rfl rfl (by decide +kernel) rfl rfl (Nat.le_of_ble_eq_true rfl) dX12_becomes_134 (fun f_6 H locs ef_6 hP hS => ?_)
    refine lv_aload_n hx hb dX12_becomes_137 rfl (lv_at hl 1 rfl) ?_
    refine lv_aload_n hx hb dX12_becomes_138 rfl (lv_at hl 1 rfl) ?_
    refine sg_get (ci := 12) (v := .int 1) (C := RX12) (T := TX12) (N := 55) hx hb hts (fun w h => List.mem_cons_of_mem _ (gx_12 w h)) hown hK hP 0 (by decide) rfl rfl 5 (by decide) (hts _ (List.mem_cons_of_mem _ mw_253)) (fun _ h9 => h9) (congrArg (fun z => some (Value.int z)) (show f_6 0 5 = 1 from (by rw [ef_6]; rfl))) dX12_becomes_139 ?_
    refine sg_put (ci := 12) (x := 1) (ty := .int) (C := RX12) (T := TX12) (N := 55) hx hb hts (fun w h => List.mem_cons_of_mem _ (gx_12 w h)) tyX12 tyX12_ok nmX12 hown hh hA hK hP hS 0 (by decide) rfl rfl 4 (by decide) (hts _ (List.mem_cons_of_mem _ mw_257)) (fun _ h9 => h9) rfl rfl (by decide +kernel) rfl rfl (Nat.le_of_ble_eq_true rfl) dX12_becomes_142 (fun f_7 H locs ef_7 hP hS => ?_)
    refine lv_aload_n hx hb dX12_becomes_145 rfl (lv_at hl 1 rfl) ?_
    refine sg_get (ci := 12) (v := .ref (h 1)) (C := RX12) (T := TX12) (N := 55) hx hb hts (fun w h => List.mem_cons_of_mem _ (gx_12 w h)) hown hK hP 0 (by decide) rfl rfl 0 (by decide) (hts _ (List.mem_cons_of_mem _ mw_244)) (fun _ h9 => h9) rfl dX12_becomes_146 ?_
    refine lv_iload_n hx hb dX12_becomes_149 rfl (lv_at hl 2 rfl) ?_
    refine lv_iload_n hx hb dX12_becomes_150 rfl (lv_at hl 3 rfl) ?_
    refine sg_iast hx hb hh hA hK hP hS 1 (by decide) 0 (fun _ => rfl) rfl (i := 70) (x := x1) (vp_in_iff.mpr (by decide)) dX12_becomes_151 (fun f_8 H locs ef_8 hP hS => ?_)
    refine lv_iload_n hx hb dX12_becomes_152 rfl (lv_at hl 0 rfl) ?_
    exact hret _ _ _ _ (3) f_8 L0 Q0 dX12_becomes_153 hP hS ⟨trivial, ⟨rfl, trivial⟩⟩
  · skip
    have c_2 : 3 = x1.toInt := (by have z := Int32.toInt_inj.mpr c; have k0 : (3 : Int32).toInt = 3 := (by decide); omega)
    refine lv_iload_n hx hb dX12_becomes_12 rfl (lv_at hl 0 rfl) ?_
    exact hret _ _ _ _ (3) f0M L0 Q0 dX12_becomes_13 hP hS ⟨trivial, ⟨rfl, trivial⟩⟩

set_option maxHeartbeats 4000000 in
set_option maxRecDepth 100000 in
theorem cf_X12_mend (l : Launch) (D : va_G) (ca : Nat → ClassId) (za h : Nat → Nat) (hh : sgH 26 h) (x0 : Int32) (x1 : Int32) (x2 : Int32) (sz : Nat) : Met l yX12_mend gwX12_mend { frames := 3, cells := 0, slots := 0, locals := 69 } (sgP D vwCl (tyX ca) 26 h (eM ca h) zcM za f0M L0 Q0 sz [.ref (h 0), .int x0, .int x1, .int x2]) (sgQi D vwCl 26 h (eM ca h) sz (fun r f1 L1 Q1 => True ∧ ((r = 1 ∧ (x1.toInt = 9 ∧ 0 ≤ x0.toInt ∧ x0.toInt ≤ 2 ∧ 0 ≤ x2.toInt ∧ x2.toInt ≤ 9)) ∨ (r = 0 ∧ (x1.toInt = 8 ∧ 0 ≤ x0.toInt ∧ x0.toInt ≤ 2 ∧ 0 ≤ x2.toInt ∧ x2.toInt ≤ 3)) ∨ (r = 3 ∧ (x1.toInt = 10 ∧ x0.toInt = 0 ∧ 0 ≤ x2.toInt ∧ x2.toInt ≤ 99)) ∨ (r = (-1) ∧ (¬ (x1.toInt = 9 ∧ 0 ≤ x0.toInt ∧ x0.toInt ≤ 2 ∧ 0 ≤ x2.toInt ∧ x2.toInt ≤ 9) ∧ ¬ (x1.toInt = 8 ∧ 0 ≤ x0.toInt ∧ x0.toInt ≤ 2 ∧ 0 ≤ x2.toInt ∧ x2.toInt ≤ 3) ∧ ¬ (x1.toInt = 10 ∧ x0.toInt = 0 ∧ 0 ≤ x2.toInt ∧ x2.toInt ≤ 99)))))) 0 0 (sgA 26 h sz) := by
  refine sg_ofWi (cc := cX12_mend) (maxL := 5) RX12 (by decide) rfl rfl (Nat.le_of_ble_eq_true rfl) ?_
  intro p e s m below meth cd Qz ls hx hb hml hown hts hK hZ hP hS hl hret
  have hA := sgY.self (n := 26) (h := h) (sz := s.heap.size)
  have hl : lv_has ls 5 [(0, .ref (h 0)), (1, .int x0), (2, .int x1), (3, .int x2)] := hl
  obtain ⟨H, hH⟩ : ∃ z : Heap, z = s.heap := ⟨_, rfl⟩
  obtain ⟨locs, hlo⟩ : ∃ z : List Loc, z = [] := ⟨_, rfl⟩
  have hP : va_P D vwCl (sgw 26 h (eM ca h) f0M L0 Q0) H := by rw [hH]; exact hP
  have hS : va_S (sgA 26 h s.heap.size) s.heap H locs := by rw [hH, hlo]; exact hS
  suffices hgo : W p l e ({ frames := 3, cells := 0, slots := 0, locals := 69 }) s m ([.ref (h 0), .int x0, .int x1, .int x2] : List Value).toArray below meth cd H locs 0 0 Qz (F0 m 0 ls []) by rw [hH, hlo] at hgo; exact hgo
  refine lv_aload_n hx hb dX12_mend_0 rfl (lv_at hl 0 rfl) ?_
  refine lv_iload_n hx hb dX12_mend_1 rfl (lv_at hl 1 rfl) ?_
  refine lv_iload_n hx hb dX12_mend_2 rfl (lv_at hl 2 rfl) ?_
  refine sg_calli (va_runV (As := [.int x0, .int x1]) (rest := []) ⟨hx, hb, hml, hown, hts⟩ (cf_X12_placeOf l D ca za h hh f0M L0 Q0 x0 x1 rfl H.size) (cwV 2 hts (gw_V (fun _ h => List.mem_cons_of_mem _ h) mw_259 mw_260 mw_261 mw_217 mw_258) rfl rfl rfl (by decide +kernel) ⟨Nat.le_of_ble_eq_true rfl, Nat.le_of_ble_eq_true rfl⟩) (sg_preV (ci := 12) (C := RX12) (T := TX12) (N := 55) hA hK hP hS hZ 0 (by decide) rfl rfl) rfl rfl hl.1 rfl (lv_room (Nat.le_of_ble_eq_true rfl)) dX12_mend_3 ⟨Nat.le_refl _, Nat.le_refl _⟩) hA hS (fun r_4 f_1 L_2 Q_3 H locs hq hP hS => ?_)
  obtain ⟨⟨ef9, eL9, eQ9⟩, hq⟩ := hq
  rw [ef9, eL9, eQ9] at hP; clear ef9 eL9 eQ9
  rcases hq with ⟨rfl, hq⟩ | ⟨rfl, hq⟩ | ⟨rfl, hq⟩ | ⟨rfl, hq⟩ | ⟨rfl, hq⟩ | ⟨rfl, hq⟩ | ⟨rfl, hq⟩ | ⟨rfl, hq⟩
  · skip
    have q_5 := hq
    refine lv_istore (lv' := [(4, .int (-1)), (0, .ref (h 0)), (1, .int x0), (2, .int x1), (3, .int x2)]) hx hb dX12_mend_6 hl (by decide) rfl (fun ls hl => ?_)
    refine lv_iload hx hb dX12_mend_8 (lv_at hl 0 rfl) ?_
    refine lv_if_lt (tgt := 46) hx hb dX12_mend_10 (by decide) (fun c => ?_) (fun c => absurd c (by decide))
    refine lv_iconst (v := (-1)) hx hb dX12_mend_46 (by decide) ?_
    exact hret _ _ _ _ (-1) f0M L0 Q0 dX12_mend_47 hP hS ⟨trivial, Or.inr (Or.inr (Or.inr (⟨rfl, by omega⟩)))⟩
  · skip
    have q_6 := hq
    have k_7 : (8 : Int32).toInt = 8 := (by decide)
    obtain rfl : x1 = 8 := Int32.toInt_inj.mp (by omega)
    have k_8 : (0 : Int32).toInt = 0 := (by decide)
    obtain rfl : x0 = 0 := Int32.toInt_inj.mp (by omega)
    refine lv_istore (lv' := [(4, .int 64), (0, .ref (h 0)), (1, .int 0), (2, .int 8), (3, .int x2)]) hx hb dX12_mend_6 hl (by decide) rfl (fun ls hl => ?_)
    refine lv_iload hx hb dX12_mend_8 (lv_at hl 0 rfl) ?_
    refine lv_if_lt (tgt := 46) hx hb dX12_mend_10 (by decide) (fun c => absurd c (by decide)) (fun c => ?_)
    refine lv_iload_n hx hb dX12_mend_13 rfl (lv_at hl 4 rfl) ?_
    obtain ⟨w_9, ew_9⟩ : ∃ z : Int64, z = x2.toInt64 := ⟨_, rfl⟩
    have q_10 : w_9.toInt = x2.toInt := by rw [ew_9]; exact Int32.toInt_toInt64 _
    refine lv_i2l (v := w_9) hx hb dX12_mend_14 ew_9.symm ?_
    refine lv_iload_n hx hb dX12_mend_15 rfl (lv_at hl 3 rfl) ?_
    refine lv_iconst (v := 5) hx hb dX12_mend_16 (by decide) ?_
    refine lv_icmp_ne (tgt := 24) hx hb dX12_mend_17 (by decide) (fun c => ?_) (fun c => absurd c (by decide))
    refine lv_lconst (v := 0) hx hb dX12_mend_24 (by decide) ?_
    refine lv_iload_n hx hb dX12_mend_25 rfl (lv_at hl 3 rfl) ?_
    refine sg_calli (va_runS (As := [.int 8]) (rest := [.long 0, .long w_9]) ⟨hx, hb, hml, hown, hts⟩ (cf_X12_mostOf_8 l D ca za h hh f0M L0 Q0 H.size) (va_cwS 1 hts (gw_S (fun _ h => List.mem_cons_of_mem _ h) mw_263 mw_264 mw_217 mw_262) rfl rfl rfl (by decide +kernel) ⟨Nat.le_of_ble_eq_true rfl, Nat.le_of_ble_eq_true rfl⟩) (sg_preS hA hK hP hS hZ) rfl rfl hl.1 rfl (lv_room (Nat.le_of_ble_eq_true rfl)) dX12_mend_26 ⟨Nat.le_refl _, Nat.le_refl _⟩) hA hS (fun r_14 f_11 L_12 Q_13 H locs hq hP hS => ?_)
    obtain ⟨⟨ef9, eL9, eQ9⟩, hq⟩ := hq
    rw [ef9, eL9, eQ9] at hP; clear ef9 eL9 eQ9
    have k_15 : (8 : Int32).toInt = 8 := by decide
    obtain ⟨rfl, hq⟩ := hq
    have q_16 := hq
    refine lv_i2l (v := 3) hx hb dX12_mend_29 (by decide) ?_
    refine sg_calli (va_runS (As := [.long w_9, .long 0, .long 3]) (rest := []) ⟨hx, hb, hml, hown, hts⟩ (cf_X12_within l D ca za h hh f0M L0 Q0 w_9 0 3 H.size) (va_cwS 3 hts (gw_S (fun _ h => List.mem_cons_of_mem _ h) mw_215 mw_216 mw_217 mw_214) rfl rfl rfl (by decide +kernel) ⟨Nat.le_of_ble_eq_true rfl, Nat.le_of_ble_eq_true rfl⟩) (sg_preS hA hK hP hS hZ) rfl rfl hl.1 rfl (lv_room (Nat.le_of_ble_eq_true rfl)) dX12_mend_30 ⟨Nat.le_refl _, Nat.le_refl _⟩) hA hS (fun r_20 f_17 L_18 Q_19 H locs hq hP hS => ?_)
    obtain ⟨⟨ef9, eL9, eQ9⟩, hq⟩ := hq
    rw [ef9, eL9, eQ9] at hP; clear ef9 eL9 eQ9
    have k_21 : (0 : Int64).toInt = 0 := by decide
    have k_22 : (3 : Int64).toInt = 3 := by decide
    rcases hq with ⟨rfl, hq⟩ | ⟨rfl, hq⟩
    · skip
      have q_23 := hq
      refine lv_if_eq (tgt := 46) hx hb dX12_mend_33 (by decide) (fun c => absurd c (by decide)) (fun c => ?_)
      refine lv_aload_n hx hb dX12_mend_36 rfl (lv_at hl 1 rfl) ?_
      refine lv_iload hx hb dX12_mend_37 (lv_at hl 0 rfl) ?_
      refine lv_iload_n hx hb dX12_mend_39 rfl (lv_at hl 4 rfl) ?_
      refine sg_calli (va_runV (As := [.int 64, .int x2]) (rest := []) ⟨hx, hb, hml, hown, hts⟩ (cf_X12_becomes_64 l D ca za h hh x2 H.size) (cwV 2 hts (gw_V (fun _ h => List.mem_cons_of_mem _ h) mw_266 mw_267 mw_268 mw_217 mw_265) rfl rfl rfl (by decide +kernel) ⟨Nat.le_of_ble_eq_true rfl, Nat.le_of_ble_eq_true rfl⟩) (sg_preV (ci := 12) (C := RX12) (T := TX12) (N := 55) hA hK hP hS hZ 0 (by decide) rfl rfl) rfl rfl hl.1 rfl (lv_room (Nat.le_of_ble_eq_true rfl)) dX12_mend_40 ⟨Nat.le_refl _, Nat.le_refl _⟩) hA hS (fun r_27 f_24 L_25 Q_26 H locs hq hP hS => ?_)
      obtain ⟨-, hq⟩ := hq
      have k_28 : (64 : Int32).toInt = 64 := by decide
      obtain ⟨rfl, hq⟩ := hq
      have q_29 := hq
      refine lv_goto (tgt := 47) hx hb dX12_mend_43 (by decide) ?_
      exact hret _ _ _ _ (0) f_24 L_25 Q_26 dX12_mend_47 hP hS ⟨trivial, Or.inr (Or.inl ⟨rfl, by omega⟩)⟩
    · skip
      have q_30 := hq
      refine lv_if_eq (tgt := 46) hx hb dX12_mend_33 (by decide) (fun c => ?_) (fun c => absurd c (by decide))
      refine lv_iconst (v := (-1)) hx hb dX12_mend_46 (by decide) ?_
      exact hret _ _ _ _ (-1) f0M L0 Q0 dX12_mend_47 hP hS ⟨trivial, Or.inr (Or.inr (Or.inr (⟨rfl, by omega⟩)))⟩
  · skip
    have q_31 := hq
    have k_32 : (8 : Int32).toInt = 8 := (by decide)
    obtain rfl : x1 = 8 := Int32.toInt_inj.mp (by omega)
    have k_33 : (1 : Int32).toInt = 1 := (by decide)
    obtain rfl : x0 = 1 := Int32.toInt_inj.mp (by omega)
    refine lv_istore (lv' := [(4, .int 65), (0, .ref (h 0)), (1, .int 1), (2, .int 8), (3, .int x2)]) hx hb dX12_mend_6 hl (by decide) rfl (fun ls hl => ?_)
    refine lv_iload hx hb dX12_mend_8 (lv_at hl 0 rfl) ?_
    refine lv_if_lt (tgt := 46) hx hb dX12_mend_10 (by decide) (fun c => absurd c (by decide)) (fun c => ?_)
    refine lv_iload_n hx hb dX12_mend_13 rfl (lv_at hl 4 rfl) ?_
    obtain ⟨w_34, ew_34⟩ : ∃ z : Int64, z = x2.toInt64 := ⟨_, rfl⟩
    have q_35 : w_34.toInt = x2.toInt := by rw [ew_34]; exact Int32.toInt_toInt64 _
    refine lv_i2l (v := w_34) hx hb dX12_mend_14 ew_34.symm ?_
    refine lv_iload_n hx hb dX12_mend_15 rfl (lv_at hl 3 rfl) ?_
    refine lv_iconst (v := 5) hx hb dX12_mend_16 (by decide) ?_
    refine lv_icmp_ne (tgt := 24) hx hb dX12_mend_17 (by decide) (fun c => ?_) (fun c => absurd c (by decide))
    refine lv_lconst (v := 0) hx hb dX12_mend_24 (by decide) ?_
    refine lv_iload_n hx hb dX12_mend_25 rfl (lv_at hl 3 rfl) ?_
    refine sg_calli (va_runS (As := [.int 8]) (rest := [.long 0, .long w_34]) ⟨hx, hb, hml, hown, hts⟩ (cf_X12_mostOf_8 l D ca za h hh f0M L0 Q0 H.size) (va_cwS 1 hts (gw_S (fun _ h => List.mem_cons_of_mem _ h) mw_263 mw_264 mw_217 mw_262) rfl rfl rfl (by decide +kernel) ⟨Nat.le_of_ble_eq_true rfl, Nat.le_of_ble_eq_true rfl⟩) (sg_preS hA hK hP hS hZ) rfl rfl hl.1 rfl (lv_room (Nat.le_of_ble_eq_true rfl)) dX12_mend_26 ⟨Nat.le_refl _, Nat.le_refl _⟩) hA hS (fun r_39 f_36 L_37 Q_38 H locs hq hP hS => ?_)
    obtain ⟨⟨ef9, eL9, eQ9⟩, hq⟩ := hq
    rw [ef9, eL9, eQ9] at hP; clear ef9 eL9 eQ9
    have k_40 : (8 : Int32).toInt = 8 := by decide
    obtain ⟨rfl, hq⟩ := hq
    have q_41 := hq
    refine lv_i2l (v := 3) hx hb dX12_mend_29 (by decide) ?_
    refine sg_calli (va_runS (As := [.long w_34, .long 0, .long 3]) (rest := []) ⟨hx, hb, hml, hown, hts⟩ (cf_X12_within l D ca za h hh f0M L0 Q0 w_34 0 3 H.size) (va_cwS 3 hts (gw_S (fun _ h => List.mem_cons_of_mem _ h) mw_215 mw_216 mw_217 mw_214) rfl rfl rfl (by decide +kernel) ⟨Nat.le_of_ble_eq_true rfl, Nat.le_of_ble_eq_true rfl⟩) (sg_preS hA hK hP hS hZ) rfl rfl hl.1 rfl (lv_room (Nat.le_of_ble_eq_true rfl)) dX12_mend_30 ⟨Nat.le_refl _, Nat.le_refl _⟩) hA hS (fun r_45 f_42 L_43 Q_44 H locs hq hP hS => ?_)
    obtain ⟨⟨ef9, eL9, eQ9⟩, hq⟩ := hq
    rw [ef9, eL9, eQ9] at hP; clear ef9 eL9 eQ9
    have k_46 : (0 : Int64).toInt = 0 := by decide
    have k_47 : (3 : Int64).toInt = 3 := by decide
    rcases hq with ⟨rfl, hq⟩ | ⟨rfl, hq⟩
    · skip
      have q_48 := hq
      refine lv_if_eq (tgt := 46) hx hb dX12_mend_33 (by decide) (fun c => absurd c (by decide)) (fun c => ?_)
      refine lv_aload_n hx hb dX12_mend_36 rfl (lv_at hl 1 rfl) ?_
      refine lv_iload hx hb dX12_mend_37 (lv_at hl 0 rfl) ?_
      refine lv_iload_n hx hb dX12_mend_39 rfl (lv_at hl 4 rfl) ?_
      refine sg_calli (va_runV (As := [.int 65, .int x2]) (rest := []) ⟨hx, hb, hml, hown, hts⟩ (cf_X12_becomes_65 l D ca za h hh x2 H.size) (cwV 2 hts (gw_V (fun _ h => List.mem_cons_of_mem _ h) mw_266 mw_267 mw_268 mw_217 mw_265) rfl rfl rfl (by decide +kernel) ⟨Nat.le_of_ble_eq_true rfl, Nat.le_of_ble_eq_true rfl⟩) (sg_preV (ci := 12) (C := RX12) (T := TX12) (N := 55) hA hK hP hS hZ 0 (by decide) rfl rfl) rfl rfl hl.1 rfl (lv_room (Nat.le_of_ble_eq_true rfl)) dX12_mend_40 ⟨Nat.le_refl _, Nat.le_refl _⟩) hA hS (fun r_52 f_49 L_50 Q_51 H locs hq hP hS => ?_)
      obtain ⟨-, hq⟩ := hq
      have k_53 : (65 : Int32).toInt = 65 := by decide
      obtain ⟨rfl, hq⟩ := hq
      have q_54 := hq
      refine lv_goto (tgt := 47) hx hb dX12_mend_43 (by decide) ?_
      exact hret _ _ _ _ (0) f_49 L_50 Q_51 dX12_mend_47 hP hS ⟨trivial, Or.inr (Or.inl ⟨rfl, by omega⟩)⟩
    · skip
      have q_55 := hq
      refine lv_if_eq (tgt := 46) hx hb dX12_mend_33 (by decide) (fun c => ?_) (fun c => absurd c (by decide))
      refine lv_iconst (v := (-1)) hx hb dX12_mend_46 (by decide) ?_
      exact hret _ _ _ _ (-1) f0M L0 Q0 dX12_mend_47 hP hS ⟨trivial, Or.inr (Or.inr (Or.inr (⟨rfl, by omega⟩)))⟩
  · skip
    have q_56 := hq
    have k_57 : (8 : Int32).toInt = 8 := (by decide)
    obtain rfl : x1 = 8 := Int32.toInt_inj.mp (by omega)
    have k_58 : (2 : Int32).toInt = 2 := (by decide)
    obtain rfl : x0 = 2 := Int32.toInt_inj.mp (by omega)
    refine lv_istore (lv' := [(4, .int 66), (0, .ref (h 0)), (1, .int 2), (2, .int 8), (3, .int x2)]) hx hb dX12_mend_6 hl (by decide) rfl (fun ls hl => ?_)
    refine lv_iload hx hb dX12_mend_8 (lv_at hl 0 rfl) ?_
    refine lv_if_lt (tgt := 46) hx hb dX12_mend_10 (by decide) (fun c => absurd c (by decide)) (fun c => ?_)
    refine lv_iload_n hx hb dX12_mend_13 rfl (lv_at hl 4 rfl) ?_
    obtain ⟨w_59, ew_59⟩ : ∃ z : Int64, z = x2.toInt64 := ⟨_, rfl⟩
    have q_60 : w_59.toInt = x2.toInt := by rw [ew_59]; exact Int32.toInt_toInt64 _
    refine lv_i2l (v := w_59) hx hb dX12_mend_14 ew_59.symm ?_
    refine lv_iload_n hx hb dX12_mend_15 rfl (lv_at hl 3 rfl) ?_
    refine lv_iconst (v := 5) hx hb dX12_mend_16 (by decide) ?_
    refine lv_icmp_ne (tgt := 24) hx hb dX12_mend_17 (by decide) (fun c => ?_) (fun c => absurd c (by decide))
    refine lv_lconst (v := 0) hx hb dX12_mend_24 (by decide) ?_
    refine lv_iload_n hx hb dX12_mend_25 rfl (lv_at hl 3 rfl) ?_
    refine sg_calli (va_runS (As := [.int 8]) (rest := [.long 0, .long w_59]) ⟨hx, hb, hml, hown, hts⟩ (cf_X12_mostOf_8 l D ca za h hh f0M L0 Q0 H.size) (va_cwS 1 hts (gw_S (fun _ h => List.mem_cons_of_mem _ h) mw_263 mw_264 mw_217 mw_262) rfl rfl rfl (by decide +kernel) ⟨Nat.le_of_ble_eq_true rfl, Nat.le_of_ble_eq_true rfl⟩) (sg_preS hA hK hP hS hZ) rfl rfl hl.1 rfl (lv_room (Nat.le_of_ble_eq_true rfl)) dX12_mend_26 ⟨Nat.le_refl _, Nat.le_refl _⟩) hA hS (fun r_64 f_61 L_62 Q_63 H locs hq hP hS => ?_)
    obtain ⟨⟨ef9, eL9, eQ9⟩, hq⟩ := hq
    rw [ef9, eL9, eQ9] at hP; clear ef9 eL9 eQ9
    have k_65 : (8 : Int32).toInt = 8 := by decide
    obtain ⟨rfl, hq⟩ := hq
    have q_66 := hq
    refine lv_i2l (v := 3) hx hb dX12_mend_29 (by decide) ?_
    refine sg_calli (va_runS (As := [.long w_59, .long 0, .long 3]) (rest := []) ⟨hx, hb, hml, hown, hts⟩ (cf_X12_within l D ca za h hh f0M L0 Q0 w_59 0 3 H.size) (va_cwS 3 hts (gw_S (fun _ h => List.mem_cons_of_mem _ h) mw_215 mw_216 mw_217 mw_214) rfl rfl rfl (by decide +kernel) ⟨Nat.le_of_ble_eq_true rfl, Nat.le_of_ble_eq_true rfl⟩) (sg_preS hA hK hP hS hZ) rfl rfl hl.1 rfl (lv_room (Nat.le_of_ble_eq_true rfl)) dX12_mend_30 ⟨Nat.le_refl _, Nat.le_refl _⟩) hA hS (fun r_70 f_67 L_68 Q_69 H locs hq hP hS => ?_)
    obtain ⟨⟨ef9, eL9, eQ9⟩, hq⟩ := hq
    rw [ef9, eL9, eQ9] at hP; clear ef9 eL9 eQ9
    have k_71 : (0 : Int64).toInt = 0 := by decide
    have k_72 : (3 : Int64).toInt = 3 := by decide
    rcases hq with ⟨rfl, hq⟩ | ⟨rfl, hq⟩
    · skip
      have q_73 := hq
      refine lv_if_eq (tgt := 46) hx hb dX12_mend_33 (by decide) (fun c => absurd c (by decide)) (fun c => ?_)
      refine lv_aload_n hx hb dX12_mend_36 rfl (lv_at hl 1 rfl) ?_
      refine lv_iload hx hb dX12_mend_37 (lv_at hl 0 rfl) ?_
      refine lv_iload_n hx hb dX12_mend_39 rfl (lv_at hl 4 rfl) ?_
      refine sg_calli (va_runV (As := [.int 66, .int x2]) (rest := []) ⟨hx, hb, hml, hown, hts⟩ (cf_X12_becomes_66 l D ca za h hh x2 H.size) (cwV 2 hts (gw_V (fun _ h => List.mem_cons_of_mem _ h) mw_266 mw_267 mw_268 mw_217 mw_265) rfl rfl rfl (by decide +kernel) ⟨Nat.le_of_ble_eq_true rfl, Nat.le_of_ble_eq_true rfl⟩) (sg_preV (ci := 12) (C := RX12) (T := TX12) (N := 55) hA hK hP hS hZ 0 (by decide) rfl rfl) rfl rfl hl.1 rfl (lv_room (Nat.le_of_ble_eq_true rfl)) dX12_mend_40 ⟨Nat.le_refl _, Nat.le_refl _⟩) hA hS (fun r_77 f_74 L_75 Q_76 H locs hq hP hS => ?_)
      obtain ⟨-, hq⟩ := hq
      have k_78 : (66 : Int32).toInt = 66 := by decide
      obtain ⟨rfl, hq⟩ := hq
      have q_79 := hq
      refine lv_goto (tgt := 47) hx hb dX12_mend_43 (by decide) ?_
      exact hret _ _ _ _ (0) f_74 L_75 Q_76 dX12_mend_47 hP hS ⟨trivial, Or.inr (Or.inl ⟨rfl, by omega⟩)⟩
    · skip
      have q_80 := hq
      refine lv_if_eq (tgt := 46) hx hb dX12_mend_33 (by decide) (fun c => ?_) (fun c => absurd c (by decide))
      refine lv_iconst (v := (-1)) hx hb dX12_mend_46 (by decide) ?_
      exact hret _ _ _ _ (-1) f0M L0 Q0 dX12_mend_47 hP hS ⟨trivial, Or.inr (Or.inr (Or.inr (⟨rfl, by omega⟩)))⟩
  · skip
    have q_81 := hq
    have k_82 : (9 : Int32).toInt = 9 := (by decide)
    obtain rfl : x1 = 9 := Int32.toInt_inj.mp (by omega)
    have k_83 : (0 : Int32).toInt = 0 := (by decide)
    obtain rfl : x0 = 0 := Int32.toInt_inj.mp (by omega)
    refine lv_istore (lv' := [(4, .int 67), (0, .ref (h 0)), (1, .int 0), (2, .int 9), (3, .int x2)]) hx hb dX12_mend_6 hl (by decide) rfl (fun ls hl => ?_)
    refine lv_iload hx hb dX12_mend_8 (lv_at hl 0 rfl) ?_
    refine lv_if_lt (tgt := 46) hx hb dX12_mend_10 (by decide) (fun c => absurd c (by decide)) (fun c => ?_)
    refine lv_iload_n hx hb dX12_mend_13 rfl (lv_at hl 4 rfl) ?_
    obtain ⟨w_84, ew_84⟩ : ∃ z : Int64, z = x2.toInt64 := ⟨_, rfl⟩
    have q_85 : w_84.toInt = x2.toInt := by rw [ew_84]; exact Int32.toInt_toInt64 _
    refine lv_i2l (v := w_84) hx hb dX12_mend_14 ew_84.symm ?_
    refine lv_iload_n hx hb dX12_mend_15 rfl (lv_at hl 3 rfl) ?_
    refine lv_iconst (v := 5) hx hb dX12_mend_16 (by decide) ?_
    refine lv_icmp_ne (tgt := 24) hx hb dX12_mend_17 (by decide) (fun c => ?_) (fun c => absurd c (by decide))
    refine lv_lconst (v := 0) hx hb dX12_mend_24 (by decide) ?_
    refine lv_iload_n hx hb dX12_mend_25 rfl (lv_at hl 3 rfl) ?_
    refine sg_calli (va_runS (As := [.int 9]) (rest := [.long 0, .long w_84]) ⟨hx, hb, hml, hown, hts⟩ (cf_X12_mostOf_9 l D ca za h hh f0M L0 Q0 H.size) (va_cwS 1 hts (gw_S (fun _ h => List.mem_cons_of_mem _ h) mw_263 mw_264 mw_217 mw_262) rfl rfl rfl (by decide +kernel) ⟨Nat.le_of_ble_eq_true rfl, Nat.le_of_ble_eq_true rfl⟩) (sg_preS hA hK hP hS hZ) rfl rfl hl.1 rfl (lv_room (Nat.le_of_ble_eq_true rfl)) dX12_mend_26 ⟨Nat.le_refl _, Nat.le_refl _⟩) hA hS (fun r_89 f_86 L_87 Q_88 H locs hq hP hS => ?_)
    obtain ⟨⟨ef9, eL9, eQ9⟩, hq⟩ := hq
    rw [ef9, eL9, eQ9] at hP; clear ef9 eL9 eQ9
    have k_90 : (9 : Int32).toInt = 9 := by decide
    obtain ⟨rfl, hq⟩ := hq
    have q_91 := hq
    refine lv_i2l (v := 9) hx hb dX12_mend_29 (by decide) ?_
    refine sg_calli (va_runS (As := [.long w_84, .long 0, .long 9]) (rest := []) ⟨hx, hb, hml, hown, hts⟩ (cf_X12_within l D ca za h hh f0M L0 Q0 w_84 0 9 H.size) (va_cwS 3 hts (gw_S (fun _ h => List.mem_cons_of_mem _ h) mw_215 mw_216 mw_217 mw_214) rfl rfl rfl (by decide +kernel) ⟨Nat.le_of_ble_eq_true rfl, Nat.le_of_ble_eq_true rfl⟩) (sg_preS hA hK hP hS hZ) rfl rfl hl.1 rfl (lv_room (Nat.le_of_ble_eq_true rfl)) dX12_mend_30 ⟨Nat.le_refl _, Nat.le_refl _⟩) hA hS (fun r_95 f_92 L_93 Q_94 H locs hq hP hS => ?_)
    obtain ⟨⟨ef9, eL9, eQ9⟩, hq⟩ := hq
    rw [ef9, eL9, eQ9] at hP; clear ef9 eL9 eQ9
    have k_96 : (0 : Int64).toInt = 0 := by decide
    have k_97 : (9 : Int64).toInt = 9 := by decide
    rcases hq with ⟨rfl, hq⟩ | ⟨rfl, hq⟩
    · skip
      have q_98 := hq
      refine lv_if_eq (tgt := 46) hx hb dX12_mend_33 (by decide) (fun c => absurd c (by decide)) (fun c => ?_)
      refine lv_aload_n hx hb dX12_mend_36 rfl (lv_at hl 1 rfl) ?_
      refine lv_iload hx hb dX12_mend_37 (lv_at hl 0 rfl) ?_
      refine lv_iload_n hx hb dX12_mend_39 rfl (lv_at hl 4 rfl) ?_
      refine sg_calli (va_runV (As := [.int 67, .int x2]) (rest := []) ⟨hx, hb, hml, hown, hts⟩ (cf_X12_becomes_67 l D ca za h hh x2 H.size) (cwV 2 hts (gw_V (fun _ h => List.mem_cons_of_mem _ h) mw_266 mw_267 mw_268 mw_217 mw_265) rfl rfl rfl (by decide +kernel) ⟨Nat.le_of_ble_eq_true rfl, Nat.le_of_ble_eq_true rfl⟩) (sg_preV (ci := 12) (C := RX12) (T := TX12) (N := 55) hA hK hP hS hZ 0 (by decide) rfl rfl) rfl rfl hl.1 rfl (lv_room (Nat.le_of_ble_eq_true rfl)) dX12_mend_40 ⟨Nat.le_refl _, Nat.le_refl _⟩) hA hS (fun r_102 f_99 L_100 Q_101 H locs hq hP hS => ?_)
      obtain ⟨-, hq⟩ := hq
      have k_103 : (67 : Int32).toInt = 67 := by decide
      obtain ⟨rfl, hq⟩ := hq
      have q_104 := hq
      refine lv_goto (tgt := 47) hx hb dX12_mend_43 (by decide) ?_
      exact hret _ _ _ _ (1) f_99 L_100 Q_101 dX12_mend_47 hP hS ⟨trivial, Or.inl ⟨rfl, by omega⟩⟩
    · skip
      have q_105 := hq
      refine lv_if_eq (tgt := 46) hx hb dX12_mend_33 (by decide) (fun c => ?_) (fun c => absurd c (by decide))
      refine lv_iconst (v := (-1)) hx hb dX12_mend_46 (by decide) ?_
      exact hret _ _ _ _ (-1) f0M L0 Q0 dX12_mend_47 hP hS ⟨trivial, Or.inr (Or.inr (Or.inr (⟨rfl, by omega⟩)))⟩
  · skip
    have q_106 := hq
    have k_107 : (9 : Int32).toInt = 9 := (by decide)
    obtain rfl : x1 = 9 := Int32.toInt_inj.mp (by omega)
    have k_108 : (1 : Int32).toInt = 1 := (by decide)
    obtain rfl : x0 = 1 := Int32.toInt_inj.mp (by omega)
    refine lv_istore (lv' := [(4, .int 68), (0, .ref (h 0)), (1, .int 1), (2, .int 9), (3, .int x2)]) hx hb dX12_mend_6 hl (by decide) rfl (fun ls hl => ?_)
    refine lv_iload hx hb dX12_mend_8 (lv_at hl 0 rfl) ?_
    refine lv_if_lt (tgt := 46) hx hb dX12_mend_10 (by decide) (fun c => absurd c (by decide)) (fun c => ?_)
    refine lv_iload_n hx hb dX12_mend_13 rfl (lv_at hl 4 rfl) ?_
    obtain ⟨w_109, ew_109⟩ : ∃ z : Int64, z = x2.toInt64 := ⟨_, rfl⟩
    have q_110 : w_109.toInt = x2.toInt := by rw [ew_109]; exact Int32.toInt_toInt64 _
    refine lv_i2l (v := w_109) hx hb dX12_mend_14 ew_109.symm ?_
    refine lv_iload_n hx hb dX12_mend_15 rfl (lv_at hl 3 rfl) ?_
    refine lv_iconst (v := 5) hx hb dX12_mend_16 (by decide) ?_
    refine lv_icmp_ne (tgt := 24) hx hb dX12_mend_17 (by decide) (fun c => ?_) (fun c => absurd c (by decide))
    refine lv_lconst (v := 0) hx hb dX12_mend_24 (by decide) ?_
    refine lv_iload_n hx hb dX12_mend_25 rfl (lv_at hl 3 rfl) ?_
    refine sg_calli (va_runS (As := [.int 9]) (rest := [.long 0, .long w_109]) ⟨hx, hb, hml, hown, hts⟩ (cf_X12_mostOf_9 l D ca za h hh f0M L0 Q0 H.size) (va_cwS 1 hts (gw_S (fun _ h => List.mem_cons_of_mem _ h) mw_263 mw_264 mw_217 mw_262) rfl rfl rfl (by decide +kernel) ⟨Nat.le_of_ble_eq_true rfl, Nat.le_of_ble_eq_true rfl⟩) (sg_preS hA hK hP hS hZ) rfl rfl hl.1 rfl (lv_room (Nat.le_of_ble_eq_true rfl)) dX12_mend_26 ⟨Nat.le_refl _, Nat.le_refl _⟩) hA hS (fun r_114 f_111 L_112 Q_113 H locs hq hP hS => ?_)
    obtain ⟨⟨ef9, eL9, eQ9⟩, hq⟩ := hq
    rw [ef9, eL9, eQ9] at hP; clear ef9 eL9 eQ9
    have k_115 : (9 : Int32).toInt = 9 := by decide
    obtain ⟨rfl, hq⟩ := hq
    have q_116 := hq
    refine lv_i2l (v := 9) hx hb dX12_mend_29 (by decide) ?_
    refine sg_calli (va_runS (As := [.long w_109, .long 0, .long 9]) (rest := []) ⟨hx, hb, hml, hown, hts⟩ (cf_X12_within l D ca za h hh f0M L0 Q0 w_109 0 9 H.size) (va_cwS 3 hts (gw_S (fun _ h => List.mem_cons_of_mem _ h) mw_215 mw_216 mw_217 mw_214) rfl rfl rfl (by decide +kernel) ⟨Nat.le_of_ble_eq_true rfl, Nat.le_of_ble_eq_true rfl⟩) (sg_preS hA hK hP hS hZ) rfl rfl hl.1 rfl (lv_room (Nat.le_of_ble_eq_true rfl)) dX12_mend_30 ⟨Nat.le_refl _, Nat.le_refl _⟩) hA hS (fun r_120 f_117 L_118 Q_119 H locs hq hP hS => ?_)
    obtain ⟨⟨ef9, eL9, eQ9⟩, hq⟩ := hq
    rw [ef9, eL9, eQ9] at hP; clear ef9 eL9 eQ9
    have k_121 : (0 : Int64).toInt = 0 := by decide
    have k_122 : (9 : Int64).toInt = 9 := by decide
    rcases hq with ⟨rfl, hq⟩ | ⟨rfl, hq⟩
    · skip
      have q_123 := hq
      refine lv_if_eq (tgt := 46) hx hb dX12_mend_33 (by decide) (fun c => absurd c (by decide)) (fun c => ?_)
      refine lv_aload_n hx hb dX12_mend_36 rfl (lv_at hl 1 rfl) ?_
      refine lv_iload hx hb dX12_mend_37 (lv_at hl 0 rfl) ?_
      refine lv_iload_n hx hb dX12_mend_39 rfl (lv_at hl 4 rfl) ?_
      refine sg_calli (va_runV (As := [.int 68, .int x2]) (rest := []) ⟨hx, hb, hml, hown, hts⟩ (cf_X12_becomes_68 l D ca za h hh x2 H.size) (cwV 2 hts (gw_V (fun _ h => List.mem_cons_of_mem _ h) mw_266 mw_267 mw_268 mw_217 mw_265) rfl rfl rfl (by decide +kernel) ⟨Nat.le_of_ble_eq_true rfl, Nat.le_of_ble_eq_true rfl⟩) (sg_preV (ci := 12) (C := RX12) (T := TX12) (N := 55) hA hK hP hS hZ 0 (by decide) rfl rfl) rfl rfl hl.1 rfl (lv_room (Nat.le_of_ble_eq_true rfl)) dX12_mend_40 ⟨Nat.le_refl _, Nat.le_refl _⟩) hA hS (fun r_127 f_124 L_125 Q_126 H locs hq hP hS => ?_)
      obtain ⟨-, hq⟩ := hq
      have k_128 : (68 : Int32).toInt = 68 := by decide
      obtain ⟨rfl, hq⟩ := hq
      have q_129 := hq
      refine lv_goto (tgt := 47) hx hb dX12_mend_43 (by decide) ?_
      exact hret _ _ _ _ (1) f_124 L_125 Q_126 dX12_mend_47 hP hS ⟨trivial, Or.inl ⟨rfl, by omega⟩⟩
    · skip
      have q_130 := hq
      refine lv_if_eq (tgt := 46) hx hb dX12_mend_33 (by decide) (fun c => ?_) (fun c => absurd c (by decide))
      refine lv_iconst (v := (-1)) hx hb dX12_mend_46 (by decide) ?_
      exact hret _ _ _ _ (-1) f0M L0 Q0 dX12_mend_47 hP hS ⟨trivial, Or.inr (Or.inr (Or.inr (⟨rfl, by omega⟩)))⟩
  · skip
    have q_131 := hq
    have k_132 : (9 : Int32).toInt = 9 := (by decide)
    obtain rfl : x1 = 9 := Int32.toInt_inj.mp (by omega)
    have k_133 : (2 : Int32).toInt = 2 := (by decide)
    obtain rfl : x0 = 2 := Int32.toInt_inj.mp (by omega)
    refine lv_istore (lv' := [(4, .int 69), (0, .ref (h 0)), (1, .int 2), (2, .int 9), (3, .int x2)]) hx hb dX12_mend_6 hl (by decide) rfl (fun ls hl => ?_)
    refine lv_iload hx hb dX12_mend_8 (lv_at hl 0 rfl) ?_
    refine lv_if_lt (tgt := 46) hx hb dX12_mend_10 (by decide) (fun c => absurd c (by decide)) (fun c => ?_)
    refine lv_iload_n hx hb dX12_mend_13 rfl (lv_at hl 4 rfl) ?_
    obtain ⟨w_134, ew_134⟩ : ∃ z : Int64, z = x2.toInt64 := ⟨_, rfl⟩
    have q_135 : w_134.toInt = x2.toInt := by rw [ew_134]; exact Int32.toInt_toInt64 _
    refine lv_i2l (v := w_134) hx hb dX12_mend_14 ew_134.symm ?_
    refine lv_iload_n hx hb dX12_mend_15 rfl (lv_at hl 3 rfl) ?_
    refine lv_iconst (v := 5) hx hb dX12_mend_16 (by decide) ?_
    refine lv_icmp_ne (tgt := 24) hx hb dX12_mend_17 (by decide) (fun c => ?_) (fun c => absurd c (by decide))
    refine lv_lconst (v := 0) hx hb dX12_mend_24 (by decide) ?_
    refine lv_iload_n hx hb dX12_mend_25 rfl (lv_at hl 3 rfl) ?_
    refine sg_calli (va_runS (As := [.int 9]) (rest := [.long 0, .long w_134]) ⟨hx, hb, hml, hown, hts⟩ (cf_X12_mostOf_9 l D ca za h hh f0M L0 Q0 H.size) (va_cwS 1 hts (gw_S (fun _ h => List.mem_cons_of_mem _ h) mw_263 mw_264 mw_217 mw_262) rfl rfl rfl (by decide +kernel) ⟨Nat.le_of_ble_eq_true rfl, Nat.le_of_ble_eq_true rfl⟩) (sg_preS hA hK hP hS hZ) rfl rfl hl.1 rfl (lv_room (Nat.le_of_ble_eq_true rfl)) dX12_mend_26 ⟨Nat.le_refl _, Nat.le_refl _⟩) hA hS (fun r_139 f_136 L_137 Q_138 H locs hq hP hS => ?_)
    obtain ⟨⟨ef9, eL9, eQ9⟩, hq⟩ := hq
    rw [ef9, eL9, eQ9] at hP; clear ef9 eL9 eQ9
    have k_140 : (9 : Int32).toInt = 9 := by decide
    obtain ⟨rfl, hq⟩ := hq
    have q_141 := hq
    refine lv_i2l (v := 9) hx hb dX12_mend_29 (by decide) ?_
    refine sg_calli (va_runS (As := [.long w_134, .long 0, .long 9]) (rest := []) ⟨hx, hb, hml, hown, hts⟩ (cf_X12_within l D ca za h hh f0M L0 Q0 w_134 0 9 H.size) (va_cwS 3 hts (gw_S (fun _ h => List.mem_cons_of_mem _ h) mw_215 mw_216 mw_217 mw_214) rfl rfl rfl (by decide +kernel) ⟨Nat.le_of_ble_eq_true rfl, Nat.le_of_ble_eq_true rfl⟩) (sg_preS hA hK hP hS hZ) rfl rfl hl.1 rfl (lv_room (Nat.le_of_ble_eq_true rfl)) dX12_mend_30 ⟨Nat.le_refl _, Nat.le_refl _⟩) hA hS (fun r_145 f_142 L_143 Q_144 H locs hq hP hS => ?_)
    obtain ⟨⟨ef9, eL9, eQ9⟩, hq⟩ := hq
    rw [ef9, eL9, eQ9] at hP; clear ef9 eL9 eQ9
    have k_146 : (0 : Int64).toInt = 0 := by decide
    have k_147 : (9 : Int64).toInt = 9 := by decide
    rcases hq with ⟨rfl, hq⟩ | ⟨rfl, hq⟩
    · skip
      have q_148 := hq
      refine lv_if_eq (tgt := 46) hx hb dX12_mend_33 (by decide) (fun c => absurd c (by decide)) (fun c => ?_)
      refine lv_aload_n hx hb dX12_mend_36 rfl (lv_at hl 1 rfl) ?_
      refine lv_iload hx hb dX12_mend_37 (lv_at hl 0 rfl) ?_
      refine lv_iload_n hx hb dX12_mend_39 rfl (lv_at hl 4 rfl) ?_
      refine sg_calli (va_runV (As := [.int 69, .int x2]) (rest := []) ⟨hx, hb, hml, hown, hts⟩ (cf_X12_becomes_69 l D ca za h hh x2 H.size) (cwV 2 hts (gw_V (fun _ h => List.mem_cons_of_mem _ h) mw_266 mw_267 mw_268 mw_217 mw_265) rfl rfl rfl (by decide +kernel) ⟨Nat.le_of_ble_eq_true rfl, Nat.le_of_ble_eq_true rfl⟩) (sg_preV (ci := 12) (C := RX12) (T := TX12) (N := 55) hA hK hP hS hZ 0 (by decide) rfl rfl) rfl rfl hl.1 rfl (lv_room (Nat.le_of_ble_eq_true rfl)) dX12_mend_40 ⟨Nat.le_refl _, Nat.le_refl _⟩) hA hS (fun r_152 f_149 L_150 Q_151 H locs hq hP hS => ?_)
      obtain ⟨-, hq⟩ := hq
      have k_153 : (69 : Int32).toInt = 69 := by decide
      obtain ⟨rfl, hq⟩ := hq
      have q_154 := hq
      refine lv_goto (tgt := 47) hx hb dX12_mend_43 (by decide) ?_
      exact hret _ _ _ _ (1) f_149 L_150 Q_151 dX12_mend_47 hP hS ⟨trivial, Or.inl ⟨rfl, by omega⟩⟩
    · skip
      have q_155 := hq
      refine lv_if_eq (tgt := 46) hx hb dX12_mend_33 (by decide) (fun c => ?_) (fun c => absurd c (by decide))
      refine lv_iconst (v := (-1)) hx hb dX12_mend_46 (by decide) ?_
      exact hret _ _ _ _ (-1) f0M L0 Q0 dX12_mend_47 hP hS ⟨trivial, Or.inr (Or.inr (Or.inr (⟨rfl, by omega⟩)))⟩
  · skip
    have q_156 := hq
    have k_157 : (10 : Int32).toInt = 10 := (by decide)
    obtain rfl : x1 = 10 := Int32.toInt_inj.mp (by omega)
    have k_158 : (0 : Int32).toInt = 0 := (by decide)
    obtain rfl : x0 = 0 := Int32.toInt_inj.mp (by omega)
    refine lv_istore (lv' := [(4, .int 70), (0, .ref (h 0)), (1, .int 0), (2, .int 10), (3, .int x2)]) hx hb dX12_mend_6 hl (by decide) rfl (fun ls hl => ?_)
    refine lv_iload hx hb dX12_mend_8 (lv_at hl 0 rfl) ?_
    refine lv_if_lt (tgt := 46) hx hb dX12_mend_10 (by decide) (fun c => absurd c (by decide)) (fun c => ?_)
    refine lv_iload_n hx hb dX12_mend_13 rfl (lv_at hl 4 rfl) ?_
    obtain ⟨w_159, ew_159⟩ : ∃ z : Int64, z = x2.toInt64 := ⟨_, rfl⟩
    have q_160 : w_159.toInt = x2.toInt := by rw [ew_159]; exact Int32.toInt_toInt64 _
    refine lv_i2l (v := w_159) hx hb dX12_mend_14 ew_159.symm ?_
    refine lv_iload_n hx hb dX12_mend_15 rfl (lv_at hl 3 rfl) ?_
    refine lv_iconst (v := 5) hx hb dX12_mend_16 (by decide) ?_
    refine lv_icmp_ne (tgt := 24) hx hb dX12_mend_17 (by decide) (fun c => ?_) (fun c => absurd c (by decide))
    refine lv_lconst (v := 0) hx hb dX12_mend_24 (by decide) ?_
    refine lv_iload_n hx hb dX12_mend_25 rfl (lv_at hl 3 rfl) ?_
    refine sg_calli (va_runS (As := [.int 10]) (rest := [.long 0, .long w_159]) ⟨hx, hb, hml, hown, hts⟩ (cf_X12_mostOf_10 l D ca za h hh f0M L0 Q0 H.size) (va_cwS 1 hts (gw_S (fun _ h => List.mem_cons_of_mem _ h) mw_263 mw_264 mw_217 mw_262) rfl rfl rfl (by decide +kernel) ⟨Nat.le_of_ble_eq_true rfl, Nat.le_of_ble_eq_true rfl⟩) (sg_preS hA hK hP hS hZ) rfl rfl hl.1 rfl (lv_room (Nat.le_of_ble_eq_true rfl)) dX12_mend_26 ⟨Nat.le_refl _, Nat.le_refl _⟩) hA hS (fun r_164 f_161 L_162 Q_163 H locs hq hP hS => ?_)
    obtain ⟨⟨ef9, eL9, eQ9⟩, hq⟩ := hq
    rw [ef9, eL9, eQ9] at hP; clear ef9 eL9 eQ9
    have k_165 : (10 : Int32).toInt = 10 := by decide
    obtain ⟨rfl, hq⟩ := hq
    have q_166 := hq
    refine lv_i2l (v := 99) hx hb dX12_mend_29 (by decide) ?_
    refine sg_calli (va_runS (As := [.long w_159, .long 0, .long 99]) (rest := []) ⟨hx, hb, hml, hown, hts⟩ (cf_X12_within l D ca za h hh f0M L0 Q0 w_159 0 99 H.size) (va_cwS 3 hts (gw_S (fun _ h => List.mem_cons_of_mem _ h) mw_215 mw_216 mw_217 mw_214) rfl rfl rfl (by decide +kernel) ⟨Nat.le_of_ble_eq_true rfl, Nat.le_of_ble_eq_true rfl⟩) (sg_preS hA hK hP hS hZ) rfl rfl hl.1 rfl (lv_room (Nat.le_of_ble_eq_true rfl)) dX12_mend_30 ⟨Nat.le_refl _, Nat.le_refl _⟩) hA hS (fun r_170 f_167 L_168 Q_169 H locs hq hP hS => ?_)
    obtain ⟨⟨ef9, eL9, eQ9⟩, hq⟩ := hq
    rw [ef9, eL9, eQ9] at hP; clear ef9 eL9 eQ9
    have k_171 : (0 : Int64).toInt = 0 := by decide
    have k_172 : (99 : Int64).toInt = 99 := by decide
    rcases hq with ⟨rfl, hq⟩ | ⟨rfl, hq⟩
    · skip
      have q_173 := hq
      refine lv_if_eq (tgt := 46) hx hb dX12_mend_33 (by decide) (fun c => absurd c (by decide)) (fun c => ?_)
      refine lv_aload_n hx hb dX12_mend_36 rfl (lv_at hl 1 rfl) ?_
      refine lv_iload hx hb dX12_mend_37 (lv_at hl 0 rfl) ?_
      refine lv_iload_n hx hb dX12_mend_39 rfl (lv_at hl 4 rfl) ?_
      refine sg_calli (va_runV (As := [.int 70, .int x2]) (rest := []) ⟨hx, hb, hml, hown, hts⟩ (cf_X12_becomes_70 l D ca za h hh x2 H.size) (cwV 2 hts (gw_V (fun _ h => List.mem_cons_of_mem _ h) mw_266 mw_267 mw_268 mw_217 mw_265) rfl rfl rfl (by decide +kernel) ⟨Nat.le_of_ble_eq_true rfl, Nat.le_of_ble_eq_true rfl⟩) (sg_preV (ci := 12) (C := RX12) (T := TX12) (N := 55) hA hK hP hS hZ 0 (by decide) rfl rfl) rfl rfl hl.1 rfl (lv_room (Nat.le_of_ble_eq_true rfl)) dX12_mend_40 ⟨Nat.le_refl _, Nat.le_refl _⟩) hA hS (fun r_177 f_174 L_175 Q_176 H locs hq hP hS => ?_)
      obtain ⟨-, hq⟩ := hq
      have k_178 : (70 : Int32).toInt = 70 := by decide
      obtain ⟨rfl, hq⟩ := hq
      have q_179 := hq
      refine lv_goto (tgt := 47) hx hb dX12_mend_43 (by decide) ?_
      exact hret _ _ _ _ (3) f_174 L_175 Q_176 dX12_mend_47 hP hS ⟨trivial, Or.inr (Or.inr (Or.inl ⟨rfl, by omega⟩))⟩
    · skip
      have q_180 := hq
      refine lv_if_eq (tgt := 46) hx hb dX12_mend_33 (by decide) (fun c => ?_) (fun c => absurd c (by decide))
      refine lv_iconst (v := (-1)) hx hb dX12_mend_46 (by decide) ?_
      exact hret _ _ _ _ (-1) f0M L0 Q0 dX12_mend_47 hP hS ⟨trivial, Or.inr (Or.inr (Or.inr (⟨rfl, by omega⟩)))⟩

set_option maxHeartbeats 4000000 in
set_option maxRecDepth 100000 in
theorem cf_X12_of (l : Launch) (D : va_G) (ca : Nat → ClassId) (za h : Nat → Nat) (hh : sgH 26 h) (x0 : Int32) (x1 : Int32) (sz : Nat) : Met l yX12_of gwX12_of { frames := 3, cells := 0, slots := 0, locals := 69 } (sgP D vwCl (tyX ca) 26 h (eM ca h) zcM za f0M L0 Q0 sz [.ref (h 0), .int x0, .int x1]) (sgQi D vwCl 26 h (eM ca h) sz (fun r f1 L1 Q1 => True ∧ ((r = 30 ∧ (x1.toInt = 11 ∧ 0 ≤ x0.toInt ∧ x0.toInt ≤ 2)) ∨ (r = 1 ∧ (x1.toInt = 9 ∧ 0 ≤ x0.toInt ∧ x0.toInt ≤ 2)) ∨ (r = 0 ∧ (x1.toInt = 8 ∧ 0 ≤ x0.toInt ∧ x0.toInt ≤ 2)) ∨ (r = 3 ∧ (x1.toInt = 10 ∧ x0.toInt = 0)) ∨ (r = (-1) ∧ (¬ (x1.toInt = 11 ∧ 0 ≤ x0.toInt ∧ x0.toInt ≤ 2) ∧ ¬ (x1.toInt = 9 ∧ 0 ≤ x0.toInt ∧ x0.toInt ≤ 2) ∧ ¬ (x1.toInt = 8 ∧ 0 ≤ x0.toInt ∧ x0.toInt ≤ 2) ∧ ¬ (x1.toInt = 10 ∧ x0.toInt = 0)))))) 0 0 (sgA 26 h sz) := by
  refine sg_ofWi (cc := cX12_of) (maxL := 4) RX12 (by decide) rfl rfl (Nat.le_of_ble_eq_true rfl) ?_
  intro p e s m below meth cd Qz ls hx hb hml hown hts hK hZ hP hS hl hret
  have hA := sgY.self (n := 26) (h := h) (sz := s.heap.size)
  have hl : lv_has ls 4 [(0, .ref (h 0)), (1, .int x0), (2, .int x1)] := hl
  obtain ⟨H, hH⟩ : ∃ z : Heap, z = s.heap := ⟨_, rfl⟩
  obtain ⟨locs, hlo⟩ : ∃ z : List Loc, z = [] := ⟨_, rfl⟩
  have hP : va_P D vwCl (sgw 26 h (eM ca h) f0M L0 Q0) H := by rw [hH]; exact hP
  have hS : va_S (sgA 26 h s.heap.size) s.heap H locs := by rw [hH, hlo]; exact hS
  suffices hgo : W p l e ({ frames := 3, cells := 0, slots := 0, locals := 69 }) s m ([.ref (h 0), .int x0, .int x1] : List Value).toArray below meth cd H locs 0 0 Qz (F0 m 0 ls []) by rw [hH, hlo] at hgo; exact hgo
  refine lv_iload_n hx hb dX12_of_0 rfl (lv_at hl 2 rfl) ?_
  refine lv_bipush (v := 11) hx hb dX12_of_1 (by decide) ?_
  refine lv_icmp_ne (tgt := 24) hx hb dX12_of_3 (by decide) (fun c => ?_) (fun c => ?_)
  · skip
    have c_1 : x1.toInt ≠ 11 := (by have z := bn_ne c; have k1 : (11 : Int32).toInt = 11 := (by decide); omega)
    refine lv_aload_n hx hb dX12_of_24 rfl (lv_at hl 0 rfl) ?_
    refine lv_iload_n hx hb dX12_of_25 rfl (lv_at hl 1 rfl) ?_
    refine lv_iload_n hx hb dX12_of_26 rfl (lv_at hl 2 rfl) ?_
    refine sg_calli (va_runV (As := [.int x0, .int x1]) (rest := []) ⟨hx, hb, hml, hown, hts⟩ (cf_X12_placeOf l D ca za h hh f0M L0 Q0 x0 x1 rfl H.size) (cwV 2 hts (gw_V (fun _ h => List.mem_cons_of_mem _ h) mw_259 mw_260 mw_261 mw_217 mw_258) rfl rfl rfl (by decide +kernel) ⟨Nat.le_of_ble_eq_true rfl, Nat.le_of_ble_eq_true rfl⟩) (sg_preV (ci := 12) (C := RX12) (T := TX12) (N := 55) hA hK hP hS hZ 0 (by decide) rfl rfl) rfl rfl hl.1 rfl (lv_room (Nat.le_of_ble_eq_true rfl)) dX12_of_27 ⟨Nat.le_refl _, Nat.le_refl _⟩) hA hS (fun r_6 f_3 L_4 Q_5 H locs hq hP hS => ?_)
    obtain ⟨⟨ef9, eL9, eQ9⟩, hq⟩ := hq
    rw [ef9, eL9, eQ9] at hP; clear ef9 eL9 eQ9
    rcases hq with ⟨rfl, hq⟩ | ⟨rfl, hq⟩ | ⟨rfl, hq⟩ | ⟨rfl, hq⟩ | ⟨rfl, hq⟩ | ⟨rfl, hq⟩ | ⟨rfl, hq⟩ | ⟨rfl, hq⟩
    · skip
      have q_7 := hq
      refine lv_istore_n (lv' := [(3, .int (-1)), (0, .ref (h 0)), (1, .int x0), (2, .int x1)]) hx hb dX12_of_30 rfl hl (by decide) rfl (fun ls hl => ?_)
      refine lv_iload_n hx hb dX12_of_31 rfl (lv_at hl 0 rfl) ?_
      refine lv_if_ge (tgt := 39) hx hb dX12_of_32 (by decide) (fun c => absurd c (by decide)) (fun c => ?_)
      refine lv_iconst (v := (-1)) hx hb dX12_of_35 (by decide) ?_
      refine lv_goto (tgt := 45) hx hb dX12_of_36 (by decide) ?_
      exact hret _ _ _ _ (-1) f0M L0 Q0 dX12_of_45 hP hS ⟨trivial, Or.inr (Or.inr (Or.inr (Or.inr (⟨rfl, by omega⟩))))⟩
    · skip
      have q_8 := hq
      have k_9 : (8 : Int32).toInt = 8 := (by decide)
      obtain rfl : x1 = 8 := Int32.toInt_inj.mp (by omega)
      have k_10 : (0 : Int32).toInt = 0 := (by decide)
      obtain rfl : x0 = 0 := Int32.toInt_inj.mp (by omega)
      refine lv_istore_n (lv' := [(3, .int 64), (0, .ref (h 0)), (1, .int 0), (2, .int 8)]) hx hb dX12_of_30 rfl hl (by decide) rfl (fun ls hl => ?_)
      refine lv_iload_n hx hb dX12_of_31 rfl (lv_at hl 0 rfl) ?_
      refine lv_if_ge (tgt := 39) hx hb dX12_of_32 (by decide) (fun c => ?_) (fun c => absurd c (by decide))
      refine lv_aload_n hx hb dX12_of_39 rfl (lv_at hl 1 rfl) ?_
      refine sg_get (ci := 12) (v := .ref (h 1)) (C := RX12) (T := TX12) (N := 55) hx hb hts (fun w h => List.mem_cons_of_mem _ (gx_12 w h)) hown hK hP 0 (by decide) rfl rfl 0 (by decide) (hts _ (List.mem_cons_of_mem _ mw_244)) (fun _ h9 => h9) rfl dX12_of_40 ?_
      refine lv_iload_n hx hb dX12_of_43 rfl (lv_at hl 0 rfl) ?_
      refine sg_iald hx hb hK hP 1 (by decide) 0 rfl rfl (i := 64) (vp_in_iff.mpr (by decide)) dX12_of_44 ?_
      refine W.eq (g2 := F0 m 45 ls [.int 0]) (by rw [show f0M 1 (Int32.toNatClampNeg 64) = 0 from rfl]) ?_
      exact hret _ _ _ _ (0) f0M L0 Q0 dX12_of_45 hP hS ⟨trivial, Or.inr (Or.inr (Or.inl ⟨rfl, by omega⟩))⟩
    · skip
      have q_11 := hq
      have k_12 : (8 : Int32).toInt = 8 := (by decide)
      obtain rfl : x1 = 8 := Int32.toInt_inj.mp (by omega)
      have k_13 : (1 : Int32).toInt = 1 := (by decide)
      obtain rfl : x0 = 1 := Int32.toInt_inj.mp (by omega)
      refine lv_istore_n (lv' := [(3, .int 65), (0, .ref (h 0)), (1, .int 1), (2, .int 8)]) hx hb dX12_of_30 rfl hl (by decide) rfl (fun ls hl => ?_)
      refine lv_iload_n hx hb dX12_of_31 rfl (lv_at hl 0 rfl) ?_
      refine lv_if_ge (tgt := 39) hx hb dX12_of_32 (by decide) (fun c => ?_) (fun c => absurd c (by decide))
      refine lv_aload_n hx hb dX12_of_39 rfl (lv_at hl 1 rfl) ?_
      refine sg_get (ci := 12) (v := .ref (h 1)) (C := RX12) (T := TX12) (N := 55) hx hb hts (fun w h => List.mem_cons_of_mem _ (gx_12 w h)) hown hK hP 0 (by decide) rfl rfl 0 (by decide) (hts _ (List.mem_cons_of_mem _ mw_244)) (fun _ h9 => h9) rfl dX12_of_40 ?_
      refine lv_iload_n hx hb dX12_of_43 rfl (lv_at hl 0 rfl) ?_
      refine sg_iald hx hb hK hP 1 (by decide) 0 rfl rfl (i := 65) (vp_in_iff.mpr (by decide)) dX12_of_44 ?_
      refine W.eq (g2 := F0 m 45 ls [.int 0]) (by rw [show f0M 1 (Int32.toNatClampNeg 65) = 0 from rfl]) ?_
      exact hret _ _ _ _ (0) f0M L0 Q0 dX12_of_45 hP hS ⟨trivial, Or.inr (Or.inr (Or.inl ⟨rfl, by omega⟩))⟩
    · skip
      have q_14 := hq
      have k_15 : (8 : Int32).toInt = 8 := (by decide)
      obtain rfl : x1 = 8 := Int32.toInt_inj.mp (by omega)
      have k_16 : (2 : Int32).toInt = 2 := (by decide)
      obtain rfl : x0 = 2 := Int32.toInt_inj.mp (by omega)
      refine lv_istore_n (lv' := [(3, .int 66), (0, .ref (h 0)), (1, .int 2), (2, .int 8)]) hx hb dX12_of_30 rfl hl (by decide) rfl (fun ls hl => ?_)
      refine lv_iload_n hx hb dX12_of_31 rfl (lv_at hl 0 rfl) ?_
      refine lv_if_ge (tgt := 39) hx hb dX12_of_32 (by decide) (fun c => ?_) (fun c => absurd c (by decide))
      refine lv_aload_n hx hb dX12_of_39 rfl (lv_at hl 1 rfl) ?_
      refine sg_get (ci := 12) (v := .ref (h 1)) (C := RX12) (T := TX12) (N := 55) hx hb hts (fun w h => List.mem_cons_of_mem _ (gx_12 w h)) hown hK hP 0 (by decide) rfl rfl 0 (by decide) (hts _ (List.mem_cons_of_mem _ mw_244)) (fun _ h9 => h9) rfl dX12_of_40 ?_
      refine lv_iload_n hx hb dX12_of_43 rfl (lv_at hl 0 rfl) ?_
      refine sg_iald hx hb hK hP 1 (by decide) 0 rfl rfl (i := 66) (vp_in_iff.mpr (by decide)) dX12_of_44 ?_
      refine W.eq (g2 := F0 m 45 ls [.int 0]) (by rw [show f0M 1 (Int32.toNatClampNeg 66) = 0 from rfl]) ?_
      exact hret _ _ _ _ (0) f0M L0 Q0 dX12_of_45 hP hS ⟨trivial, Or.inr (Or.inr (Or.inl ⟨rfl, by omega⟩))⟩
    · skip
      have q_17 := hq
      have k_18 : (9 : Int32).toInt = 9 := (by decide)
      obtain rfl : x1 = 9 := Int32.toInt_inj.mp (by omega)
      have k_19 : (0 : Int32).toInt = 0 := (by decide)
      obtain rfl : x0 = 0 := Int32.toInt_inj.mp (by omega)
      refine lv_istore_n (lv' := [(3, .int 67), (0, .ref (h 0)), (1, .int 0), (2, .int 9)]) hx hb dX12_of_30 rfl hl (by decide) rfl (fun ls hl => ?_)
      refine lv_iload_n hx hb dX12_of_31 rfl (lv_at hl 0 rfl) ?_
      refine lv_if_ge (tgt := 39) hx hb dX12_of_32 (by decide) (fun c => ?_) (fun c => absurd c (by decide))
      refine lv_aload_n hx hb dX12_of_39 rfl (lv_at hl 1 rfl) ?_
      refine sg_get (ci := 12) (v := .ref (h 1)) (C := RX12) (T := TX12) (N := 55) hx hb hts (fun w h => List.mem_cons_of_mem _ (gx_12 w h)) hown hK hP 0 (by decide) rfl rfl 0 (by decide) (hts _ (List.mem_cons_of_mem _ mw_244)) (fun _ h9 => h9) rfl dX12_of_40 ?_
      refine lv_iload_n hx hb dX12_of_43 rfl (lv_at hl 0 rfl) ?_
      refine sg_iald hx hb hK hP 1 (by decide) 0 rfl rfl (i := 67) (vp_in_iff.mpr (by decide)) dX12_of_44 ?_
      refine W.eq (g2 := F0 m 45 ls [.int 1]) (by rw [show f0M 1 (Int32.toNatClampNeg 67) = 1 from rfl]) ?_
      exact hret _ _ _ _ (1) f0M L0 Q0 dX12_of_45 hP hS ⟨trivial, Or.inr (Or.inl ⟨rfl, by omega⟩)⟩
    · skip
      have q_20 := hq
      have k_21 : (9 : Int32).toInt = 9 := (by decide)
      obtain rfl : x1 = 9 := Int32.toInt_inj.mp (by omega)
      have k_22 : (1 : Int32).toInt = 1 := (by decide)
      obtain rfl : x0 = 1 := Int32.toInt_inj.mp (by omega)
      refine lv_istore_n (lv' := [(3, .int 68), (0, .ref (h 0)), (1, .int 1), (2, .int 9)]) hx hb dX12_of_30 rfl hl (by decide) rfl (fun ls hl => ?_)
      refine lv_iload_n hx hb dX12_of_31 rfl (lv_at hl 0 rfl) ?_
      refine lv_if_ge (tgt := 39) hx hb dX12_of_32 (by decide) (fun c => ?_) (fun c => absurd c (by decide))
      refine lv_aload_n hx hb dX12_of_39 rfl (lv_at hl 1 rfl) ?_
      refine sg_get (ci := 12) (v := .ref (h 1)) (C := RX12) (T := TX12) (N := 55) hx hb hts (fun w h => List.mem_cons_of_mem _ (gx_12 w h)) hown hK hP 0 (by decide) rfl rfl 0 (by decide) (hts _ (List.mem_cons_of_mem _ mw_244)) (fun _ h9 => h9) rfl dX12_of_40 ?_
      refine lv_iload_n hx hb dX12_of_43 rfl (lv_at hl 0 rfl) ?_
      refine sg_iald hx hb hK hP 1 (by decide) 0 rfl rfl (i := 68) (vp_in_iff.mpr (by decide)) dX12_of_44 ?_
      refine W.eq (g2 := F0 m 45 ls [.int 1]) (by rw [show f0M 1 (Int32.toNatClampNeg 68) = 1 from rfl]) ?_
      exact hret _ _ _ _ (1) f0M L0 Q0 dX12_of_45 hP hS ⟨trivial, Or.inr (Or.inl ⟨rfl, by omega⟩)⟩
    · skip
      have q_23 := hq
      have k_24 : (9 : Int32).toInt = 9 := (by decide)
      obtain rfl : x1 = 9 := Int32.toInt_inj.mp (by omega)
      have k_25 : (2 : Int32).toInt = 2 := (by decide)
      obtain rfl : x0 = 2 := Int32.toInt_inj.mp (by omega)
      refine lv_istore_n (lv' := [(3, .int 69), (0, .ref (h 0)), (1, .int 2), (2, .int 9)]) hx hb dX12_of_30 rfl hl (by decide) rfl (fun ls hl => ?_)
      refine lv_iload_n hx hb dX12_of_31 rfl (lv_at hl 0 rfl) ?_
      refine lv_if_ge (tgt := 39) hx hb dX12_of_32 (by decide) (fun c => ?_) (fun c => absurd c (by decide))
      refine lv_aload_n hx hb dX12_of_39 rfl (lv_at hl 1 rfl) ?_
      refine sg_get (ci := 12) (v := .ref (h 1)) (C := RX12) (T := TX12) (N := 55) hx hb hts (fun w h => List.mem_cons_of_mem _ (gx_12 w h)) hown hK hP 0 (by decide) rfl rfl 0 (by decide) (hts _ (List.mem_cons_of_mem _ mw_244)) (fun _ h9 => h9) rfl dX12_of_40 ?_
      refine lv_iload_n hx hb dX12_of_43 rfl (lv_at hl 0 rfl) ?_
      refine sg_iald hx hb hK hP 1 (by decide) 0 rfl rfl (i := 69) (vp_in_iff.mpr (by decide)) dX12_of_44 ?_
      refine W.eq (g2 := F0 m 45 ls [.int 1]) (by rw [show f0M 1 (Int32.toNatClampNeg 69) = 1 from rfl]) ?_
      exact hret _ _ _ _ (1) f0M L0 Q0 dX12_of_45 hP hS ⟨trivial, Or.inr (Or.inl ⟨rfl, by omega⟩)⟩
    · skip
      have q_26 := hq
      have k_27 : (10 : Int32).toInt = 10 := (by decide)
      obtain rfl : x1 = 10 := Int32.toInt_inj.mp (by omega)
      have k_28 : (0 : Int32).toInt = 0 := (by decide)
      obtain rfl : x0 = 0 := Int32.toInt_inj.mp (by omega)
      refine lv_istore_n (lv' := [(3, .int 70), (0, .ref (h 0)), (1, .int 0), (2, .int 10)]) hx hb dX12_of_30 rfl hl (by decide) rfl (fun ls hl => ?_)
      refine lv_iload_n hx hb dX12_of_31 rfl (lv_at hl 0 rfl) ?_
      refine lv_if_ge (tgt := 39) hx hb dX12_of_32 (by decide) (fun c => ?_) (fun c => absurd c (by decide))
      refine lv_aload_n hx hb dX12_of_39 rfl (lv_at hl 1 rfl) ?_
      refine sg_get (ci := 12) (v := .ref (h 1)) (C := RX12) (T := TX12) (N := 55) hx hb hts (fun w h => List.mem_cons_of_mem _ (gx_12 w h)) hown hK hP 0 (by decide) rfl rfl 0 (by decide) (hts _ (List.mem_cons_of_mem _ mw_244)) (fun _ h9 => h9) rfl dX12_of_40 ?_
      refine lv_iload_n hx hb dX12_of_43 rfl (lv_at hl 0 rfl) ?_
      refine sg_iald hx hb hK hP 1 (by decide) 0 rfl rfl (i := 70) (vp_in_iff.mpr (by decide)) dX12_of_44 ?_
      refine W.eq (g2 := F0 m 45 ls [.int 3]) (by rw [show f0M 1 (Int32.toNatClampNeg 70) = 3 from rfl]) ?_
      exact hret _ _ _ _ (3) f0M L0 Q0 dX12_of_45 hP hS ⟨trivial, Or.inr (Or.inr (Or.inr (Or.inl ⟨rfl, by omega⟩)))⟩
  · skip
    have c_2 : x1.toInt = 11 := (by have z := Int32.toInt_inj.mpr c; have k1 : (11 : Int32).toInt = 11 := (by decide); omega)
    refine lv_iload_n hx hb dX12_of_6 rfl (lv_at hl 1 rfl) ?_
    refine sg_calli (va_runS (As := [.int x0]) (rest := []) ⟨hx, hb, hml, hown, hts⟩ (cf_X12_isPart l D ca za h hh f0M L0 Q0 x0 H.size) (va_cwS 1 hts (gw_S (fun _ h => List.mem_cons_of_mem _ h) mw_235 mw_236 mw_217 mw_234) rfl rfl rfl (by decide +kernel) ⟨Nat.le_of_ble_eq_true rfl, Nat.le_of_ble_eq_true rfl⟩) (sg_preS hA hK hP hS hZ) rfl rfl hl.1 rfl (lv_room (Nat.le_of_ble_eq_true rfl)) dX12_of_7 ⟨Nat.le_refl _, Nat.le_refl _⟩) hA hS (fun r_32 f_29 L_30 Q_31 H locs hq hP hS => ?_)
    obtain ⟨⟨ef9, eL9, eQ9⟩, hq⟩ := hq
    rw [ef9, eL9, eQ9] at hP; clear ef9 eL9 eQ9
    rcases hq with ⟨rfl, hq⟩ | ⟨rfl, hq⟩
    · skip
      have q_33 := hq
      refine lv_if_eq (tgt := 22) hx hb dX12_of_10 (by decide) (fun c => absurd c (by decide)) (fun c => ?_)
      refine lv_aload_n hx hb dX12_of_13 rfl (lv_at hl 0 rfl) ?_
      refine sg_get (ci := 12) (v := .ref (h 5)) (C := RX12) (T := TX12) (N := 55) hx hb hts (fun w h => List.mem_cons_of_mem _ (gx_12 w h)) hown hK hP 0 (by decide) rfl rfl 7 (by decide) (hts _ (List.mem_cons_of_mem _ mw_269)) (fun _ h9 => h9) rfl dX12_of_14 ?_
      refine lv_iload_n hx hb dX12_of_17 rfl (lv_at hl 1 rfl) ?_
      refine sg_iald hx hb hK hP 5 (by decide) 0 rfl rfl (i := x0) (vp_in_iff.mpr ⟨by omega, by omega⟩) dX12_of_18 ?_
      refine lv_topi (fun v_34 ev_34 => ?_)
      have q_35 : v_34.toInt = 30 := by rw [ev_34, f0M_st (by omega) (by omega)]; decide
      refine lv_goto (tgt := 23) hx hb dX12_of_19 (by decide) ?_
      exact hret _ _ _ _ (v_34) f0M L0 Q0 dX12_of_23 hP hS ⟨trivial, (by first | exact Or.inl ⟨Int32.toInt_inj.mp (by have k9 : (30 : Int32).toInt = 30 := (by decide); omega), by omega⟩ | exact Or.inr (Or.inl ⟨Int32.toInt_inj.mp (by have k9 : (1 : Int32).toInt = 1 := (by decide); omega), by omega⟩) | exact Or.inr (Or.inr (Or.inl ⟨Int32.toInt_inj.mp (by have k9 : (0 : Int32).toInt = 0 := (by decide); omega), by omega⟩)) | exact Or.inr (Or.inr (Or.inr (Or.inl ⟨Int32.toInt_inj.mp (by have k9 : (3 : Int32).toInt = 3 := (by decide); omega), by omega⟩))) | exact Or.inr (Or.inr (Or.inr (Or.inr (⟨Int32.toInt_inj.mp (by have k9 : ((-1) : Int32).toInt = (-1) := (by decide); omega), by omega⟩)))))⟩
    · skip
      have q_36 := hq
      refine lv_if_eq (tgt := 22) hx hb dX12_of_10 (by decide) (fun c => ?_) (fun c => absurd c (by decide))
      refine lv_iconst (v := (-1)) hx hb dX12_of_22 (by decide) ?_
      exact hret _ _ _ _ (-1) f0M L0 Q0 dX12_of_23 hP hS ⟨trivial, Or.inr (Or.inr (Or.inr (Or.inr (⟨rfl, by omega⟩))))⟩

set_option maxHeartbeats 4000000 in
set_option maxRecDepth 100000 in
theorem cf_X12_feed (l : Launch) (D : va_G) (ca : Nat → ClassId) (za h : Nat → Nat) (hh : sgH 26 h) (x0 : Int32) (sz : Nat) : Met l yX12_feed gwX12_feed { frames := 1, cells := 0, slots := 0, locals := 25 } (sgP D vwCl (tyX ca) 26 h (eM ca h) zcM za f0M L0 Q0 sz [.ref (h 0), .int x0]) (sgQi D vwCl 26 h (eM ca h) sz (fun r f1 L1 Q1 => True ∧ ((r = 1 ∧ (0 ≤ x0.toInt ∧ x0.toInt ≤ 255)) ∨ (r = (-1) ∧ (¬ (0 ≤ x0.toInt ∧ x0.toInt ≤ 255)))))) 0 0 (sgA 26 h sz) := by
  refine sg_ofWi (cc := cX12_feed) (maxL := 2) RX12 (by decide) rfl rfl (Nat.le_of_ble_eq_true rfl) ?_
  intro p e s m below meth cd Qz ls hx hb hml hown hts hK hZ hP hS hl hret
  have hA := sgY.self (n := 26) (h := h) (sz := s.heap.size)
  have hl : lv_has ls 2 [(0, .ref (h 0)), (1, .int x0)] := hl
  obtain ⟨H, hH⟩ : ∃ z : Heap, z = s.heap := ⟨_, rfl⟩
  obtain ⟨locs, hlo⟩ : ∃ z : List Loc, z = [] := ⟨_, rfl⟩
  have hP : va_P D vwCl (sgw 26 h (eM ca h) f0M L0 Q0) H := by rw [hH]; exact hP
  have hS : va_S (sgA 26 h s.heap.size) s.heap H locs := by rw [hH, hlo]; exact hS
  suffices hgo : W p l e ({ frames := 1, cells := 0, slots := 0, locals := 25 }) s m ([.ref (h 0), .int x0] : List Value).toArray below meth cd H locs 0 0 Qz (F0 m 0 ls []) by rw [hH, hlo] at hgo; exact hgo
  refine lv_iload_n hx hb dX12_feed_0 rfl (lv_at hl 1 rfl) ?_
  obtain ⟨w_1, ew_1⟩ : ∃ z : Int64, z = x0.toInt64 := ⟨_, rfl⟩
  have q_2 : w_1.toInt = x0.toInt := by rw [ew_1]; exact Int32.toInt_toInt64 _
  refine lv_i2l (v := w_1) hx hb dX12_feed_1 ew_1.symm ?_
  refine lv_lconst (v := 0) hx hb dX12_feed_2 (by decide) ?_
  refine lv_ldc2 (v := 255) hx hb hown (hts _ (List.mem_cons_of_mem _ mw_270)) dX12_feed_3 ?_
  refine sg_calli (va_runS (As := [.long w_1, .long 0, .long 255]) (rest := []) ⟨hx, hb, hml, hown, hts⟩ (cf_X12_within l D ca za h hh f0M L0 Q0 w_1 0 255 H.size) (va_cwS 3 hts (gw_S (fun _ h => List.mem_cons_of_mem _ h) mw_215 mw_216 mw_217 mw_214) rfl rfl rfl (by decide +kernel) ⟨Nat.le_of_ble_eq_true rfl, Nat.le_of_ble_eq_true rfl⟩) (sg_preS hA hK hP hS hZ) rfl rfl hl.1 rfl (lv_room (Nat.le_of_ble_eq_true rfl)) dX12_feed_6 ⟨Nat.le_refl _, Nat.le_refl _⟩) hA hS (fun r_6 f_3 L_4 Q_5 H locs hq hP hS => ?_)
  obtain ⟨⟨ef9, eL9, eQ9⟩, hq⟩ := hq
  rw [ef9, eL9, eQ9] at hP; clear ef9 eL9 eQ9
  have k_7 : (0 : Int64).toInt = 0 := by decide
  have k_8 : (255 : Int64).toInt = 255 := by decide
  rcases hq with ⟨rfl, hq⟩ | ⟨rfl, hq⟩
  · skip
    have q_9 := hq
    refine lv_if_ne (tgt := 14) hx hb dX12_feed_9 (by decide) (fun c => ?_) (fun c => absurd c (by decide))
    refine lv_aload_n hx hb dX12_feed_14 rfl (lv_at hl 0 rfl) ?_
    refine sg_get (ci := 12) (v := .int 0) (C := RX12) (T := TX12) (N := 55) hx hb hts (fun w h => List.mem_cons_of_mem _ (gx_12 w h)) hown hK hP 0 (by decide) rfl rfl 9 (by decide) (hts _ (List.mem_cons_of_mem _ mw_271)) (fun _ h9 => h9) rfl dX12_feed_15 ?_
    refine lv_bipush (v := 120) hx hb dX12_feed_18 (by decide) ?_
    refine lv_icmp_ne (tgt := 26) hx hb dX12_feed_20 (by decide) (fun c => ?_) (fun c => absurd c (by decide))
    refine lv_aload_n hx hb dX12_feed_26 rfl (lv_at hl 0 rfl) ?_
    refine sg_get (ci := 12) (v := .ref (h 6)) (C := RX12) (T := TX12) (N := 55) hx hb hts (fun w h => List.mem_cons_of_mem _ (gx_12 w h)) hown hK hP 0 (by decide) rfl rfl 8 (by decide) (hts _ (List.mem_cons_of_mem _ mw_272)) (fun _ h9 => h9) rfl dX12_feed_27 ?_
    refine lv_aload_n hx hb dX12_feed_30 rfl (lv_at hl 0 rfl) ?_
    refine sg_get (ci := 12) (v := .int 0) (C := RX12) (T := TX12) (N := 55) hx hb hts (fun w h => List.mem_cons_of_mem _ (gx_12 w h)) hown hK hP 0 (by decide) rfl rfl 9 (by decide) (hts _ (List.mem_cons_of_mem _ mw_271)) (fun _ h9 => h9) rfl dX12_feed_31 ?_
    refine lv_iload_n hx hb dX12_feed_34 rfl (lv_at hl 1 rfl) ?_
    refine sg_iast hx hb hh hA hK hP hS 6 (by decide) 0 (fun _ => rfl) rfl (i := 0) (x := x0) (vp_in_iff.mpr (by decide)) dX12_feed_35 (fun f_10 H locs ef_10 hP hS => ?_)
    refine lv_aload_n hx hb dX12_feed_36 rfl (lv_at hl 0 rfl) ?_
    refine lv_dup hx hb dX12_feed_37 rfl ?_
    refine sg_get (ci := 12) (v := .int 0) (C := RX12) (T := TX12) (N := 55) hx hb hts (fun w h => List.mem_cons_of_mem _ (gx_12 w h)) hown hK hP 0 (by decide) rfl rfl 9 (by decide) (hts _ (List.mem_cons_of_mem _ mw_271)) (fun _ h9 => h9) (congrArg (fun z => some (Value.int z)) (show f_10 0 9 = 0 from (by rw [ef_10]; exact rfl))) dX12_feed_38 ?_
    refine lv_iconst (v := 1) hx hb dX12_feed_41 (by decide) ?_
    refine lv_iadd hx hb dX12_feed_42 ?_
    refine W.eq (g2 := F0 m 43 ls [.int 1, .ref (h 0)]) (by rw [show (0 + 1 : Int32) = 1 from by decide]) ?_
    refine sg_put (ci := 12) (x := 1) (ty := .int) (C := RX12) (T := TX12) (N := 55) hx hb hts (fun w h => List.mem_cons_of_mem _ (gx_12 w h)) tyX12 tyX12_ok nmX12 hown hh hA hK hP hS 0 (by decide) rfl rfl 9 (by decide) (hts _ (List.mem_cons_of_mem _ mw_271)) (fun _ h9 => h9) rfl rfl (by decide +kernel) rfl rfl (Nat.le_of_ble_eq_true rfl) dX12_feed_43 (fun f_11 H locs ef_11 hP hS => ?_)
    refine lv_aload_n hx hb dX12_feed_46 rfl (lv_at hl 0 rfl) ?_
    refine sg_get (ci := 12) (v := .int 1) (C := RX12) (T := TX12) (N := 55) hx hb hts (fun w h => List.mem_cons_of_mem _ (gx_12 w h)) hown hK hP 0 (by decide) rfl rfl 9 (by decide) (hts _ (List.mem_cons_of_mem _ mw_271)) (fun _ h9 => h9) (congrArg (fun z => some (Value.int z)) (show f_11 0 9 = 1 from (by rw [ef_11]; rfl))) dX12_feed_47 ?_
    exact hret _ _ _ _ (1) f_11 L0 Q0 dX12_feed_50 hP hS ⟨trivial, Or.inl ⟨rfl, by omega⟩⟩
  · skip
    have q_12 := hq
    refine lv_if_ne (tgt := 14) hx hb dX12_feed_9 (by decide) (fun c => absurd c (by decide)) (fun c => ?_)
    refine lv_iconst (v := (-1)) hx hb dX12_feed_12 (by decide) ?_
    exact hret _ _ _ _ (-1) f0M L0 Q0 dX12_feed_13 hP hS ⟨trivial, Or.inr (⟨rfl, by omega⟩)⟩

set_option maxHeartbeats 4000000 in
set_option maxRecDepth 100000 in
theorem cf_X12_byteAt (l : Launch) (D : va_G) (ca : Nat → ClassId) (za h : Nat → Nat) (hh : sgH 26 h) (f : sg_F) (L : sg_L) (Q : sg_Q) (ha : f 0 13 = 0) (he : f 0 14 = 0) (ht : f 0 9 = 0) (sz : Nat) : Met l yX12_byteAt gwX12_byteAt { frames := 0, cells := 0, slots := 0, locals := 0 } (sgP D vwCl (tyX ca) 26 h (eM ca h) zcM za f L Q sz [.ref (h 0)]) (sgQi D vwCl 26 h (eM ca h) sz (fun r f1 L1 Q1 => (f1 = f ∧ L1 = L ∧ Q1 = Q) ∧ ((r = 0 ∧ (True))))) 0 0 (sgA 26 h sz) := by
  refine sg_ofWi (cc := cX12_byteAt) (maxL := 1) RX12 (by decide) rfl rfl (Nat.le_of_ble_eq_true rfl) ?_
  intro p e s m below meth cd Qz ls hx hb hml hown hts hK hZ hP hS hl hret
  have hA := sgY.self (n := 26) (h := h) (sz := s.heap.size)
  have hl : lv_has ls 1 [(0, .ref (h 0))] := hl
  obtain ⟨H, hH⟩ : ∃ z : Heap, z = s.heap := ⟨_, rfl⟩
  obtain ⟨locs, hlo⟩ : ∃ z : List Loc, z = [] := ⟨_, rfl⟩
  have hP : va_P D vwCl (sgw 26 h (eM ca h) f L Q) H := by rw [hH]; exact hP
  have hS : va_S (sgA 26 h s.heap.size) s.heap H locs := by rw [hH, hlo]; exact hS
  suffices hgo : W p l e ({ frames := 0, cells := 0, slots := 0, locals := 0 }) s m ([.ref (h 0)] : List Value).toArray below meth cd H locs 0 0 Qz (F0 m 0 ls []) by rw [hH, hlo] at hgo; exact hgo
  refine lv_aload_n hx hb dX12_byteAt_0 rfl (lv_at hl 0 rfl) ?_
  refine sg_get (ci := 12) (v := .int 0) (C := RX12) (T := TX12) (N := 55) hx hb hts (fun w h => List.mem_cons_of_mem _ (gx_12 w h)) hown hK hP 0 (by decide) rfl rfl 13 (by decide) (hts _ (List.mem_cons_of_mem _ mw_273)) (fun _ h9 => h9) (congrArg (fun z => some (Value.int z)) (show f 0 13 = 0 from ha)) dX12_byteAt_1 ?_
  refine lv_aload_n hx hb dX12_byteAt_4 rfl (lv_at hl 0 rfl) ?_
  refine sg_get (ci := 12) (v := .int 0) (C := RX12) (T := TX12) (N := 55) hx hb hts (fun w h => List.mem_cons_of_mem _ (gx_12 w h)) hown hK hP 0 (by decide) rfl rfl 14 (by decide) (hts _ (List.mem_cons_of_mem _ mw_274)) (fun _ h9 => h9) (congrArg (fun z => some (Value.int z)) (show f 0 14 = 0 from he)) dX12_byteAt_5 ?_
  refine lv_icmp_ge (tgt := 47) hx hb dX12_byteAt_8 (by decide) (fun c => ?_) (fun c => absurd c (by decide))
  refine lv_iconst (v := 0) hx hb dX12_byteAt_47 (by decide) ?_
  exact hret _ _ _ _ (0) f L Q dX12_byteAt_48 hP hS ⟨⟨rfl, rfl, rfl⟩, ⟨rfl, trivial⟩⟩

set_option maxHeartbeats 4000000 in
set_option maxRecDepth 100000 in
theorem cf_X12_wrong (l : Launch) (D : va_G) (ca : Nat → ClassId) (za h : Nat → Nat) (hh : sgH 26 h) (f : sg_F) (L : sg_L) (Q : sg_Q) (ha : f 0 13 = 0) (he : f 0 14 = 0) (ht : f 0 9 = 0) (hf : f 0 15 = (-1)) (sz : Nat) : Met l yX12_wrong gwX12_wrong { frames := 0, cells := 0, slots := 0, locals := 0 } (sgP D vwCl (tyX ca) 26 h (eM ca h) zcM za f L Q sz [.ref (h 0)]) (sgQi D vwCl 26 h (eM ca h) sz (fun r f1 L1 Q1 => (f1 0 13 = 0 ∧ f1 0 14 = 0 ∧ f1 0 9 = 0 ∧ f1 0 15 = 0) ∧ ((r = 0 ∧ (True))))) 0 0 (sgA 26 h sz) := by
  refine sg_ofWi (cc := cX12_wrong) (maxL := 1) RX12 (by decide) rfl rfl (Nat.le_of_ble_eq_true rfl) ?_
  intro p e s m below meth cd Qz ls hx hb hml hown hts hK hZ hP hS hl hret
  have hA := sgY.self (n := 26) (h := h) (sz := s.heap.size)
  have hl : lv_has ls 1 [(0, .ref (h 0))] := hl
  obtain ⟨H, hH⟩ : ∃ z : Heap, z = s.heap := ⟨_, rfl⟩
  obtain ⟨locs, hlo⟩ : ∃ z : List Loc, z = [] := ⟨_, rfl⟩
  have hP : va_P D vwCl (sgw 26 h (eM ca h) f L Q) H := by rw [hH]; exact hP
  have hS : va_S (sgA 26 h s.heap.size) s.heap H locs := by rw [hH, hlo]; exact hS
  suffices hgo : W p l e ({ frames := 0, cells := 0, slots := 0, locals := 0 }) s m ([.ref (h 0)] : List Value).toArray below meth cd H locs 0 0 Qz (F0 m 0 ls []) by rw [hH, hlo] at hgo; exact hgo
  refine lv_aload_n hx hb dX12_wrong_0 rfl (lv_at hl 0 rfl) ?_
  refine lv_aload_n hx hb dX12_wrong_1 rfl (lv_at hl 0 rfl) ?_
  refine sg_get (ci := 12) (v := .int (-1)) (C := RX12) (T := TX12) (N := 55) hx hb hts (fun w h => List.mem_cons_of_mem _ (gx_12 w h)) hown hK hP 0 (by decide) rfl rfl 15 (by decide) (hts _ (List.mem_cons_of_mem _ mw_275)) (fun _ h9 => h9) (congrArg (fun z => some (Value.int z)) (show f 0 15 = (-1) from hf)) dX12_wrong_2 ?_
  refine lv_if_ge (tgt := 15) hx hb dX12_wrong_5 (by decide) (fun c => absurd c (by decide)) (fun c => ?_)
  refine lv_aload_n hx hb dX12_wrong_8 rfl (lv_at hl 0 rfl) ?_
  refine sg_get (ci := 12) (v := .int 0) (C := RX12) (T := TX12) (N := 55) hx hb hts (fun w h => List.mem_cons_of_mem _ (gx_12 w h)) hown hK hP 0 (by decide) rfl rfl 13 (by decide) (hts _ (List.mem_cons_of_mem _ mw_273)) (fun _ h9 => h9) (congrArg (fun z => some (Value.int z)) (show f 0 13 = 0 from ha)) dX12_wrong_9 ?_
  refine lv_goto (tgt := 19) hx hb dX12_wrong_12 (by decide) ?_
  refine sg_put (ci := 12) (x := 0) (ty := .int) (C := RX12) (T := TX12) (N := 55) hx hb hts (fun w h => List.mem_cons_of_mem _ (gx_12 w h)) tyX12 tyX12_ok nmX12 hown hh hA hK hP hS 0 (by decide) rfl rfl 15 (by decide) (hts _ (List.mem_cons_of_mem _ mw_275)) (fun _ h9 => h9) rfl rfl (by decide +kernel) rfl rfl (Nat.le_of_ble_eq_true rfl) dX12_wrong_19 (fun f_1 H locs ef_1 hP hS => ?_)
  refine lv_iconst (v := 0) hx hb dX12_wrong_22 (by decide) ?_
  exact hret _ _ _ _ (0) f_1 L Q dX12_wrong_23 hP hS ⟨⟨(show _ = _ from (by rw [ef_1]; exact (show _ = _ from ha))), (show _ = _ from (by rw [ef_1]; exact (show _ = _ from he))), (show _ = _ from (by rw [ef_1]; exact (show _ = _ from ht))), (show _ = _ from (by rw [ef_1]; rfl))⟩, ⟨rfl, trivial⟩⟩

set_option maxHeartbeats 4000000 in
set_option maxRecDepth 100000 in
theorem cf_X12_takes (l : Launch) (D : va_G) (ca : Nat → ClassId) (za h : Nat → Nat) (hh : sgH 26 h) (f : sg_F) (L : sg_L) (Q : sg_Q) (x0 : Int32) (ha : f 0 13 = 0) (he : f 0 14 = 0) (ht : f 0 9 = 0) (hf : f 0 15 = 0) (sz : Nat) : Met l yX12_takes gwX12_takes { frames := 0, cells := 0, slots := 0, locals := 0 } (sgP D vwCl (tyX ca) 26 h (eM ca h) zcM za f L Q sz [.ref (h 0), .int x0]) (sgQi D vwCl 26 h (eM ca h) sz (fun r f1 L1 Q1 => (f1 = f ∧ L1 = L ∧ Q1 = Q) ∧ ((r = 0 ∧ (True))))) 0 0 (sgA 26 h sz) := by
  refine sg_ofWz (cc := cX12_takes) (maxL := 2) RX12 (by decide) rfl rfl (Nat.le_of_ble_eq_true rfl) ?_
  intro p e s m below meth cd Qz ls hx hb hml hown hts hK hZ hP hS hl hret
  have hA := sgY.self (n := 26) (h := h) (sz := s.heap.size)
  have hl : lv_has ls 2 [(0, .ref (h 0)), (1, .int x0)] := hl
  obtain ⟨H, hH⟩ : ∃ z : Heap, z = s.heap := ⟨_, rfl⟩
  obtain ⟨locs, hlo⟩ : ∃ z : List Loc, z = [] := ⟨_, rfl⟩
  have hP : va_P D vwCl (sgw 26 h (eM ca h) f L Q) H := by rw [hH]; exact hP
  have hS : va_S (sgA 26 h s.heap.size) s.heap H locs := by rw [hH, hlo]; exact hS
  suffices hgo : W p l e ({ frames := 0, cells := 0, slots := 0, locals := 0 }) s m ([.ref (h 0), .int x0] : List Value).toArray below meth cd H locs 0 0 Qz (F0 m 0 ls []) by rw [hH, hlo] at hgo; exact hgo
  refine lv_aload_n hx hb dX12_takes_0 rfl (lv_at hl 0 rfl) ?_
  refine sg_get (ci := 12) (v := .int 0) (C := RX12) (T := TX12) (N := 55) hx hb hts (fun w h => List.mem_cons_of_mem _ (gx_12 w h)) hown hK hP 0 (by decide) rfl rfl 15 (by decide) (hts _ (List.mem_cons_of_mem _ mw_275)) (fun _ h9 => h9) (congrArg (fun z => some (Value.int z)) (show f 0 15 = 0 from hf)) dX12_takes_1 ?_
  refine lv_if_ge (tgt := 15) hx hb dX12_takes_4 (by decide) (fun c => ?_) (fun c => absurd c (by decide))
  refine lv_iconst (v := 0) hx hb dX12_takes_15 (by decide) ?_
  exact hret _ _ _ _ (0) f L Q dX12_takes_16 (by decide) hP hS ⟨⟨rfl, rfl, rfl⟩, ⟨rfl, trivial⟩⟩

set_option maxHeartbeats 4000000 in
set_option maxRecDepth 100000 in
theorem cf_X12_nameOf (l : Launch) (D : va_G) (ca : Nat → ClassId) (za h : Nat → Nat) (hh : sgH 26 h) (f : sg_F) (L : sg_L) (Q : sg_Q) (sz : Nat) : Met l yX12_nameOf gwX12_nameOf { frames := 0, cells := 0, slots := 0, locals := 0 } (sgP D vwCl (tyX ca) 26 h (eM ca h) zcM za f L Q sz [.int 0]) (sgQi D vwCl 26 h (eM ca h) sz (fun r f1 L1 Q1 => (f1 = f ∧ L1 = L ∧ Q1 = Q) ∧ ((r = (-1) ∧ (True))))) 0 0 (sgA 26 h sz) := by
  refine sg_ofWi (cc := cX12_nameOf) (maxL := 1) RX12 (by decide) rfl rfl (Nat.le_of_ble_eq_true rfl) ?_
  intro p e s m below meth cd Qz ls hx hb hml hown hts hK hZ hP hS hl hret
  have hA := sgY.self (n := 26) (h := h) (sz := s.heap.size)
  have hl : lv_has ls 1 [(0, .int 0)] := hl
  obtain ⟨H, hH⟩ : ∃ z : Heap, z = s.heap := ⟨_, rfl⟩
  obtain ⟨locs, hlo⟩ : ∃ z : List Loc, z = [] := ⟨_, rfl⟩
  have hP : va_P D vwCl (sgw 26 h (eM ca h) f L Q) H := by rw [hH]; exact hP
  have hS : va_S (sgA 26 h s.heap.size) s.heap H locs := by rw [hH, hlo]; exact hS
  suffices hgo : W p l e ({ frames := 0, cells := 0, slots := 0, locals := 0 }) s m ([.int 0] : List Value).toArray below meth cd H locs 0 0 Qz (F0 m 0 ls []) by rw [hH, hlo] at hgo; exact hgo
  refine lv_iload_n hx hb dX12_nameOf_0 rfl (lv_at hl 0 rfl) ?_
  refine lv_tableOut (x := 0) (tgt := 108) hx hb dX12_nameOf_1 (by decide) (by decide) ?_
  refine lv_iconst (v := (-1)) hx hb dX12_nameOf_108 (by decide) ?_
  exact hret _ _ _ _ (-1) f L Q dX12_nameOf_109 hP hS ⟨⟨rfl, rfl, rfl⟩, ⟨rfl, trivial⟩⟩

set_option maxHeartbeats 4000000 in
set_option maxRecDepth 100000 in
theorem cf_X12_one (l : Launch) (D : va_G) (ca : Nat → ClassId) (za h : Nat → Nat) (hh : sgH 26 h) (f : sg_F) (L : sg_L) (Q : sg_Q) (ha : f 0 13 = 0) (he : f 0 14 = 0) (ht : f 0 9 = 0) (hf : f 0 15 = (-1)) (sz : Nat) : Met l yX12_one gwX12_one { frames := 1, cells := 0, slots := 0, locals := 20 } (sgP D vwCl (tyX ca) 26 h (eM ca h) zcM za f L Q sz [.ref (h 0)]) (sgQi D vwCl 26 h (eM ca h) sz (fun r f1 L1 Q1 => (f1 0 13 = 0 ∧ f1 0 14 = 0 ∧ f1 0 9 = 0 ∧ f1 0 15 = 0) ∧ ((r = 0 ∧ (True))))) 0 0 (sgA 26 h sz) := by
  refine sg_ofWi (cc := cX12_one) (maxL := 5) RX12 (by decide) rfl rfl (Nat.le_of_ble_eq_true rfl) ?_
  intro p e s m below meth cd Qz ls hx hb hml hown hts hK hZ hP hS hl hret
  have hA := sgY.self (n := 26) (h := h) (sz := s.heap.size)
  have hl : lv_has ls 5 [(0, .ref (h 0))] := hl
  obtain ⟨H, hH⟩ : ∃ z : Heap, z = s.heap := ⟨_, rfl⟩
  obtain ⟨locs, hlo⟩ : ∃ z : List Loc, z = [] := ⟨_, rfl⟩
  have hP : va_P D vwCl (sgw 26 h (eM ca h) f L Q) H := by rw [hH]; exact hP
  have hS : va_S (sgA 26 h s.heap.size) s.heap H locs := by rw [hH, hlo]; exact hS
  suffices hgo : W p l e ({ frames := 1, cells := 0, slots := 0, locals := 20 }) s m ([.ref (h 0)] : List Value).toArray below meth cd H locs 0 0 Qz (F0 m 0 ls []) by rw [hH, hlo] at hgo; exact hgo
  refine lv_aload_n hx hb dX12_one_0 rfl (lv_at hl 0 rfl) ?_
  refine sg_get (ci := 12) (v := .int (-1)) (C := RX12) (T := TX12) (N := 55) hx hb hts (fun w h => List.mem_cons_of_mem _ (gx_12 w h)) hown hK hP 0 (by decide) rfl rfl 15 (by decide) (hts _ (List.mem_cons_of_mem _ mw_275)) (fun _ h9 => h9) (congrArg (fun z => some (Value.int z)) (show f 0 15 = (-1) from hf)) dX12_one_1 ?_
  refine lv_if_lt (tgt := 9) hx hb dX12_one_4 (by decide) (fun c => ?_) (fun c => absurd c (by decide))
  refine lv_aload_n hx hb dX12_one_9 rfl (lv_at hl 0 rfl) ?_
  refine sg_calli (va_runV (As := []) (rest := []) ⟨hx, hb, hml, hown, hts⟩ (cf_X12_byteAt l D ca za h hh f L Q (ha) (he) (ht) H.size) (cwV 0 hts (gw_V (fun _ h => List.mem_cons_of_mem _ h) mw_277 mw_278 mw_279 mw_217 mw_276) rfl rfl rfl (by decide +kernel) ⟨Nat.le_of_ble_eq_true rfl, Nat.le_of_ble_eq_true rfl⟩) (sg_preV (ci := 12) (C := RX12) (T := TX12) (N := 55) hA hK hP hS hZ 0 (by decide) rfl rfl) rfl rfl hl.1 rfl (lv_room (Nat.le_of_ble_eq_true rfl)) dX12_one_10 ⟨Nat.le_refl _, Nat.le_refl _⟩) hA hS (fun r_4 f_1 L_2 Q_3 H locs hq hP hS => ?_)
  obtain ⟨⟨ef9, eL9, eQ9⟩, hq⟩ := hq
  rw [ef9, eL9, eQ9] at hP; clear ef9 eL9 eQ9
  obtain ⟨rfl, hq⟩ := hq
  have q_5 := hq
  refine lv_istore_n (lv' := [(1, .int 0), (0, .ref (h 0))]) hx hb dX12_one_13 rfl hl (by decide) rfl (fun ls hl => ?_)
  refine lv_iload_n hx hb dX12_one_14 rfl (lv_at hl 0 rfl) ?_
  refine lv_bipush (v := 33) hx hb dX12_one_15 (by decide) ?_
  refine lv_icmp_eq (tgt := 32) hx hb dX12_one_17 (by decide) (fun c => absurd c (by decide)) (fun c => ?_)
  refine lv_iload_n hx hb dX12_one_20 rfl (lv_at hl 0 rfl) ?_
  refine lv_bipush (v := 45) hx hb dX12_one_21 (by decide) ?_
  refine lv_icmp_eq (tgt := 32) hx hb dX12_one_23 (by decide) (fun c => absurd c (by decide)) (fun c => ?_)
  refine lv_iload_n hx hb dX12_one_26 rfl (lv_at hl 0 rfl) ?_
  refine lv_bipush (v := 40) hx hb dX12_one_27 (by decide) ?_
  refine lv_icmp_ne (tgt := 145) hx hb dX12_one_29 (by decide) (fun c => ?_) (fun c => absurd c (by decide))
  refine lv_iload_n hx hb dX12_one_145 rfl (lv_at hl 0 rfl) ?_
  refine sg_calli (va_runS (As := [.int 0]) (rest := []) ⟨hx, hb, hml, hown, hts⟩ (cf_X12_nameOf l D ca za h hh f L Q H.size) (va_cwS 1 hts (gw_S (fun _ h => List.mem_cons_of_mem _ h) mw_281 mw_282 mw_217 mw_280) rfl rfl rfl (by decide +kernel) ⟨Nat.le_of_ble_eq_true rfl, Nat.le_of_ble_eq_true rfl⟩) (sg_preS hA hK hP hS hZ) rfl rfl hl.1 rfl (lv_room (Nat.le_of_ble_eq_true rfl)) dX12_one_146 ⟨Nat.le_refl _, Nat.le_refl _⟩) hA hS (fun r_9 f_6 L_7 Q_8 H locs hq hP hS => ?_)
  obtain ⟨⟨ef9, eL9, eQ9⟩, hq⟩ := hq
  rw [ef9, eL9, eQ9] at hP; clear ef9 eL9 eQ9
  have k_10 : (0 : Int32).toInt = 0 := by decide
  obtain ⟨rfl, hq⟩ := hq
  have q_11 := hq
  refine lv_istore_n (lv' := [(2, .int (-1)), (1, .int 0), (0, .ref (h 0))]) hx hb dX12_one_149 rfl hl (by decide) rfl (fun ls hl => ?_)
  refine lv_iload_n hx hb dX12_one_150 rfl (lv_at hl 0 rfl) ?_
  refine lv_if_lt (tgt := 171) hx hb dX12_one_151 (by decide) (fun c => ?_) (fun c => absurd c (by decide))
  refine lv_iconst (v := 0) hx hb dX12_one_171 (by decide) ?_
  refine lv_istore_n (lv' := [(3, .int 0), (2, .int (-1)), (1, .int 0), (0, .ref (h 0))]) hx hb dX12_one_172 rfl hl (by decide) rfl (fun ls hl => ?_)
  refine lv_iconst (v := 0) hx hb dX12_one_173 (by decide) ?_
  refine lv_istore (lv' := [(4, .int 0), (3, .int 0), (2, .int (-1)), (1, .int 0), (0, .ref (h 0))]) hx hb dX12_one_174 hl (by decide) rfl (fun ls hl => ?_)
  refine lv_iload hx hb dX12_one_176 (lv_at hl 0 rfl) ?_
  refine lv_iconst (v := 4) hx hb dX12_one_178 (by decide) ?_
  refine lv_icmp_ge (tgt := 229) hx hb dX12_one_179 (by decide) (fun c => absurd c (by decide)) (fun c => ?_)
  refine lv_aload_n hx hb dX12_one_182 rfl (lv_at hl 4 rfl) ?_
  refine sg_calli (va_runV (As := []) (rest := []) ⟨hx, hb, hml, hown, hts⟩ (cf_X12_byteAt l D ca za h hh f L Q (ha) (he) (ht) H.size) (cwV 0 hts (gw_V (fun _ h => List.mem_cons_of_mem _ h) mw_277 mw_278 mw_279 mw_217 mw_276) rfl rfl rfl (by decide +kernel) ⟨Nat.le_of_ble_eq_true rfl, Nat.le_of_ble_eq_true rfl⟩) (sg_preV (ci := 12) (C := RX12) (T := TX12) (N := 55) hA hK hP hS hZ 0 (by decide) rfl rfl) rfl rfl hl.1 rfl (lv_room (Nat.le_of_ble_eq_true rfl)) dX12_one_183 ⟨Nat.le_refl _, Nat.le_refl _⟩) hA hS (fun r_15 f_12 L_13 Q_14 H locs hq hP hS => ?_)
  obtain ⟨⟨ef9, eL9, eQ9⟩, hq⟩ := hq
  rw [ef9, eL9, eQ9] at hP; clear ef9 eL9 eQ9
  obtain ⟨rfl, hq⟩ := hq
  have q_16 := hq
  refine lv_bipush (v := 48) hx hb dX12_one_186 (by decide) ?_
  refine lv_icmp_lt (tgt := 229) hx hb dX12_one_188 (by decide) (fun c => ?_) (fun c => absurd c (by decide))
  refine lv_iload hx hb dX12_one_229 (lv_at hl 0 rfl) ?_
  refine lv_if_ne (tgt := 241) hx hb dX12_one_231 (by decide) (fun c => absurd c (by decide)) (fun c => ?_)
  refine lv_aload_n hx hb dX12_one_234 rfl (lv_at hl 4 rfl) ?_
  refine sg_calli (va_runV (As := []) (rest := []) ⟨hx, hb, hml, hown, hts⟩ (cf_X12_wrong l D ca za h hh f L Q (ha) (he) (ht) (hf) H.size) (cwV 0 hts (gw_V (fun _ h => List.mem_cons_of_mem _ h) mw_284 mw_285 mw_286 mw_217 mw_283) rfl rfl rfl (by decide +kernel) ⟨Nat.le_of_ble_eq_true rfl, Nat.le_of_ble_eq_true rfl⟩) (sg_preV (ci := 12) (C := RX12) (T := TX12) (N := 55) hA hK hP hS hZ 0 (by decide) rfl rfl) rfl rfl hl.1 rfl (lv_room (Nat.le_of_ble_eq_true rfl)) dX12_one_235 ⟨Nat.le_refl _, Nat.le_refl _⟩) hA hS (fun r_20 f_17 L_18 Q_19 H locs hq hP hS => ?_)
  obtain ⟨⟨h_21, h_22, h_23, h_24⟩, hq⟩ := hq
  obtain ⟨rfl, hq⟩ := hq
  have q_25 := hq
  refine lv_goto (tgt := 242) hx hb dX12_one_238 (by decide) ?_
  exact hret _ _ _ _ (0) f_17 L_18 Q_19 dX12_one_242 hP hS ⟨⟨(show _ = _ from h_21), (show _ = _ from h_22), (show _ = _ from h_23), (show _ = _ from h_24)⟩, ⟨rfl, trivial⟩⟩

set_option maxHeartbeats 4000000 in
set_option maxRecDepth 100000 in
theorem cf_X12_product (l : Launch) (D : va_G) (ca : Nat → ClassId) (za h : Nat → Nat) (hh : sgH 26 h) (f : sg_F) (L : sg_L) (Q : sg_Q) (ha : f 0 13 = 0) (he : f 0 14 = 0) (ht : f 0 9 = 0) (hf : f 0 15 = (-1)) (sz : Nat) : Met l yX12_product gwX12_product { frames := 2, cells := 0, slots := 0, locals := 44 } (sgP D vwCl (tyX ca) 26 h (eM ca h) zcM za f L Q sz [.ref (h 0)]) (sgQi D vwCl 26 h (eM ca h) sz (fun r f1 L1 Q1 => (f1 0 13 = 0 ∧ f1 0 14 = 0 ∧ f1 0 9 = 0 ∧ f1 0 15 = 0) ∧ ((r = 0 ∧ (True))))) 0 0 (sgA 26 h sz) := by
  refine sg_ofWi (cc := cX12_product) (maxL := 4) RX12 (by decide) rfl rfl (Nat.le_of_ble_eq_true rfl) ?_
  intro p e s m below meth cd Qz ls hx hb hml hown hts hK hZ hP hS hl hret
  have hA := sgY.self (n := 26) (h := h) (sz := s.heap.size)
  have hl : lv_has ls 4 [(0, .ref (h 0))] := hl
  obtain ⟨H, hH⟩ : ∃ z : Heap, z = s.heap := ⟨_, rfl⟩
  obtain ⟨locs, hlo⟩ : ∃ z : List Loc, z = [] := ⟨_, rfl⟩
  have hP : va_P D vwCl (sgw 26 h (eM ca h) f L Q) H := by rw [hH]; exact hP
  have hS : va_S (sgA 26 h s.heap.size) s.heap H locs := by rw [hH, hlo]; exact hS
  suffices hgo : W p l e ({ frames := 2, cells := 0, slots := 0, locals := 44 }) s m ([.ref (h 0)] : List Value).toArray below meth cd H locs 0 0 Qz (F0 m 0 ls []) by rw [hH, hlo] at hgo; exact hgo
  refine lv_aload_n hx hb dX12_product_0 rfl (lv_at hl 0 rfl) ?_
  refine sg_calli (va_runV (As := []) (rest := []) ⟨hx, hb, hml, hown, hts⟩ (cf_X12_one l D ca za h hh f L Q (ha) (he) (ht) (hf) H.size) (cwV 0 hts (gw_V (fun _ h => List.mem_cons_of_mem _ h) mw_288 mw_289 mw_290 mw_217 mw_287) rfl rfl rfl (by decide +kernel) ⟨Nat.le_of_ble_eq_true rfl, Nat.le_of_ble_eq_true rfl⟩) (sg_preV (ci := 12) (C := RX12) (T := TX12) (N := 55) hA hK hP hS hZ 0 (by decide) rfl rfl) rfl rfl hl.1 rfl (lv_room (Nat.le_of_ble_eq_true rfl)) dX12_product_1 ⟨Nat.le_refl _, Nat.le_refl _⟩) hA hS (fun r_4 f_1 L_2 Q_3 H locs hq hP hS => ?_)
  obtain ⟨⟨h_5, h_6, h_7, h_8⟩, hq⟩ := hq
  obtain ⟨rfl, hq⟩ := hq
  have q_9 := hq
  refine lv_istore_n (lv' := [(1, .int 0), (0, .ref (h 0))]) hx hb dX12_product_4 rfl hl (by decide) rfl (fun ls hl => ?_)
  refine lv_aload_n hx hb dX12_product_5 rfl (lv_at hl 1 rfl) ?_
  refine sg_calli (va_runV (As := []) (rest := []) ⟨hx, hb, hml, hown, hts⟩ (cf_X12_byteAt l D ca za h hh f_1 L_2 Q_3 (h_5) (h_6) (h_7) H.size) (cwV 0 hts (gw_V (fun _ h => List.mem_cons_of_mem _ h) mw_277 mw_278 mw_279 mw_217 mw_276) rfl rfl rfl (by decide +kernel) ⟨Nat.le_of_ble_eq_true rfl, Nat.le_of_ble_eq_true rfl⟩) (sg_preV (ci := 12) (C := RX12) (T := TX12) (N := 55) hA hK hP hS hZ 0 (by decide) rfl rfl) rfl rfl hl.1 rfl (lv_room (Nat.le_of_ble_eq_true rfl)) dX12_product_6 ⟨Nat.le_refl _, Nat.le_refl _⟩) hA hS (fun r_13 f_10 L_11 Q_12 H locs hq hP hS => ?_)
  obtain ⟨⟨ef9, eL9, eQ9⟩, hq⟩ := hq
  rw [ef9, eL9, eQ9] at hP; clear ef9 eL9 eQ9
  obtain ⟨rfl, hq⟩ := hq
  have q_14 := hq
  refine lv_istore_n (lv' := [(2, .int 0), (1, .int 0), (0, .ref (h 0))]) hx hb dX12_product_9 rfl hl (by decide) rfl (fun ls hl => ?_)
  refine lv_aload_n hx hb dX12_product_10 rfl (lv_at hl 2 rfl) ?_
  refine sg_get (ci := 12) (v := .int 0) (C := RX12) (T := TX12) (N := 55) hx hb hts (fun w h => List.mem_cons_of_mem _ (gx_12 w h)) hown hK hP 0 (by decide) rfl rfl 15 (by decide) (hts _ (List.mem_cons_of_mem _ mw_275)) (fun _ h9 => h9) (congrArg (fun z => some (Value.int z)) (show f_1 0 15 = 0 from h_8)) dX12_product_11 ?_
  refine lv_if_ge (tgt := 94) hx hb dX12_product_14 (by decide) (fun c => ?_) (fun c => absurd c (by decide))
  refine lv_iload_n hx hb dX12_product_94 rfl (lv_at hl 1 rfl) ?_
  exact hret _ _ _ _ (0) f_1 L_2 Q_3 dX12_product_95 hP hS ⟨⟨(show _ = _ from h_5), (show _ = _ from h_6), (show _ = _ from h_7), (show _ = _ from h_8)⟩, ⟨rfl, trivial⟩⟩

set_option maxHeartbeats 4000000 in
set_option maxRecDepth 100000 in
theorem cf_X12_sums (l : Launch) (D : va_G) (ca : Nat → ClassId) (za h : Nat → Nat) (hh : sgH 26 h) (f : sg_F) (L : sg_L) (Q : sg_Q) (ha : f 0 13 = 0) (he : f 0 14 = 0) (ht : f 0 9 = 0) (hf : f 0 15 = (-1)) (sz : Nat) : Met l yX12_sums gwX12_sums { frames := 3, cells := 0, slots := 0, locals := 67 } (sgP D vwCl (tyX ca) 26 h (eM ca h) zcM za f L Q sz [.ref (h 0)]) (sgQi D vwCl 26 h (eM ca h) sz (fun r f1 L1 Q1 => (f1 0 13 = 0 ∧ f1 0 14 = 0 ∧ f1 0 9 = 0 ∧ f1 0 15 = 0) ∧ ((r = 0 ∧ (True))))) 0 0 (sgA 26 h sz) := by
  refine sg_ofWi (cc := cX12_sums) (maxL := 4) RX12 (by decide) rfl rfl (Nat.le_of_ble_eq_true rfl) ?_
  intro p e s m below meth cd Qz ls hx hb hml hown hts hK hZ hP hS hl hret
  have hA := sgY.self (n := 26) (h := h) (sz := s.heap.size)
  have hl : lv_has ls 4 [(0, .ref (h 0))] := hl
  obtain ⟨H, hH⟩ : ∃ z : Heap, z = s.heap := ⟨_, rfl⟩
  obtain ⟨locs, hlo⟩ : ∃ z : List Loc, z = [] := ⟨_, rfl⟩
  have hP : va_P D vwCl (sgw 26 h (eM ca h) f L Q) H := by rw [hH]; exact hP
  have hS : va_S (sgA 26 h s.heap.size) s.heap H locs := by rw [hH, hlo]; exact hS
  suffices hgo : W p l e ({ frames := 3, cells := 0, slots := 0, locals := 67 }) s m ([.ref (h 0)] : List Value).toArray below meth cd H locs 0 0 Qz (F0 m 0 ls []) by rw [hH, hlo] at hgo; exact hgo
  refine lv_aload_n hx hb dX12_sums_0 rfl (lv_at hl 0 rfl) ?_
  refine sg_calli (va_runV (As := []) (rest := []) ⟨hx, hb, hml, hown, hts⟩ (cf_X12_product l D ca za h hh f L Q (ha) (he) (ht) (hf) H.size) (cwV 0 hts (gw_V (fun _ h => List.mem_cons_of_mem _ h) mw_292 mw_293 mw_294 mw_217 mw_291) rfl rfl rfl (by decide +kernel) ⟨Nat.le_of_ble_eq_true rfl, Nat.le_of_ble_eq_true rfl⟩) (sg_preV (ci := 12) (C := RX12) (T := TX12) (N := 55) hA hK hP hS hZ 0 (by decide) rfl rfl) rfl rfl hl.1 rfl (lv_room (Nat.le_of_ble_eq_true rfl)) dX12_sums_1 ⟨Nat.le_refl _, Nat.le_refl _⟩) hA hS (fun r_4 f_1 L_2 Q_3 H locs hq hP hS => ?_)
  obtain ⟨⟨h_5, h_6, h_7, h_8⟩, hq⟩ := hq
  obtain ⟨rfl, hq⟩ := hq
  have q_9 := hq
  refine lv_istore_n (lv' := [(1, .int 0), (0, .ref (h 0))]) hx hb dX12_sums_4 rfl hl (by decide) rfl (fun ls hl => ?_)
  refine lv_aload_n hx hb dX12_sums_5 rfl (lv_at hl 1 rfl) ?_
  refine sg_get (ci := 12) (v := .int 0) (C := RX12) (T := TX12) (N := 55) hx hb hts (fun w h => List.mem_cons_of_mem _ (gx_12 w h)) hown hK hP 0 (by decide) rfl rfl 15 (by decide) (hts _ (List.mem_cons_of_mem _ mw_275)) (fun _ h9 => h9) (congrArg (fun z => some (Value.int z)) (show f_1 0 15 = 0 from h_8)) dX12_sums_6 ?_
  refine lv_if_ge (tgt := 77) hx hb dX12_sums_9 (by decide) (fun c => ?_) (fun c => absurd c (by decide))
  refine lv_iload_n hx hb dX12_sums_77 rfl (lv_at hl 0 rfl) ?_
  exact hret _ _ _ _ (0) f_1 L_2 Q_3 dX12_sums_78 hP hS ⟨⟨(show _ = _ from h_5), (show _ = _ from h_6), (show _ = _ from h_7), (show _ = _ from h_8)⟩, ⟨rfl, trivial⟩⟩

set_option maxHeartbeats 4000000 in
set_option maxRecDepth 100000 in
theorem cf_X12_compared (l : Launch) (D : va_G) (ca : Nat → ClassId) (za h : Nat → Nat) (hh : sgH 26 h) (f : sg_F) (L : sg_L) (Q : sg_Q) (ha : f 0 13 = 0) (he : f 0 14 = 0) (ht : f 0 9 = 0) (hf : f 0 15 = (-1)) (sz : Nat) : Met l yX12_compared gwX12_compared { frames := 4, cells := 0, slots := 0, locals := 90 } (sgP D vwCl (tyX ca) 26 h (eM ca h) zcM za f L Q sz [.ref (h 0)]) (sgQi D vwCl 26 h (eM ca h) sz (fun r f1 L1 Q1 => (f1 0 13 = 0 ∧ f1 0 14 = 0 ∧ f1 0 9 = 0 ∧ f1 0 15 = 0) ∧ ((r = 0 ∧ (True))))) 0 0 (sgA 26 h sz) := by
  refine sg_ofWi (cc := cX12_compared) (maxL := 4) RX12 (by decide) rfl rfl (Nat.le_of_ble_eq_true rfl) ?_
  intro p e s m below meth cd Qz ls hx hb hml hown hts hK hZ hP hS hl hret
  have hA := sgY.self (n := 26) (h := h) (sz := s.heap.size)
  have hl : lv_has ls 4 [(0, .ref (h 0))] := hl
  obtain ⟨H, hH⟩ : ∃ z : Heap, z = s.heap := ⟨_, rfl⟩
  obtain ⟨locs, hlo⟩ : ∃ z : List Loc, z = [] := ⟨_, rfl⟩
  have hP : va_P D vwCl (sgw 26 h (eM ca h) f L Q) H := by rw [hH]; exact hP
  have hS : va_S (sgA 26 h s.heap.size) s.heap H locs := by rw [hH, hlo]; exact hS
  suffices hgo : W p l e ({ frames := 4, cells := 0, slots := 0, locals := 90 }) s m ([.ref (h 0)] : List Value).toArray below meth cd H locs 0 0 Qz (F0 m 0 ls []) by rw [hH, hlo] at hgo; exact hgo
  refine lv_aload_n hx hb dX12_compared_0 rfl (lv_at hl 0 rfl) ?_
  refine sg_calli (va_runV (As := []) (rest := []) ⟨hx, hb, hml, hown, hts⟩ (cf_X12_sums l D ca za h hh f L Q (ha) (he) (ht) (hf) H.size) (cwV 0 hts (gw_V (fun _ h => List.mem_cons_of_mem _ h) mw_296 mw_297 mw_298 mw_217 mw_295) rfl rfl rfl (by decide +kernel) ⟨Nat.le_of_ble_eq_true rfl, Nat.le_of_ble_eq_true rfl⟩) (sg_preV (ci := 12) (C := RX12) (T := TX12) (N := 55) hA hK hP hS hZ 0 (by decide) rfl rfl) rfl rfl hl.1 rfl (lv_room (Nat.le_of_ble_eq_true rfl)) dX12_compared_1 ⟨Nat.le_refl _, Nat.le_refl _⟩) hA hS (fun r_4 f_1 L_2 Q_3 H locs hq hP hS => ?_)
  obtain ⟨⟨h_5, h_6, h_7, h_8⟩, hq⟩ := hq
  obtain ⟨rfl, hq⟩ := hq
  have q_9 := hq
  refine lv_istore_n (lv' := [(1, .int 0), (0, .ref (h 0))]) hx hb dX12_compared_4 rfl hl (by decide) rfl (fun ls hl => ?_)
  refine lv_aload_n hx hb dX12_compared_5 rfl (lv_at hl 1 rfl) ?_
  refine sg_calli (va_runV (As := []) (rest := []) ⟨hx, hb, hml, hown, hts⟩ (cf_X12_byteAt l D ca za h hh f_1 L_2 Q_3 (h_5) (h_6) (h_7) H.size) (cwV 0 hts (gw_V (fun _ h => List.mem_cons_of_mem _ h) mw_277 mw_278 mw_279 mw_217 mw_276) rfl rfl rfl (by decide +kernel) ⟨Nat.le_of_ble_eq_true rfl, Nat.le_of_ble_eq_true rfl⟩) (sg_preV (ci := 12) (C := RX12) (T := TX12) (N := 55) hA hK hP hS hZ 0 (by decide) rfl rfl) rfl rfl hl.1 rfl (lv_room (Nat.le_of_ble_eq_true rfl)) dX12_compared_6 ⟨Nat.le_refl _, Nat.le_refl _⟩) hA hS (fun r_13 f_10 L_11 Q_12 H locs hq hP hS => ?_)
  obtain ⟨⟨ef9, eL9, eQ9⟩, hq⟩ := hq
  rw [ef9, eL9, eQ9] at hP; clear ef9 eL9 eQ9
  obtain ⟨rfl, hq⟩ := hq
  have q_14 := hq
  refine lv_istore_n (lv' := [(2, .int 0), (1, .int 0), (0, .ref (h 0))]) hx hb dX12_compared_9 rfl hl (by decide) rfl (fun ls hl => ?_)
  refine lv_aload_n hx hb dX12_compared_10 rfl (lv_at hl 2 rfl) ?_
  refine sg_get (ci := 12) (v := .int 0) (C := RX12) (T := TX12) (N := 55) hx hb hts (fun w h => List.mem_cons_of_mem _ (gx_12 w h)) hown hK hP 0 (by decide) rfl rfl 15 (by decide) (hts _ (List.mem_cons_of_mem _ mw_275)) (fun _ h9 => h9) (congrArg (fun z => some (Value.int z)) (show f_1 0 15 = 0 from h_8)) dX12_compared_11 ?_
  refine lv_if_ge (tgt := 35) hx hb dX12_compared_14 (by decide) (fun c => ?_) (fun c => absurd c (by decide))
  refine lv_iload_n hx hb dX12_compared_35 rfl (lv_at hl 1 rfl) ?_
  exact hret _ _ _ _ (0) f_1 L_2 Q_3 dX12_compared_36 hP hS ⟨⟨(show _ = _ from h_5), (show _ = _ from h_6), (show _ = _ from h_7), (show _ = _ from h_8)⟩, ⟨rfl, trivial⟩⟩

set_option maxHeartbeats 4000000 in
set_option maxRecDepth 100000 in
theorem cf_X12_both (l : Launch) (D : va_G) (ca : Nat → ClassId) (za h : Nat → Nat) (hh : sgH 26 h) (f : sg_F) (L : sg_L) (Q : sg_Q) (ha : f 0 13 = 0) (he : f 0 14 = 0) (ht : f 0 9 = 0) (hf : f 0 15 = (-1)) (sz : Nat) : Met l yX12_both gwX12_both { frames := 5, cells := 0, slots := 0, locals := 113 } (sgP D vwCl (tyX ca) 26 h (eM ca h) zcM za f L Q sz [.ref (h 0)]) (sgQi D vwCl 26 h (eM ca h) sz (fun r f1 L1 Q1 => (f1 0 13 = 0 ∧ f1 0 14 = 0 ∧ f1 0 9 = 0 ∧ f1 0 15 = 0) ∧ ((r = 0 ∧ (True))))) 0 0 (sgA 26 h sz) := by
  refine sg_ofWi (cc := cX12_both) (maxL := 3) RX12 (by decide) rfl rfl (Nat.le_of_ble_eq_true rfl) ?_
  intro p e s m below meth cd Qz ls hx hb hml hown hts hK hZ hP hS hl hret
  have hA := sgY.self (n := 26) (h := h) (sz := s.heap.size)
  have hl : lv_has ls 3 [(0, .ref (h 0))] := hl
  obtain ⟨H, hH⟩ : ∃ z : Heap, z = s.heap := ⟨_, rfl⟩
  obtain ⟨locs, hlo⟩ : ∃ z : List Loc, z = [] := ⟨_, rfl⟩
  have hP : va_P D vwCl (sgw 26 h (eM ca h) f L Q) H := by rw [hH]; exact hP
  have hS : va_S (sgA 26 h s.heap.size) s.heap H locs := by rw [hH, hlo]; exact hS
  suffices hgo : W p l e ({ frames := 5, cells := 0, slots := 0, locals := 113 }) s m ([.ref (h 0)] : List Value).toArray below meth cd H locs 0 0 Qz (F0 m 0 ls []) by rw [hH, hlo] at hgo; exact hgo
  refine lv_aload_n hx hb dX12_both_0 rfl (lv_at hl 0 rfl) ?_
  refine sg_calli (va_runV (As := []) (rest := []) ⟨hx, hb, hml, hown, hts⟩ (cf_X12_compared l D ca za h hh f L Q (ha) (he) (ht) (hf) H.size) (cwV 0 hts (gw_V (fun _ h => List.mem_cons_of_mem _ h) mw_300 mw_301 mw_302 mw_217 mw_299) rfl rfl rfl (by decide +kernel) ⟨Nat.le_of_ble_eq_true rfl, Nat.le_of_ble_eq_true rfl⟩) (sg_preV (ci := 12) (C := RX12) (T := TX12) (N := 55) hA hK hP hS hZ 0 (by decide) rfl rfl) rfl rfl hl.1 rfl (lv_room (Nat.le_of_ble_eq_true rfl)) dX12_both_1 ⟨Nat.le_refl _, Nat.le_refl _⟩) hA hS (fun r_4 f_1 L_2 Q_3 H locs hq hP hS => ?_)
  obtain ⟨⟨h_5, h_6, h_7, h_8⟩, hq⟩ := hq
  obtain ⟨rfl, hq⟩ := hq
  have q_9 := hq
  refine lv_istore_n (lv' := [(1, .int 0), (0, .ref (h 0))]) hx hb dX12_both_4 rfl hl (by decide) rfl (fun ls hl => ?_)
  refine lv_aload_n hx hb dX12_both_5 rfl (lv_at hl 1 rfl) ?_
  refine lv_bipush (v := 38) hx hb dX12_both_6 (by decide) ?_
  refine sg_calli (va_runV (As := [.int 38]) (rest := []) ⟨hx, hb, hml, hown, hts⟩ (cf_X12_takes l D ca za h hh f_1 L_2 Q_3 38 (h_5) (h_6) (h_7) (h_8) H.size) (cwV 1 hts (gw_V (fun _ h => List.mem_cons_of_mem _ h) mw_304 mw_305 mw_306 mw_217 mw_303) rfl rfl rfl (by decide +kernel) ⟨Nat.le_of_ble_eq_true rfl, Nat.le_of_ble_eq_true rfl⟩) (sg_preV (ci := 12) (C := RX12) (T := TX12) (N := 55) hA hK hP hS hZ 0 (by decide) rfl rfl) rfl rfl hl.1 rfl (lv_room (Nat.le_of_ble_eq_true rfl)) dX12_both_8 ⟨Nat.le_refl _, Nat.le_refl _⟩) hA hS (fun r_13 f_10 L_11 Q_12 H locs hq hP hS => ?_)
  obtain ⟨⟨ef9, eL9, eQ9⟩, hq⟩ := hq
  rw [ef9, eL9, eQ9] at hP; clear ef9 eL9 eQ9
  have k_14 : (38 : Int32).toInt = 38 := by decide
  obtain ⟨rfl, hq⟩ := hq
  have q_15 := hq
  refine lv_if_eq (tgt := 36) hx hb dX12_both_11 (by decide) (fun c => ?_) (fun c => absurd c (by decide))
  refine lv_iload_n hx hb dX12_both_36 rfl (lv_at hl 0 rfl) ?_
  exact hret _ _ _ _ (0) f_1 L_2 Q_3 dX12_both_37 hP hS ⟨⟨(show _ = _ from h_5), (show _ = _ from h_6), (show _ = _ from h_7), (show _ = _ from h_8)⟩, ⟨rfl, trivial⟩⟩

set_option maxHeartbeats 4000000 in
set_option maxRecDepth 100000 in
theorem cf_X12_either (l : Launch) (D : va_G) (ca : Nat → ClassId) (za h : Nat → Nat) (hh : sgH 26 h) (f : sg_F) (L : sg_L) (Q : sg_Q) (ha : f 0 13 = 0) (he : f 0 14 = 0) (ht : f 0 9 = 0) (hf : f 0 15 = (-1)) (sz : Nat) : Met l yX12_either gwX12_either { frames := 6, cells := 0, slots := 0, locals := 135 } (sgP D vwCl (tyX ca) 26 h (eM ca h) zcM za f L Q sz [.ref (h 0)]) (sgQi D vwCl 26 h (eM ca h) sz (fun r f1 L1 Q1 => (f1 0 13 = 0 ∧ f1 0 14 = 0 ∧ f1 0 9 = 0 ∧ f1 0 15 = 0) ∧ ((r = 0 ∧ (True))))) 0 0 (sgA 26 h sz) := by
  refine sg_ofWi (cc := cX12_either) (maxL := 3) RX12 (by decide) rfl rfl (Nat.le_of_ble_eq_true rfl) ?_
  intro p e s m below meth cd Qz ls hx hb hml hown hts hK hZ hP hS hl hret
  have hA := sgY.self (n := 26) (h := h) (sz := s.heap.size)
  have hl : lv_has ls 3 [(0, .ref (h 0))] := hl
  obtain ⟨H, hH⟩ : ∃ z : Heap, z = s.heap := ⟨_, rfl⟩
  obtain ⟨locs, hlo⟩ : ∃ z : List Loc, z = [] := ⟨_, rfl⟩
  have hP : va_P D vwCl (sgw 26 h (eM ca h) f L Q) H := by rw [hH]; exact hP
  have hS : va_S (sgA 26 h s.heap.size) s.heap H locs := by rw [hH, hlo]; exact hS
  suffices hgo : W p l e ({ frames := 6, cells := 0, slots := 0, locals := 135 }) s m ([.ref (h 0)] : List Value).toArray below meth cd H locs 0 0 Qz (F0 m 0 ls []) by rw [hH, hlo] at hgo; exact hgo
  refine lv_aload_n hx hb dX12_either_0 rfl (lv_at hl 0 rfl) ?_
  refine sg_calli (va_runV (As := []) (rest := []) ⟨hx, hb, hml, hown, hts⟩ (cf_X12_both l D ca za h hh f L Q (ha) (he) (ht) (hf) H.size) (cwV 0 hts (gw_V (fun _ h => List.mem_cons_of_mem _ h) mw_308 mw_309 mw_310 mw_217 mw_307) rfl rfl rfl (by decide +kernel) ⟨Nat.le_of_ble_eq_true rfl, Nat.le_of_ble_eq_true rfl⟩) (sg_preV (ci := 12) (C := RX12) (T := TX12) (N := 55) hA hK hP hS hZ 0 (by decide) rfl rfl) rfl rfl hl.1 rfl (lv_room (Nat.le_of_ble_eq_true rfl)) dX12_either_1 ⟨Nat.le_refl _, Nat.le_refl _⟩) hA hS (fun r_4 f_1 L_2 Q_3 H locs hq hP hS => ?_)
  obtain ⟨⟨h_5, h_6, h_7, h_8⟩, hq⟩ := hq
  obtain ⟨rfl, hq⟩ := hq
  have q_9 := hq
  refine lv_istore_n (lv' := [(1, .int 0), (0, .ref (h 0))]) hx hb dX12_either_4 rfl hl (by decide) rfl (fun ls hl => ?_)
  refine lv_aload_n hx hb dX12_either_5 rfl (lv_at hl 1 rfl) ?_
  refine lv_bipush (v := 124) hx hb dX12_either_6 (by decide) ?_
  refine sg_calli (va_runV (As := [.int 124]) (rest := []) ⟨hx, hb, hml, hown, hts⟩ (cf_X12_takes l D ca za h hh f_1 L_2 Q_3 124 (h_5) (h_6) (h_7) (h_8) H.size) (cwV 1 hts (gw_V (fun _ h => List.mem_cons_of_mem _ h) mw_304 mw_305 mw_306 mw_217 mw_303) rfl rfl rfl (by decide +kernel) ⟨Nat.le_of_ble_eq_true rfl, Nat.le_of_ble_eq_true rfl⟩) (sg_preV (ci := 12) (C := RX12) (T := TX12) (N := 55) hA hK hP hS hZ 0 (by decide) rfl rfl) rfl rfl hl.1 rfl (lv_room (Nat.le_of_ble_eq_true rfl)) dX12_either_8 ⟨Nat.le_refl _, Nat.le_refl _⟩) hA hS (fun r_13 f_10 L_11 Q_12 H locs hq hP hS => ?_)
  obtain ⟨⟨ef9, eL9, eQ9⟩, hq⟩ := hq
  rw [ef9, eL9, eQ9] at hP; clear ef9 eL9 eQ9
  have k_14 : (124 : Int32).toInt = 124 := by decide
  obtain ⟨rfl, hq⟩ := hq
  have q_15 := hq
  refine lv_if_eq (tgt := 36) hx hb dX12_either_11 (by decide) (fun c => ?_) (fun c => absurd c (by decide))
  refine lv_iload_n hx hb dX12_either_36 rfl (lv_at hl 0 rfl) ?_
  exact hret _ _ _ _ (0) f_1 L_2 Q_3 dX12_either_37 hP hS ⟨⟨(show _ = _ from h_5), (show _ = _ from h_6), (show _ = _ from h_7), (show _ = _ from h_8)⟩, ⟨rfl, trivial⟩⟩

set_option maxHeartbeats 4000000 in
set_option maxRecDepth 100000 in
theorem cf_X12_workOut (l : Launch) (D : va_G) (ca : Nat → ClassId) (za h : Nat → Nat) (hh : sgH 26 h)  (sz : Nat) : Met l yX12_workOut gwX12_workOut { frames := 7, cells := 0, slots := 0, locals := 157 } (sgP D vwCl (tyX ca) 26 h (eM ca h) zcM za f0M L0 Q0 sz [.ref (h 0), .int (-1), .int 0]) (sgQi D vwCl 26 h (eM ca h) sz (fun r f1 L1 Q1 => (f1 0 13 = 0 ∧ f1 0 14 = 0 ∧ f1 0 9 = 0 ∧ f1 0 15 = 0) ∧ ((r = 0 ∧ (True))))) 0 0 (sgA 26 h sz) := by
  refine sg_ofWi (cc := cX12_workOut) (maxL := 8) RX12 (by decide) rfl rfl (Nat.le_of_ble_eq_true rfl) ?_
  intro p e s m below meth cd Qz ls hx hb hml hown hts hK hZ hP hS hl hret
  have hA := sgY.self (n := 26) (h := h) (sz := s.heap.size)
  have hl : lv_has ls 8 [(0, .ref (h 0)), (1, .int (-1)), (2, .int 0)] := hl
  obtain ⟨H, hH⟩ : ∃ z : Heap, z = s.heap := ⟨_, rfl⟩
  obtain ⟨locs, hlo⟩ : ∃ z : List Loc, z = [] := ⟨_, rfl⟩
  have hP : va_P D vwCl (sgw 26 h (eM ca h) f0M L0 Q0) H := by rw [hH]; exact hP
  have hS : va_S (sgA 26 h s.heap.size) s.heap H locs := by rw [hH, hlo]; exact hS
  suffices hgo : W p l e ({ frames := 7, cells := 0, slots := 0, locals := 157 }) s m ([.ref (h 0), .int (-1), .int 0] : List Value).toArray below meth cd H locs 0 0 Qz (F0 m 0 ls []) by rw [hH, hlo] at hgo; exact hgo
  refine lv_aload_n hx hb dX12_workOut_0 rfl (lv_at hl 0 rfl) ?_
  refine lv_iload_n hx hb dX12_workOut_1 rfl (lv_at hl 1 rfl) ?_
  refine sg_put (ci := 12) (x := (-1)) (ty := .int) (C := RX12) (T := TX12) (N := 55) hx hb hts (fun w h => List.mem_cons_of_mem _ (gx_12 w h)) tyX12 tyX12_ok nmX12 hown hh hA hK hP hS 0 (by decide) rfl rfl 12 (by decide) (hts _ (List.mem_cons_of_mem _ mw_311)) (fun _ h9 => h9) rfl rfl (by decide +kernel) rfl rfl (Nat.le_of_ble_eq_true rfl) dX12_workOut_2 (fun f_1 H locs ef_1 hP hS => ?_)
  refine lv_aload_n hx hb dX12_workOut_5 rfl (lv_at hl 0 rfl) ?_
  refine lv_iconst (v := 0) hx hb dX12_workOut_6 (by decide) ?_
  refine sg_put (ci := 12) (x := 0) (ty := .int) (C := RX12) (T := TX12) (N := 55) hx hb hts (fun w h => List.mem_cons_of_mem _ (gx_12 w h)) tyX12 tyX12_ok nmX12 hown hh hA hK hP hS 0 (by decide) rfl rfl 13 (by decide) (hts _ (List.mem_cons_of_mem _ mw_273)) (fun _ h9 => h9) rfl rfl (by decide +kernel) rfl rfl (Nat.le_of_ble_eq_true rfl) dX12_workOut_7 (fun f_2 H locs ef_2 hP hS => ?_)
  refine lv_aload_n hx hb dX12_workOut_10 rfl (lv_at hl 0 rfl) ?_
  refine lv_iload_n hx hb dX12_workOut_11 rfl (lv_at hl 2 rfl) ?_
  refine sg_put (ci := 12) (x := 0) (ty := .int) (C := RX12) (T := TX12) (N := 55) hx hb hts (fun w h => List.mem_cons_of_mem _ (gx_12 w h)) tyX12 tyX12_ok nmX12 hown hh hA hK hP hS 0 (by decide) rfl rfl 14 (by decide) (hts _ (List.mem_cons_of_mem _ mw_274)) (fun _ h9 => h9) rfl rfl (by decide +kernel) rfl rfl (Nat.le_of_ble_eq_true rfl) dX12_workOut_12 (fun f_3 H locs ef_3 hP hS => ?_)
  refine lv_aload_n hx hb dX12_workOut_15 rfl (lv_at hl 0 rfl) ?_
  refine lv_iconst (v := (-1)) hx hb dX12_workOut_16 (by decide) ?_
  refine sg_put (ci := 12) (x := (-1)) (ty := .int) (C := RX12) (T := TX12) (N := 55) hx hb hts (fun w h => List.mem_cons_of_mem _ (gx_12 w h)) tyX12 tyX12_ok nmX12 hown hh hA hK hP hS 0 (by decide) rfl rfl 15 (by decide) (hts _ (List.mem_cons_of_mem _ mw_275)) (fun _ h9 => h9) rfl rfl (by decide +kernel) rfl rfl (Nat.le_of_ble_eq_true rfl) dX12_workOut_17 (fun f_4 H locs ef_4 hP hS => ?_)
  refine lv_aload_n hx hb dX12_workOut_20 rfl (lv_at hl 0 rfl) ?_
  refine lv_iconst (v := 0) hx hb dX12_workOut_21 (by decide) ?_
  refine sg_put (ci := 12) (x := 0) (ty := .int) (C := RX12) (T := TX12) (N := 55) hx hb hts (fun w h => List.mem_cons_of_mem _ (gx_12 w h)) tyX12 tyX12_ok nmX12 hown hh hA hK hP hS 0 (by decide) rfl rfl 16 (by decide) (hts _ (List.mem_cons_of_mem _ mw_312)) (fun _ h9 => h9) rfl rfl (by decide +kernel) rfl rfl (Nat.le_of_ble_eq_true rfl) dX12_workOut_22 (fun f_5 H locs ef_5 hP hS => ?_)
  refine lv_iconst (v := 0) hx hb dX12_workOut_25 (by decide) ?_
  refine lv_istore_n (lv' := [(3, .int 0), (0, .ref (h 0)), (1, .int (-1)), (2, .int 0)]) hx hb dX12_workOut_26 rfl hl (by decide) rfl (fun ls hl => ?_)
  refine lv_iconst (v := 0) hx hb dX12_workOut_27 (by decide) ?_
  refine lv_istore (lv' := [(4, .int 0), (3, .int 0), (0, .ref (h 0)), (1, .int (-1)), (2, .int 0)]) hx hb dX12_workOut_28 hl (by decide) rfl (fun ls hl => ?_)
  refine lv_iconst (v := 1) hx hb dX12_workOut_30 (by decide) ?_
  refine lv_istore (lv' := [(5, .int 1), (4, .int 0), (3, .int 0), (0, .ref (h 0)), (1, .int (-1)), (2, .int 0)]) hx hb dX12_workOut_31 hl (by decide) rfl (fun ls hl => ?_)
  refine lv_iload hx hb dX12_workOut_33 (lv_at hl 0 rfl) ?_
  refine lv_if_eq (tgt := 107) hx hb dX12_workOut_35 (by decide) (fun c => absurd c (by decide)) (fun c => ?_)
  refine lv_aload_n hx hb dX12_workOut_38 rfl (lv_at hl 3 rfl) ?_
  refine sg_calli (va_runV (As := []) (rest := []) ⟨hx, hb, hml, hown, hts⟩ (cf_X12_either l D ca za h hh f_5 L0 Q0 ((by rw [ef_5]; exact (show _ = _ from (by rw [ef_4]; exact (show _ = _ from (by rw [ef_3]; exact (show _ = _ from (by rw [ef_2]; rfl)))))))) ((by rw [ef_5]; exact (show _ = _ from (by rw [ef_4]; exact (show _ = _ from (by rw [ef_3]; rfl)))))) ((by rw [ef_5]; exact (show _ = _ from (by rw [ef_4]; exact (show _ = _ from (by rw [ef_3]; exact (show _ = _ from (by rw [ef_2]; exact (show _ = _ from (by rw [ef_1]; exact rfl)))))))))) ((by rw [ef_5]; exact (show _ = _ from (by rw [ef_4]; rfl)))) H.size) (cwV 0 hts (gw_V (fun _ h => List.mem_cons_of_mem _ h) mw_314 mw_315 mw_316 mw_217 mw_313) rfl rfl rfl (by decide +kernel) ⟨Nat.le_of_ble_eq_true rfl, Nat.le_of_ble_eq_true rfl⟩) (sg_preV (ci := 12) (C := RX12) (T := TX12) (N := 55) hA hK hP hS hZ 0 (by decide) rfl rfl) rfl rfl hl.1 rfl (lv_room (Nat.le_of_ble_eq_true rfl)) dX12_workOut_39 ⟨Nat.le_refl _, Nat.le_refl _⟩) hA hS (fun r_9 f_6 L_7 Q_8 H locs hq hP hS => ?_)
  obtain ⟨⟨h_10, h_11, h_12, h_13⟩, hq⟩ := hq
  obtain ⟨rfl, hq⟩ := hq
  have q_14 := hq
  refine lv_istore (lv' := [(6, .int 0), (5, .int 1), (4, .int 0), (3, .int 0), (0, .ref (h 0)), (1, .int (-1)), (2, .int 0)]) hx hb dX12_workOut_42 hl (by decide) rfl (fun ls hl => ?_)
  refine lv_iconst (v := 1) hx hb dX12_workOut_44 (by decide) ?_
  refine lv_istore (lv' := [(7, .int 1), (6, .int 0), (5, .int 1), (4, .int 0), (3, .int 0), (0, .ref (h 0)), (1, .int (-1)), (2, .int 0)]) hx hb dX12_workOut_45 hl (by decide) rfl (fun ls hl => ?_)
  refine lv_aload_n hx hb dX12_workOut_47 rfl (lv_at hl 5 rfl) ?_
  refine lv_bipush (v := 63) hx hb dX12_workOut_48 (by decide) ?_
  refine sg_calli (va_runV (As := [.int 63]) (rest := []) ⟨hx, hb, hml, hown, hts⟩ (cf_X12_takes l D ca za h hh f_6 L_7 Q_8 63 (h_10) (h_11) (h_12) (h_13) H.size) (cwV 1 hts (gw_V (fun _ h => List.mem_cons_of_mem _ h) mw_304 mw_305 mw_306 mw_217 mw_303) rfl rfl rfl (by decide +kernel) ⟨Nat.le_of_ble_eq_true rfl, Nat.le_of_ble_eq_true rfl⟩) (sg_preV (ci := 12) (C := RX12) (T := TX12) (N := 55) hA hK hP hS hZ 0 (by decide) rfl rfl) rfl rfl hl.1 rfl (lv_room (Nat.le_of_ble_eq_true rfl)) dX12_workOut_50 ⟨Nat.le_refl _, Nat.le_refl _⟩) hA hS (fun r_18 f_15 L_16 Q_17 H locs hq hP hS => ?_)
  obtain ⟨⟨ef9, eL9, eQ9⟩, hq⟩ := hq
  rw [ef9, eL9, eQ9] at hP; clear ef9 eL9 eQ9
  have k_19 : (63 : Int32).toInt = 63 := by decide
  obtain ⟨rfl, hq⟩ := hq
  have q_20 := hq
  refine lv_if_eq (tgt := 74) hx hb dX12_workOut_53 (by decide) (fun c => ?_) (fun c => absurd c (by decide))
  refine lv_aload_n hx hb dX12_workOut_74 rfl (lv_at hl 5 rfl) ?_
  refine sg_get (ci := 12) (v := .int 0) (C := RX12) (T := TX12) (N := 55) hx hb hts (fun w h => List.mem_cons_of_mem _ (gx_12 w h)) hown hK hP 0 (by decide) rfl rfl 15 (by decide) (hts _ (List.mem_cons_of_mem _ mw_275)) (fun _ h9 => h9) (congrArg (fun z => some (Value.int z)) (show f_6 0 15 = 0 from h_13)) dX12_workOut_75 ?_
  refine lv_if_ge (tgt := 96) hx hb dX12_workOut_78 (by decide) (fun c => ?_) (fun c => absurd c (by decide))
  refine lv_aload_n hx hb dX12_workOut_96 rfl (lv_at hl 5 rfl) ?_
  refine lv_bipush (v := 59) hx hb dX12_workOut_97 (by decide) ?_
  refine sg_calli (va_runV (As := [.int 59]) (rest := []) ⟨hx, hb, hml, hown, hts⟩ (cf_X12_takes l D ca za h hh f_6 L_7 Q_8 59 (h_10) (h_11) (h_12) (h_13) H.size) (cwV 1 hts (gw_V (fun _ h => List.mem_cons_of_mem _ h) mw_304 mw_305 mw_306 mw_217 mw_303) rfl rfl rfl (by decide +kernel) ⟨Nat.le_of_ble_eq_true rfl, Nat.le_of_ble_eq_true rfl⟩) (sg_preV (ci := 12) (C := RX12) (T := TX12) (N := 55) hA hK hP hS hZ 0 (by decide) rfl rfl) rfl rfl hl.1 rfl (lv_room (Nat.le_of_ble_eq_true rfl)) dX12_workOut_99 ⟨Nat.le_refl _, Nat.le_refl _⟩) hA hS (fun r_24 f_21 L_22 Q_23 H locs hq hP hS => ?_)
  obtain ⟨⟨ef9, eL9, eQ9⟩, hq⟩ := hq
  rw [ef9, eL9, eQ9] at hP; clear ef9 eL9 eQ9
  have k_25 : (59 : Int32).toInt = 59 := by decide
  obtain ⟨rfl, hq⟩ := hq
  have q_26 := hq
  refine lv_istore (lv' := [(5, .int 0), (7, .int 1), (6, .int 0), (4, .int 0), (3, .int 0), (0, .ref (h 0)), (1, .int (-1)), (2, .int 0)]) hx hb dX12_workOut_102 hl (by decide) rfl (fun ls hl => ?_)
  refine lv_goto (tgt := 33) hx hb dX12_workOut_104 (by decide) ?_
  refine lv_iload hx hb dX12_workOut_33 (lv_at hl 0 rfl) ?_
  refine lv_if_eq (tgt := 107) hx hb dX12_workOut_35 (by decide) (fun c => ?_) (fun c => absurd c (by decide))
  refine lv_aload_n hx hb dX12_workOut_107 rfl (lv_at hl 5 rfl) ?_
  refine sg_get (ci := 12) (v := .int 0) (C := RX12) (T := TX12) (N := 55) hx hb hts (fun w h => List.mem_cons_of_mem _ (gx_12 w h)) hown hK hP 0 (by decide) rfl rfl 15 (by decide) (hts _ (List.mem_cons_of_mem _ mw_275)) (fun _ h9 => h9) (congrArg (fun z => some (Value.int z)) (show f_6 0 15 = 0 from h_13)) dX12_workOut_108 ?_
  refine lv_if_ge (tgt := 130) hx hb dX12_workOut_111 (by decide) (fun c => ?_) (fun c => absurd c (by decide))
  refine lv_iload hx hb dX12_workOut_130 (lv_at hl 3 rfl) ?_
  exact hret _ _ _ _ (0) f_6 L_7 Q_8 dX12_workOut_132 hP hS ⟨⟨(show _ = _ from h_10), (show _ = _ from h_11), (show _ = _ from h_12), (show _ = _ from h_13)⟩, ⟨rfl, trivial⟩⟩

set_option maxHeartbeats 4000000 in
set_option maxRecDepth 100000 in
theorem cf_X12_law (l : Launch) (D : va_G) (ca : Nat → ClassId) (za h : Nat → Nat) (hh : sgH 26 h)  (sz : Nat) : Met l yX12_law gwX12_law { frames := 8, cells := 0, slots := 0, locals := 184 } (sgP D vwCl (tyX ca) 26 h (eM ca h) zcM za f0M L0 Q0 sz [.ref (h 0)]) (sgQi D vwCl 26 h (eM ca h) sz (fun r f1 L1 Q1 => True ∧ ((r = (-100) ∧ (True))))) 0 0 (sgA 26 h sz) := by
  refine sg_ofWi (cc := cX12_law) (maxL := 4) RX12 (by decide) rfl rfl (Nat.le_of_ble_eq_true rfl) ?_
  intro p e s m below meth cd Qz ls hx hb hml hown hts hK hZ hP hS hl hret
  have hA := sgY.self (n := 26) (h := h) (sz := s.heap.size)
  have hl : lv_has ls 4 [(0, .ref (h 0))] := hl
  obtain ⟨H, hH⟩ : ∃ z : Heap, z = s.heap := ⟨_, rfl⟩
  obtain ⟨locs, hlo⟩ : ∃ z : List Loc, z = [] := ⟨_, rfl⟩
  have hP : va_P D vwCl (sgw 26 h (eM ca h) f0M L0 Q0) H := by rw [hH]; exact hP
  have hS : va_S (sgA 26 h s.heap.size) s.heap H locs := by rw [hH, hlo]; exact hS
  suffices hgo : W p l e ({ frames := 8, cells := 0, slots := 0, locals := 184 }) s m ([.ref (h 0)] : List Value).toArray below meth cd H locs 0 0 Qz (F0 m 0 ls []) by rw [hH, hlo] at hgo; exact hgo
  refine lv_aload_n hx hb dX12_law_0 rfl (lv_at hl 0 rfl) ?_
  refine lv_iconst (v := (-1)) hx hb dX12_law_1 (by decide) ?_
  refine lv_aload_n hx hb dX12_law_2 rfl (lv_at hl 0 rfl) ?_
  refine sg_get (ci := 12) (v := .int 0) (C := RX12) (T := TX12) (N := 55) hx hb hts (fun w h => List.mem_cons_of_mem _ (gx_12 w h)) hown hK hP 0 (by decide) rfl rfl 9 (by decide) (hts _ (List.mem_cons_of_mem _ mw_271)) (fun _ h9 => h9) rfl dX12_law_3 ?_
  refine sg_calli (va_runV (As := [.int (-1), .int 0]) (rest := []) ⟨hx, hb, hml, hown, hts⟩ (cf_X12_workOut l D ca za h hh H.size) (cwV 2 hts (gw_V (fun _ h => List.mem_cons_of_mem _ h) mw_318 mw_319 mw_320 mw_217 mw_317) rfl rfl rfl (by decide +kernel) ⟨Nat.le_of_ble_eq_true rfl, Nat.le_of_ble_eq_true rfl⟩) (sg_preV (ci := 12) (C := RX12) (T := TX12) (N := 55) hA hK hP hS hZ 0 (by decide) rfl rfl) rfl rfl hl.1 rfl (lv_room (Nat.le_of_ble_eq_true rfl)) dX12_law_6 ⟨Nat.le_refl _, Nat.le_refl _⟩) hA hS (fun r_4 f_1 L_2 Q_3 H locs hq hP hS => ?_)
  obtain ⟨⟨h_5, h_6, h_7, h_8⟩, hq⟩ := hq
  have k_9 : ((-1) : Int32).toInt = (-1) := by decide
  have k_10 : (0 : Int32).toInt = 0 := by decide
  obtain ⟨rfl, hq⟩ := hq
  have q_11 := hq
  refine lv_istore_n (lv' := [(1, .int 0), (0, .ref (h 0))]) hx hb dX12_law_9 rfl hl (by decide) rfl (fun ls hl => ?_)
  refine lv_aload_n hx hb dX12_law_10 rfl (lv_at hl 1 rfl) ?_
  refine sg_get (ci := 12) (v := .int 0) (C := RX12) (T := TX12) (N := 55) hx hb hts (fun w h => List.mem_cons_of_mem _ (gx_12 w h)) hown hK hP 0 (by decide) rfl rfl 9 (by decide) (hts _ (List.mem_cons_of_mem _ mw_271)) (fun _ h9 => h9) (congrArg (fun z => some (Value.int z)) (show f_1 0 9 = 0 from h_7)) dX12_law_11 ?_
  refine lv_istore_n (lv' := [(2, .int 0), (1, .int 0), (0, .ref (h 0))]) hx hb dX12_law_14 rfl hl (by decide) rfl (fun ls hl => ?_)
  refine lv_aload_n hx hb dX12_law_15 rfl (lv_at hl 2 rfl) ?_
  refine lv_iconst (v := 0) hx hb dX12_law_16 (by decide) ?_
  refine sg_put (ci := 12) (x := 0) (ty := .int) (C := RX12) (T := TX12) (N := 55) hx hb hts (fun w h => List.mem_cons_of_mem _ (gx_12 w h)) tyX12 tyX12_ok nmX12 hown hh hA hK hP hS 0 (by decide) rfl rfl 9 (by decide) (hts _ (List.mem_cons_of_mem _ mw_271)) (fun _ h9 => h9) rfl rfl (by decide +kernel) rfl rfl (Nat.le_of_ble_eq_true rfl) dX12_law_17 (fun f_12 H locs ef_12 hP hS => ?_)
  refine lv_aload_n hx hb dX12_law_20 rfl (lv_at hl 2 rfl) ?_
  refine sg_get (ci := 12) (v := .int 0) (C := RX12) (T := TX12) (N := 55) hx hb hts (fun w h => List.mem_cons_of_mem _ (gx_12 w h)) hown hK hP 0 (by decide) rfl rfl 15 (by decide) (hts _ (List.mem_cons_of_mem _ mw_275)) (fun _ h9 => h9) (congrArg (fun z => some (Value.int z)) (show f_12 0 15 = 0 from (by rw [ef_12]; exact (show _ = _ from h_8)))) dX12_law_21 ?_
  refine lv_if_lt (tgt := 35) hx hb dX12_law_24 (by decide) (fun c => absurd c (by decide)) (fun c => ?_)
  refine lv_bipush (v := (-100)) hx hb dX12_law_27 (by decide) ?_
  refine lv_aload_n hx hb dX12_law_29 rfl (lv_at hl 2 rfl) ?_
  refine sg_get (ci := 12) (v := .int 0) (C := RX12) (T := TX12) (N := 55) hx hb hts (fun w h => List.mem_cons_of_mem _ (gx_12 w h)) hown hK hP 0 (by decide) rfl rfl 15 (by decide) (hts _ (List.mem_cons_of_mem _ mw_275)) (fun _ h9 => h9) (congrArg (fun z => some (Value.int z)) (show f_12 0 15 = 0 from (by rw [ef_12]; exact (show _ = _ from h_8)))) dX12_law_30 ?_
  refine lv_isub hx hb dX12_law_33 ?_
  refine W.eq (g2 := F0 m 34 ls [.int (-100)]) (by rw [show ((-100) - 0 : Int32) = (-100) from by decide]) ?_
  exact hret _ _ _ _ (-100) f_12 L_2 Q_3 dX12_law_34 hP hS ⟨trivial, ⟨rfl, trivial⟩⟩

set_option maxHeartbeats 4000000 in
set_option maxRecDepth 100000 in
theorem cf_X12_sizeOf (l : Launch) (D : va_G) (ca : Nat → ClassId) (za h : Nat → Nat) (hh : sgH 26 h) (f : sg_F) (L : sg_L) (Q : sg_Q) (x0 : Int32) (b0 : -2147483648 < x0.toInt) (sz : Nat) : Met l yX12_sizeOf gwX12_sizeOf { frames := 0, cells := 0, slots := 0, locals := 0 } (sgP D vwCl (tyX ca) 26 h (eM ca h) zcM za f L Q sz [.int x0]) (sgQi D vwCl 26 h (eM ca h) sz (fun r f1 L1 Q1 => (f1 = f ∧ L1 = L ∧ Q1 = Q) ∧ ((0 ≤ x0.toInt ∧ r.toInt = x0.toInt) ∨ (x0.toInt < 0 ∧ r.toInt = -x0.toInt)))) 0 0 (sgA 26 h sz) := by
  refine sg_ofWi (cc := cX12_sizeOf) (maxL := 1) RX12 (by decide) rfl rfl (Nat.le_of_ble_eq_true rfl) ?_
  intro p e s m below meth cd Qz ls hx hb hml hown hts hK hZ hP hS hl hret
  have hA := sgY.self (n := 26) (h := h) (sz := s.heap.size)
  have hl : lv_has ls 1 [(0, .int x0)] := hl
  obtain ⟨H, hH⟩ : ∃ z : Heap, z = s.heap := ⟨_, rfl⟩
  obtain ⟨locs, hlo⟩ : ∃ z : List Loc, z = [] := ⟨_, rfl⟩
  have hP : va_P D vwCl (sgw 26 h (eM ca h) f L Q) H := by rw [hH]; exact hP
  have hS : va_S (sgA 26 h s.heap.size) s.heap H locs := by rw [hH, hlo]; exact hS
  suffices hgo : W p l e ({ frames := 0, cells := 0, slots := 0, locals := 0 }) s m ([.int x0] : List Value).toArray below meth cd H locs 0 0 Qz (F0 m 0 ls []) by rw [hH, hlo] at hgo; exact hgo
  refine lv_iload_n hx hb dX12_sizeOf_0 rfl (lv_at hl 0 rfl) ?_
  refine lv_if_ge (tgt := 9) hx hb dX12_sizeOf_1 (by decide) (fun c => ?_) (fun c => ?_)
  · skip
    have c_1 : 0 ≤ x0.toInt := (by have z := bn_le c; have k1 : (0 : Int32).toInt = 0 := (by decide); omega)
    refine lv_iload_n hx hb dX12_sizeOf_9 rfl (lv_at hl 0 rfl) ?_
    exact hret _ _ _ _ (x0) f L Q dX12_sizeOf_10 hP hS ⟨⟨rfl, rfl, rfl⟩, (by first | exact Or.inl (by omega) | exact Or.inr ((by omega)))⟩
  · skip
    have c_2 : x0.toInt < 0 := (by have z := bn_nle c; have k1 : (0 : Int32).toInt = 0 := (by decide); omega)
    refine lv_iload_n hx hb dX12_sizeOf_4 rfl (lv_at hl 0 rfl) ?_
    refine lv_ineg hx hb dX12_sizeOf_5 ?_
    refine lv_topi (fun v_3 ev_3 => ?_)
    have q_4 : v_3.toInt = -x0.toInt := by rw [ev_3]; exact bn_negI (by omega)
    refine lv_goto (tgt := 10) hx hb dX12_sizeOf_6 (by decide) ?_
    exact hret _ _ _ _ (v_3) f L Q dX12_sizeOf_10 hP hS ⟨⟨rfl, rfl, rfl⟩, (by first | exact Or.inl (by omega) | exact Or.inr ((by omega)))⟩

set_option maxHeartbeats 4000000 in
set_option maxRecDepth 100000 in
theorem cf_X12_set (l : Launch) (D : va_G) (ca : Nat → ClassId) (za h : Nat → Nat) (hh : sgH 26 h) (x0 : Int32) (x1 : Int32) (sz : Nat) : Met l yX12_set gwX12_set { frames := 2, cells := 0, slots := 0, locals := 46 } (sgP D vwCl (tyX ca) 26 h (eM ca h) zcM za f0M L0 Q0 sz [.ref (h 0), .int x0, .int x1]) (sgQi D vwCl 26 h (eM ca h) sz (fun r f1 L1 Q1 => True ∧ (((0 ≤ x0.toInt ∧ x0.toInt ≤ 2) ∧ (0 ≤ x1.toInt ∧ x1.toInt ≤ 60) ∧ ((30 ≤ x1.toInt ∧ r.toInt = x1.toInt - 30) ∨ (x1.toInt < 30 ∧ r.toInt = 30 - x1.toInt))) ∨ (r = (-1) ∧ (¬ ((0 ≤ x0.toInt ∧ x0.toInt ≤ 2) ∧ (0 ≤ x1.toInt ∧ x1.toInt ≤ 60))))))) 0 0 (sgA 26 h sz) := by
  refine sg_ofWi (cc := cX12_set) (maxL := 4) RX12 (by decide) rfl rfl (Nat.le_of_ble_eq_true rfl) ?_
  intro p e s m below meth cd Qz ls hx hb hml hown hts hK hZ hP hS hl hret
  have hA := sgY.self (n := 26) (h := h) (sz := s.heap.size)
  have hl : lv_has ls 4 [(0, .ref (h 0)), (1, .int x0), (2, .int x1)] := hl
  obtain ⟨H, hH⟩ : ∃ z : Heap, z = s.heap := ⟨_, rfl⟩
  obtain ⟨locs, hlo⟩ : ∃ z : List Loc, z = [] := ⟨_, rfl⟩
  have hP : va_P D vwCl (sgw 26 h (eM ca h) f0M L0 Q0) H := by rw [hH]; exact hP
  have hS : va_S (sgA 26 h s.heap.size) s.heap H locs := by rw [hH, hlo]; exact hS
  suffices hgo : W p l e ({ frames := 2, cells := 0, slots := 0, locals := 46 }) s m ([.ref (h 0), .int x0, .int x1] : List Value).toArray below meth cd H locs 0 0 Qz (F0 m 0 ls []) by rw [hH, hlo] at hgo; exact hgo
  refine lv_iload_n hx hb dX12_set_0 rfl (lv_at hl 1 rfl) ?_
  refine sg_calli (va_runS (As := [.int x0]) (rest := []) ⟨hx, hb, hml, hown, hts⟩ (cf_X12_isPart l D ca za h hh f0M L0 Q0 x0 H.size) (va_cwS 1 hts (gw_S (fun _ h => List.mem_cons_of_mem _ h) mw_235 mw_236 mw_217 mw_234) rfl rfl rfl (by decide +kernel) ⟨Nat.le_of_ble_eq_true rfl, Nat.le_of_ble_eq_true rfl⟩) (sg_preS hA hK hP hS hZ) rfl rfl hl.1 rfl (lv_room (Nat.le_of_ble_eq_true rfl)) dX12_set_1 ⟨Nat.le_refl _, Nat.le_refl _⟩) hA hS (fun r_4 f_1 L_2 Q_3 H locs hq hP hS => ?_)
  obtain ⟨⟨ef9, eL9, eQ9⟩, hq⟩ := hq
  rw [ef9, eL9, eQ9] at hP; clear ef9 eL9 eQ9
  rcases hq with ⟨rfl, hq⟩ | ⟨rfl, hq⟩
  · skip
    have q_5 := hq
    refine lv_if_eq (tgt := 15) hx hb dX12_set_4 (by decide) (fun c => absurd c (by decide)) (fun c => ?_)
    refine lv_iload_n hx hb dX12_set_7 rfl (lv_at hl 2 rfl) ?_
    obtain ⟨w_6, ew_6⟩ : ∃ z : Int64, z = x1.toInt64 := ⟨_, rfl⟩
    have q_7 : w_6.toInt = x1.toInt := by rw [ew_6]; exact Int32.toInt_toInt64 _
    refine lv_i2l (v := w_6) hx hb dX12_set_8 ew_6.symm ?_
    refine sg_calli (va_runS (As := [.long w_6]) (rest := []) ⟨hx, hb, hml, hown, hts⟩ (cf_X12_isSetting l D ca za h hh f0M L0 Q0 w_6 H.size) (va_cwS 1 hts (gw_S (fun _ h => List.mem_cons_of_mem _ h) mw_238 mw_239 mw_217 mw_237) rfl rfl rfl (by decide +kernel) ⟨Nat.le_of_ble_eq_true rfl, Nat.le_of_ble_eq_true rfl⟩) (sg_preS hA hK hP hS hZ) rfl rfl hl.1 rfl (lv_room (Nat.le_of_ble_eq_true rfl)) dX12_set_9 ⟨Nat.le_refl _, Nat.le_refl _⟩) hA hS (fun r_11 f_8 L_9 Q_10 H locs hq hP hS => ?_)
    obtain ⟨⟨ef9, eL9, eQ9⟩, hq⟩ := hq
    rw [ef9, eL9, eQ9] at hP; clear ef9 eL9 eQ9
    rcases hq with ⟨rfl, hq⟩ | ⟨rfl, hq⟩
    · skip
      have q_12 := hq
      refine lv_if_ne (tgt := 17) hx hb dX12_set_12 (by decide) (fun c => ?_) (fun c => absurd c (by decide))
      refine lv_iload_n hx hb dX12_set_17 rfl (lv_at hl 2 rfl) ?_
      refine lv_aload_n hx hb dX12_set_18 rfl (lv_at hl 0 rfl) ?_
      refine sg_get (ci := 12) (v := .ref (h 5)) (C := RX12) (T := TX12) (N := 55) hx hb hts (fun w h => List.mem_cons_of_mem _ (gx_12 w h)) hown hK hP 0 (by decide) rfl rfl 7 (by decide) (hts _ (List.mem_cons_of_mem _ mw_269)) (fun _ h9 => h9) rfl dX12_set_19 ?_
      refine lv_iload_n hx hb dX12_set_22 rfl (lv_at hl 1 rfl) ?_
      refine sg_iald hx hb hK hP 5 (by decide) 0 rfl rfl (i := x0) (vp_in_iff.mpr ⟨by omega, by omega⟩) dX12_set_23 ?_
      refine lv_topi (fun v_13 ev_13 => ?_)
      have q_14 : v_13.toInt = 30 := by rw [ev_13, f0M_st (by omega) (by omega)]; decide
      refine lv_isub hx hb dX12_set_24 ?_
      refine lv_topi (fun v_15 ev_15 => ?_)
      have q_16 : v_15.toInt = x1.toInt - v_13.toInt := by rw [ev_15]; exact (bn_subI (by omega) (by omega)).trans (by omega)
      refine sg_calli (va_runS (As := [.int v_15]) (rest := []) ⟨hx, hb, hml, hown, hts⟩ (cf_X12_sizeOf l D ca za h hh f0M L0 Q0 v_15 (by first | omega | decide) H.size) (va_cwS 1 hts (gw_S (fun _ h => List.mem_cons_of_mem _ h) mw_322 mw_323 mw_217 mw_321) rfl rfl rfl (by decide +kernel) ⟨Nat.le_of_ble_eq_true rfl, Nat.le_of_ble_eq_true rfl⟩) (sg_preS hA hK hP hS hZ) rfl rfl hl.1 rfl (lv_room (Nat.le_of_ble_eq_true rfl)) dX12_set_25 ⟨Nat.le_refl _, Nat.le_refl _⟩) hA hS (fun r_20 f_17 L_18 Q_19 H locs hq hP hS => ?_)
      obtain ⟨⟨ef9, eL9, eQ9⟩, hq⟩ := hq
      rw [ef9, eL9, eQ9] at hP; clear ef9 eL9 eQ9
      rcases hq with hq | hq
      · skip
        have q_21 := hq
        refine lv_istore_n (lv' := [(3, .int r_20), (0, .ref (h 0)), (1, .int x0), (2, .int x1)]) hx hb dX12_set_28 rfl hl (by decide) rfl (fun ls hl => ?_)
        refine lv_aload_n hx hb dX12_set_29 rfl (lv_at hl 1 rfl) ?_
        refine sg_get (ci := 12) (v := .ref (h 5)) (C := RX12) (T := TX12) (N := 55) hx hb hts (fun w h => List.mem_cons_of_mem _ (gx_12 w h)) hown hK hP 0 (by decide) rfl rfl 7 (by decide) (hts _ (List.mem_cons_of_mem _ mw_269)) (fun _ h9 => h9) rfl dX12_set_30 ?_
        refine lv_iload_n hx hb dX12_set_33 rfl (lv_at hl 2 rfl) ?_
        refine lv_iload_n hx hb dX12_set_34 rfl (lv_at hl 3 rfl) ?_
        refine sg_iast hx hb hh hA hK hP hS 5 (by decide) 0 (fun _ => rfl) rfl (i := x0) (x := x1) (vp_in_iff.mpr ⟨by omega, by omega⟩) dX12_set_35 (fun f_22 H locs ef_22 hP hS => ?_)
        refine lv_aload_n hx hb dX12_set_36 rfl (lv_at hl 1 rfl) ?_
        refine lv_dup hx hb dX12_set_37 rfl ?_
        refine sg_get (ci := 12) (v := .int 0) (C := RX12) (T := TX12) (N := 55) hx hb hts (fun w h => List.mem_cons_of_mem _ (gx_12 w h)) hown hK hP 0 (by decide) rfl rfl 39 (by decide) (hts _ (List.mem_cons_of_mem _ mw_324)) (fun _ h9 => h9) (congrArg (fun z => some (Value.int z)) (show f_22 0 39 = 0 from (by rw [ef_22]; exact rfl))) dX12_set_38 ?_
        refine lv_iload_n hx hb dX12_set_41 rfl (lv_at hl 0 rfl) ?_
        refine lv_iadd hx hb dX12_set_42 ?_
        refine lv_topi (fun v_23 ev_23 => ?_)
        have q_24 : v_23.toInt = 0 + r_20.toInt := by rw [ev_23]; have k0 : (0 : Int32).toInt = 0 := (by decide); exact (bn_addI (by omega) (by omega)).trans (by omega)
        refine sg_put (ci := 12) (x := v_23) (ty := .int) (C := RX12) (T := TX12) (N := 55) hx hb hts (fun w h => List.mem_cons_of_mem _ (gx_12 w h)) tyX12 tyX12_ok nmX12 hown hh hA hK hP hS 0 (by decide) rfl rfl 39 (by decide) (hts _ (List.mem_cons_of_mem _ mw_324)) (fun _ h9 => h9) rfl rfl (by decide +kernel) rfl rfl (Nat.le_of_ble_eq_true rfl) dX12_set_43 (fun f_25 H locs ef_25 hP hS => ?_)
        refine lv_iload_n hx hb dX12_set_46 rfl (lv_at hl 0 rfl) ?_
        exact hret _ _ _ _ (r_20) f_25 L0 Q0 dX12_set_47 hP hS ⟨trivial, (by first | exact Or.inl (by omega) | exact Or.inr (⟨Int32.toInt_inj.mp (by have k9 : ((-1) : Int32).toInt = (-1) := (by decide); omega), by omega⟩))⟩
      · skip
        have q_26 := hq
        refine lv_istore_n (lv' := [(3, .int r_20), (0, .ref (h 0)), (1, .int x0), (2, .int x1)]) hx hb dX12_set_28 rfl hl (by decide) rfl (fun ls hl => ?_)
        refine lv_aload_n hx hb dX12_set_29 rfl (lv_at hl 1 rfl) ?_
        refine sg_get (ci := 12) (v := .ref (h 5)) (C := RX12) (T := TX12) (N := 55) hx hb hts (fun w h => List.mem_cons_of_mem _ (gx_12 w h)) hown hK hP 0 (by decide) rfl rfl 7 (by decide) (hts _ (List.mem_cons_of_mem _ mw_269)) (fun _ h9 => h9) rfl dX12_set_30 ?_
        refine lv_iload_n hx hb dX12_set_33 rfl (lv_at hl 2 rfl) ?_
        refine lv_iload_n hx hb dX12_set_34 rfl (lv_at hl 3 rfl) ?_
        refine sg_iast hx hb hh hA hK hP hS 5 (by decide) 0 (fun _ => rfl) rfl (i := x0) (x := x1) (vp_in_iff.mpr ⟨by omega, by omega⟩) dX12_set_35 (fun f_27 H locs ef_27 hP hS => ?_)
        refine lv_aload_n hx hb dX12_set_36 rfl (lv_at hl 1 rfl) ?_
        refine lv_dup hx hb dX12_set_37 rfl ?_
        refine sg_get (ci := 12) (v := .int 0) (C := RX12) (T := TX12) (N := 55) hx hb hts (fun w h => List.mem_cons_of_mem _ (gx_12 w h)) hown hK hP 0 (by decide) rfl rfl 39 (by decide) (hts _ (List.mem_cons_of_mem _ mw_324)) (fun _ h9 => h9) (congrArg (fun z => some (Value.int z)) (show f_27 0 39 = 0 from (by rw [ef_27]; exact rfl))) dX12_set_38 ?_
        refine lv_iload_n hx hb dX12_set_41 rfl (lv_at hl 0 rfl) ?_
        refine lv_iadd hx hb dX12_set_42 ?_
        refine lv_topi (fun v_28 ev_28 => ?_)
        have q_29 : v_28.toInt = 0 + r_20.toInt := by rw [ev_28]; have k0 : (0 : Int32).toInt = 0 := (by decide); exact (bn_addI (by omega) (by omega)).trans (by omega)
        refine sg_put (ci := 12) (x := v_28) (ty := .int) (C := RX12) (T := TX12) (N := 55) hx hb hts (fun w h => List.mem_cons_of_mem _ (gx_12 w h)) tyX12 tyX12_ok nmX12 hown hh hA hK hP hS 0 (by decide) rfl rfl 39 (by decide) (hts _ (List.mem_cons_of_mem _ mw_324)) (fun _ h9 => h9) rfl rfl (by decide +kernel) rfl rfl (Nat.le_of_ble_eq_true rfl) dX12_set_43 (fun f_30 H locs ef_30 hP hS => ?_)
        refine lv_iload_n hx hb dX12_set_46 rfl (lv_at hl 0 rfl) ?_
        exact hret _ _ _ _ (r_20) f_30 L0 Q0 dX12_set_47 hP hS ⟨trivial, (by first | exact Or.inl (by omega) | exact Or.inr (⟨Int32.toInt_inj.mp (by have k9 : ((-1) : Int32).toInt = (-1) := (by decide); omega), by omega⟩))⟩
    · skip
      have q_31 := hq
      refine lv_if_ne (tgt := 17) hx hb dX12_set_12 (by decide) (fun c => absurd c (by decide)) (fun c => ?_)
      refine lv_iconst (v := (-1)) hx hb dX12_set_15 (by decide) ?_
      exact hret _ _ _ _ (-1) f0M L0 Q0 dX12_set_16 hP hS ⟨trivial, (by first | exact Or.inl (by have k9 : ((-1) : Int32).toInt = (-1) := (by decide); omega) | exact Or.inr (⟨rfl, by omega⟩))⟩
  · skip
    have q_32 := hq
    refine lv_if_eq (tgt := 15) hx hb dX12_set_4 (by decide) (fun c => ?_) (fun c => absurd c (by decide))
    refine lv_iconst (v := (-1)) hx hb dX12_set_15 (by decide) ?_
    exact hret _ _ _ _ (-1) f0M L0 Q0 dX12_set_16 hP hS ⟨trivial, (by first | exact Or.inl (by have k9 : ((-1) : Int32).toInt = (-1) := (by decide); omega) | exact Or.inr (⟨rfl, by omega⟩))⟩

set_option maxHeartbeats 4000000 in
set_option maxRecDepth 100000 in
theorem cf_X12_slipped_0 (l : Launch) (D : va_G) (ca : Nat → ClassId) (za h : Nat → Nat) (hh : sgH 26 h) (f : sg_F) (L : sg_L) (Q : sg_Q) (hs : f 1 64 = 0) (sz : Nat) : Met l yX12_slipped gwX12_slipped { frames := 0, cells := 0, slots := 0, locals := 0 } (sgP D vwCl (tyX ca) 26 h (eM ca h) zcM za f L Q sz [.ref (h 0), .int 0, .int 30]) (sgQi D vwCl 26 h (eM ca h) sz (fun r f1 L1 Q1 => (f1 = f ∧ L1 = L ∧ Q1 = Q) ∧ ((r = 30 ∧ (True))))) 0 0 (sgA 26 h sz) := by
  refine sg_ofWi (cc := cX12_slipped) (maxL := 4) RX12 (by decide) rfl rfl (Nat.le_of_ble_eq_true rfl) ?_
  intro p e s m below meth cd Qz ls hx hb hml hown hts hK hZ hP hS hl hret
  have hA := sgY.self (n := 26) (h := h) (sz := s.heap.size)
  have hl : lv_has ls 4 [(0, .ref (h 0)), (1, .int 0), (2, .int 30)] := hl
  obtain ⟨H, hH⟩ : ∃ z : Heap, z = s.heap := ⟨_, rfl⟩
  obtain ⟨locs, hlo⟩ : ∃ z : List Loc, z = [] := ⟨_, rfl⟩
  have hP : va_P D vwCl (sgw 26 h (eM ca h) f L Q) H := by rw [hH]; exact hP
  have hS : va_S (sgA 26 h s.heap.size) s.heap H locs := by rw [hH, hlo]; exact hS
  suffices hgo : W p l e ({ frames := 0, cells := 0, slots := 0, locals := 0 }) s m ([.ref (h 0), .int 0, .int 30] : List Value).toArray below meth cd H locs 0 0 Qz (F0 m 0 ls []) by rw [hH, hlo] at hgo; exact hgo
  refine lv_iload_n hx hb dX12_slipped_0 rfl (lv_at hl 2 rfl) ?_
  refine lv_aload_n hx hb dX12_slipped_1 rfl (lv_at hl 0 rfl) ?_
  refine sg_get (ci := 12) (v := .ref (h 1)) (C := RX12) (T := TX12) (N := 55) hx hb hts (fun w h => List.mem_cons_of_mem _ (gx_12 w h)) hown hK hP 0 (by decide) rfl rfl 0 (by decide) (hts _ (List.mem_cons_of_mem _ mw_244)) (fun _ h9 => h9) rfl dX12_slipped_2 ?_
  refine lv_bipush (v := 64) hx hb dX12_slipped_5 (by decide) ?_
  refine lv_iload_n hx hb dX12_slipped_7 rfl (lv_at hl 1 rfl) ?_
  refine lv_iadd hx hb dX12_slipped_8 ?_
  refine W.eq (g2 := F0 m 9 ls [.int 64, .ref (h 1), .int 30]) (by rw [show (64 + 0 : Int32) = 64 from by decide]) ?_
  refine sg_iald hx hb hK hP 1 (by decide) 0 rfl rfl (i := 64) (vp_in_iff.mpr (by decide)) dX12_slipped_9 ?_
  refine W.eq (g2 := F0 m 10 ls [.int 0, .int 30]) (by rw [show f 1 (Int32.toNatClampNeg 64) = 0 from hs]) ?_
  refine lv_isub hx hb dX12_slipped_10 ?_
  refine W.eq (g2 := F0 m 11 ls [.int 30]) (by rw [show (30 - 0 : Int32) = 30 from by decide]) ?_
  refine lv_istore_n (lv' := [(3, .int 30), (0, .ref (h 0)), (1, .int 0), (2, .int 30)]) hx hb dX12_slipped_11 rfl hl (by decide) rfl (fun ls hl => ?_)
  refine lv_iload_n hx hb dX12_slipped_12 rfl (lv_at hl 0 rfl) ?_
  refine lv_if_ge (tgt := 20) hx hb dX12_slipped_13 (by decide) (fun c => ?_) (fun c => absurd c (by decide))
  refine lv_iload_n hx hb dX12_slipped_20 rfl (lv_at hl 0 rfl) ?_
  exact hret _ _ _ _ (30) f L Q dX12_slipped_21 hP hS ⟨⟨rfl, rfl, rfl⟩, ⟨rfl, trivial⟩⟩

set_option maxHeartbeats 4000000 in
set_option maxRecDepth 100000 in
theorem cf_X12_slipped_1 (l : Launch) (D : va_G) (ca : Nat → ClassId) (za h : Nat → Nat) (hh : sgH 26 h) (f : sg_F) (L : sg_L) (Q : sg_Q) (hs : f 1 65 = 0) (sz : Nat) : Met l yX12_slipped gwX12_slipped { frames := 0, cells := 0, slots := 0, locals := 0 } (sgP D vwCl (tyX ca) 26 h (eM ca h) zcM za f L Q sz [.ref (h 0), .int 1, .int 30]) (sgQi D vwCl 26 h (eM ca h) sz (fun r f1 L1 Q1 => (f1 = f ∧ L1 = L ∧ Q1 = Q) ∧ ((r = 30 ∧ (True))))) 0 0 (sgA 26 h sz) := by
  refine sg_ofWi (cc := cX12_slipped) (maxL := 4) RX12 (by decide) rfl rfl (Nat.le_of_ble_eq_true rfl) ?_
  intro p e s m below meth cd Qz ls hx hb hml hown hts hK hZ hP hS hl hret
  have hA := sgY.self (n := 26) (h := h) (sz := s.heap.size)
  have hl : lv_has ls 4 [(0, .ref (h 0)), (1, .int 1), (2, .int 30)] := hl
  obtain ⟨H, hH⟩ : ∃ z : Heap, z = s.heap := ⟨_, rfl⟩
  obtain ⟨locs, hlo⟩ : ∃ z : List Loc, z = [] := ⟨_, rfl⟩
  have hP : va_P D vwCl (sgw 26 h (eM ca h) f L Q) H := by rw [hH]; exact hP
  have hS : va_S (sgA 26 h s.heap.size) s.heap H locs := by rw [hH, hlo]; exact hS
  suffices hgo : W p l e ({ frames := 0, cells := 0, slots := 0, locals := 0 }) s m ([.ref (h 0), .int 1, .int 30] : List Value).toArray below meth cd H locs 0 0 Qz (F0 m 0 ls []) by rw [hH, hlo] at hgo; exact hgo
  refine lv_iload_n hx hb dX12_slipped_0 rfl (lv_at hl 2 rfl) ?_
  refine lv_aload_n hx hb dX12_slipped_1 rfl (lv_at hl 0 rfl) ?_
  refine sg_get (ci := 12) (v := .ref (h 1)) (C := RX12) (T := TX12) (N := 55) hx hb hts (fun w h => List.mem_cons_of_mem _ (gx_12 w h)) hown hK hP 0 (by decide) rfl rfl 0 (by decide) (hts _ (List.mem_cons_of_mem _ mw_244)) (fun _ h9 => h9) rfl dX12_slipped_2 ?_
  refine lv_bipush (v := 64) hx hb dX12_slipped_5 (by decide) ?_
  refine lv_iload_n hx hb dX12_slipped_7 rfl (lv_at hl 1 rfl) ?_
  refine lv_iadd hx hb dX12_slipped_8 ?_
  refine W.eq (g2 := F0 m 9 ls [.int 65, .ref (h 1), .int 30]) (by rw [show (64 + 1 : Int32) = 65 from by decide]) ?_
  refine sg_iald hx hb hK hP 1 (by decide) 0 rfl rfl (i := 65) (vp_in_iff.mpr (by decide)) dX12_slipped_9 ?_
  refine W.eq (g2 := F0 m 10 ls [.int 0, .int 30]) (by rw [show f 1 (Int32.toNatClampNeg 65) = 0 from hs]) ?_
  refine lv_isub hx hb dX12_slipped_10 ?_
  refine W.eq (g2 := F0 m 11 ls [.int 30]) (by rw [show (30 - 0 : Int32) = 30 from by decide]) ?_
  refine lv_istore_n (lv' := [(3, .int 30), (0, .ref (h 0)), (1, .int 1), (2, .int 30)]) hx hb dX12_slipped_11 rfl hl (by decide) rfl (fun ls hl => ?_)
  refine lv_iload_n hx hb dX12_slipped_12 rfl (lv_at hl 0 rfl) ?_
  refine lv_if_ge (tgt := 20) hx hb dX12_slipped_13 (by decide) (fun c => ?_) (fun c => absurd c (by decide))
  refine lv_iload_n hx hb dX12_slipped_20 rfl (lv_at hl 0 rfl) ?_
  exact hret _ _ _ _ (30) f L Q dX12_slipped_21 hP hS ⟨⟨rfl, rfl, rfl⟩, ⟨rfl, trivial⟩⟩

set_option maxHeartbeats 4000000 in
set_option maxRecDepth 100000 in
theorem cf_X12_slipped_2 (l : Launch) (D : va_G) (ca : Nat → ClassId) (za h : Nat → Nat) (hh : sgH 26 h) (f : sg_F) (L : sg_L) (Q : sg_Q) (hs : f 1 66 = 0) (sz : Nat) : Met l yX12_slipped gwX12_slipped { frames := 0, cells := 0, slots := 0, locals := 0 } (sgP D vwCl (tyX ca) 26 h (eM ca h) zcM za f L Q sz [.ref (h 0), .int 2, .int 30]) (sgQi D vwCl 26 h (eM ca h) sz (fun r f1 L1 Q1 => (f1 = f ∧ L1 = L ∧ Q1 = Q) ∧ ((r = 30 ∧ (True))))) 0 0 (sgA 26 h sz) := by
  refine sg_ofWi (cc := cX12_slipped) (maxL := 4) RX12 (by decide) rfl rfl (Nat.le_of_ble_eq_true rfl) ?_
  intro p e s m below meth cd Qz ls hx hb hml hown hts hK hZ hP hS hl hret
  have hA := sgY.self (n := 26) (h := h) (sz := s.heap.size)
  have hl : lv_has ls 4 [(0, .ref (h 0)), (1, .int 2), (2, .int 30)] := hl
  obtain ⟨H, hH⟩ : ∃ z : Heap, z = s.heap := ⟨_, rfl⟩
  obtain ⟨locs, hlo⟩ : ∃ z : List Loc, z = [] := ⟨_, rfl⟩
  have hP : va_P D vwCl (sgw 26 h (eM ca h) f L Q) H := by rw [hH]; exact hP
  have hS : va_S (sgA 26 h s.heap.size) s.heap H locs := by rw [hH, hlo]; exact hS
  suffices hgo : W p l e ({ frames := 0, cells := 0, slots := 0, locals := 0 }) s m ([.ref (h 0), .int 2, .int 30] : List Value).toArray below meth cd H locs 0 0 Qz (F0 m 0 ls []) by rw [hH, hlo] at hgo; exact hgo
  refine lv_iload_n hx hb dX12_slipped_0 rfl (lv_at hl 2 rfl) ?_
  refine lv_aload_n hx hb dX12_slipped_1 rfl (lv_at hl 0 rfl) ?_
  refine sg_get (ci := 12) (v := .ref (h 1)) (C := RX12) (T := TX12) (N := 55) hx hb hts (fun w h => List.mem_cons_of_mem _ (gx_12 w h)) hown hK hP 0 (by decide) rfl rfl 0 (by decide) (hts _ (List.mem_cons_of_mem _ mw_244)) (fun _ h9 => h9) rfl dX12_slipped_2 ?_
  refine lv_bipush (v := 64) hx hb dX12_slipped_5 (by decide) ?_
  refine lv_iload_n hx hb dX12_slipped_7 rfl (lv_at hl 1 rfl) ?_
  refine lv_iadd hx hb dX12_slipped_8 ?_
  refine W.eq (g2 := F0 m 9 ls [.int 66, .ref (h 1), .int 30]) (by rw [show (64 + 2 : Int32) = 66 from by decide]) ?_
  refine sg_iald hx hb hK hP 1 (by decide) 0 rfl rfl (i := 66) (vp_in_iff.mpr (by decide)) dX12_slipped_9 ?_
  refine W.eq (g2 := F0 m 10 ls [.int 0, .int 30]) (by rw [show f 1 (Int32.toNatClampNeg 66) = 0 from hs]) ?_
  refine lv_isub hx hb dX12_slipped_10 ?_
  refine W.eq (g2 := F0 m 11 ls [.int 30]) (by rw [show (30 - 0 : Int32) = 30 from by decide]) ?_
  refine lv_istore_n (lv' := [(3, .int 30), (0, .ref (h 0)), (1, .int 2), (2, .int 30)]) hx hb dX12_slipped_11 rfl hl (by decide) rfl (fun ls hl => ?_)
  refine lv_iload_n hx hb dX12_slipped_12 rfl (lv_at hl 0 rfl) ?_
  refine lv_if_ge (tgt := 20) hx hb dX12_slipped_13 (by decide) (fun c => ?_) (fun c => absurd c (by decide))
  refine lv_iload_n hx hb dX12_slipped_20 rfl (lv_at hl 0 rfl) ?_
  exact hret _ _ _ _ (30) f L Q dX12_slipped_21 hP hS ⟨⟨rfl, rfl, rfl⟩, ⟨rfl, trivial⟩⟩

set_option maxHeartbeats 4000000 in
set_option maxRecDepth 100000 in
theorem cf_X12_night (l : Launch) (D : va_G) (ca : Nat → ClassId) (za h : Nat → Nat) (hh : sgH 26 h)  (sz : Nat) : Met l yX12_night gwX12_night { frames := 1, cells := 0, slots := 0, locals := 23 } (sgP D vwCl (tyX ca) 26 h (eM ca h) zcM za f0M L0 Q0 sz [.ref (h 0)]) (sgQi D vwCl 26 h (eM ca h) sz (fun r f1 L1 Q1 => True ∧ ((r = 0 ∧ (True))))) 0 0 (sgA 26 h sz) := by
  refine sg_ofWi (cc := cX12_night) (maxL := 4) RX12 (by decide) rfl rfl (Nat.le_of_ble_eq_true rfl) ?_
  intro p e s m below meth cd Qz ls hx hb hml hown hts hK hZ hP hS hl hret
  have hA := sgY.self (n := 26) (h := h) (sz := s.heap.size)
  have hl : lv_has ls 4 [(0, .ref (h 0))] := hl
  obtain ⟨H, hH⟩ : ∃ z : Heap, z = s.heap := ⟨_, rfl⟩
  obtain ⟨locs, hlo⟩ : ∃ z : List Loc, z = [] := ⟨_, rfl⟩
  have hP : va_P D vwCl (sgw 26 h (eM ca h) f0M L0 Q0) H := by rw [hH]; exact hP
  have hS : va_S (sgA 26 h s.heap.size) s.heap H locs := by rw [hH, hlo]; exact hS
  suffices hgo : W p l e ({ frames := 1, cells := 0, slots := 0, locals := 23 }) s m ([.ref (h 0)] : List Value).toArray below meth cd H locs 0 0 Qz (F0 m 0 ls []) by rw [hH, hlo] at hgo; exact hgo
  refine lv_iconst (v := 0) hx hb dX12_night_0 (by decide) ?_
  refine lv_istore_n (lv' := [(1, .int 0), (0, .ref (h 0))]) hx hb dX12_night_1 rfl hl (by decide) rfl (fun ls hl => ?_)
  refine lv_iconst (v := 0) hx hb dX12_night_2 (by decide) ?_
  refine lv_istore_n (lv' := [(2, .int 0), (1, .int 0), (0, .ref (h 0))]) hx hb dX12_night_3 rfl hl (by decide) rfl (fun ls hl => ?_)
  refine lv_iload_n hx hb dX12_night_4 rfl (lv_at hl 0 rfl) ?_
  refine lv_iconst (v := 3) hx hb dX12_night_5 (by decide) ?_
  refine lv_icmp_ge (tgt := 52) hx hb dX12_night_6 (by decide) (fun c => absurd c (by decide)) (fun c => ?_)
  refine lv_aload_n hx hb dX12_night_9 rfl (lv_at hl 2 rfl) ?_
  refine lv_iload_n hx hb dX12_night_10 rfl (lv_at hl 0 rfl) ?_
  refine lv_aload_n hx hb dX12_night_11 rfl (lv_at hl 2 rfl) ?_
  refine sg_get (ci := 12) (v := .ref (h 5)) (C := RX12) (T := TX12) (N := 55) hx hb hts (fun w h => List.mem_cons_of_mem _ (gx_12 w h)) hown hK hP 0 (by decide) rfl rfl 7 (by decide) (hts _ (List.mem_cons_of_mem _ mw_269)) (fun _ h9 => h9) rfl dX12_night_12 ?_
  refine lv_iload_n hx hb dX12_night_15 rfl (lv_at hl 0 rfl) ?_
  refine sg_iald hx hb hK hP 5 (by decide) 0 rfl rfl (i := 0) (vp_in_iff.mpr (by decide)) dX12_night_16 ?_
  refine W.eq (g2 := F0 m 17 ls [.int 30, .int 0, .ref (h 0)]) (by rw [show f0M 5 (Int32.toNatClampNeg 0) = 30 from rfl]) ?_
  refine sg_calli (va_runV (As := [.int 0, .int 30]) (rest := []) ⟨hx, hb, hml, hown, hts⟩ (cf_X12_slipped_0 l D ca za h hh f0M L0 Q0 rfl H.size) (cwV 2 hts (gw_V (fun _ h => List.mem_cons_of_mem _ h) mw_326 mw_327 mw_328 mw_217 mw_325) rfl rfl rfl (by decide +kernel) ⟨Nat.le_of_ble_eq_true rfl, Nat.le_of_ble_eq_true rfl⟩) (sg_preV (ci := 12) (C := RX12) (T := TX12) (N := 55) hA hK hP hS hZ 0 (by decide) rfl rfl) rfl rfl hl.1 rfl (lv_room (Nat.le_of_ble_eq_true rfl)) dX12_night_17 ⟨Nat.le_refl _, Nat.le_refl _⟩) hA hS (fun r_4 f_1 L_2 Q_3 H locs hq hP hS => ?_)
  obtain ⟨⟨ef9, eL9, eQ9⟩, hq⟩ := hq
  rw [ef9, eL9, eQ9] at hP; clear ef9 eL9 eQ9
  have k_5 : (0 : Int32).toInt = 0 := by decide
  have k_6 : (30 : Int32).toInt = 30 := by decide
  obtain ⟨rfl, hq⟩ := hq
  have q_7 := hq
  refine lv_istore_n (lv' := [(3, .int 30), (2, .int 0), (1, .int 0), (0, .ref (h 0))]) hx hb dX12_night_20 rfl hl (by decide) rfl (fun ls hl => ?_)
  refine lv_iload_n hx hb dX12_night_21 rfl (lv_at hl 2 rfl) ?_
  refine lv_iload_n hx hb dX12_night_22 rfl (lv_at hl 0 rfl) ?_
  refine lv_aload_n hx hb dX12_night_23 rfl (lv_at hl 3 rfl) ?_
  refine sg_get (ci := 12) (v := .ref (h 5)) (C := RX12) (T := TX12) (N := 55) hx hb hts (fun w h => List.mem_cons_of_mem _ (gx_12 w h)) hown hK hP 0 (by decide) rfl rfl 7 (by decide) (hts _ (List.mem_cons_of_mem _ mw_269)) (fun _ h9 => h9) rfl dX12_night_24 ?_
  refine lv_iload_n hx hb dX12_night_27 rfl (lv_at hl 1 rfl) ?_
  refine sg_iald hx hb hK hP 5 (by decide) 0 rfl rfl (i := 0) (vp_in_iff.mpr (by decide)) dX12_night_28 ?_
  refine W.eq (g2 := F0 m 29 ls [.int 30, .int 30, .int 0]) (by rw [show f0M 5 (Int32.toNatClampNeg 0) = 30 from rfl]) ?_
  refine lv_icmp_ge (tgt := 36) hx hb dX12_night_29 (by decide) (fun c => ?_) (fun c => absurd c (by decide))
  refine lv_iconst (v := 0) hx hb dX12_night_36 (by decide) ?_
  refine lv_iadd hx hb dX12_night_37 ?_
  refine W.eq (g2 := F0 m 38 ls [.int 0]) (by rw [show (0 + 0 : Int32) = 0 from by decide]) ?_
  refine lv_istore_n (lv' := [(1, .int 0), (3, .int 30), (2, .int 0), (0, .ref (h 0))]) hx hb dX12_night_38 rfl hl (by decide) rfl (fun ls hl => ?_)
  refine lv_aload_n hx hb dX12_night_39 rfl (lv_at hl 3 rfl) ?_
  refine sg_get (ci := 12) (v := .ref (h 5)) (C := RX12) (T := TX12) (N := 55) hx hb hts (fun w h => List.mem_cons_of_mem _ (gx_12 w h)) hown hK hP 0 (by decide) rfl rfl 7 (by decide) (hts _ (List.mem_cons_of_mem _ mw_269)) (fun _ h9 => h9) rfl dX12_night_40 ?_
  refine lv_iload_n hx hb dX12_night_43 rfl (lv_at hl 2 rfl) ?_
  refine lv_iload_n hx hb dX12_night_44 rfl (lv_at hl 1 rfl) ?_
  refine sg_iast hx hb hh hA hK hP hS 5 (by decide) 0 (fun _ => rfl) rfl (i := 0) (x := 30) (vp_in_iff.mpr (by decide)) dX12_night_45 (fun f_8 H locs ef_8 hP hS => ?_)
  refine lv_iinc (v := 1) (lv' := [(2, .int 1), (1, .int 0), (3, .int 30), (0, .ref (h 0))]) hx hb dX12_night_46 hl (k := 2) rfl (by decide) (by decide) rfl (fun ls hl => ?_)
  refine lv_goto (tgt := 4) hx hb dX12_night_49 (by decide) ?_
  refine lv_iload_n hx hb dX12_night_4 rfl (lv_at hl 0 rfl) ?_
  refine lv_iconst (v := 3) hx hb dX12_night_5 (by decide) ?_
  refine lv_icmp_ge (tgt := 52) hx hb dX12_night_6 (by decide) (fun c => absurd c (by decide)) (fun c => ?_)
  refine lv_aload_n hx hb dX12_night_9 rfl (lv_at hl 3 rfl) ?_
  refine lv_iload_n hx hb dX12_night_10 rfl (lv_at hl 0 rfl) ?_
  refine lv_aload_n hx hb dX12_night_11 rfl (lv_at hl 3 rfl) ?_
  refine sg_get (ci := 12) (v := .ref (h 5)) (C := RX12) (T := TX12) (N := 55) hx hb hts (fun w h => List.mem_cons_of_mem _ (gx_12 w h)) hown hK hP 0 (by decide) rfl rfl 7 (by decide) (hts _ (List.mem_cons_of_mem _ mw_269)) (fun _ h9 => h9) rfl dX12_night_12 ?_
  refine lv_iload_n hx hb dX12_night_15 rfl (lv_at hl 0 rfl) ?_
  refine sg_iald hx hb hK hP 5 (by decide) 0 rfl rfl (i := 1) (vp_in_iff.mpr (by decide)) dX12_night_16 ?_
  refine W.eq (g2 := F0 m 17 ls [.int 30, .int 1, .ref (h 0)]) (by rw [show f_8 5 (Int32.toNatClampNeg 1) = 30 from (by rw [ef_8]; exact rfl)]) ?_
  refine sg_calli (va_runV (As := [.int 1, .int 30]) (rest := []) ⟨hx, hb, hml, hown, hts⟩ (cf_X12_slipped_1 l D ca za h hh f_8 L0 Q0 ((by rw [ef_8]; exact rfl)) H.size) (cwV 2 hts (gw_V (fun _ h => List.mem_cons_of_mem _ h) mw_326 mw_327 mw_328 mw_217 mw_325) rfl rfl rfl (by decide +kernel) ⟨Nat.le_of_ble_eq_true rfl, Nat.le_of_ble_eq_true rfl⟩) (sg_preV (ci := 12) (C := RX12) (T := TX12) (N := 55) hA hK hP hS hZ 0 (by decide) rfl rfl) rfl rfl hl.1 rfl (lv_room (Nat.le_of_ble_eq_true rfl)) dX12_night_17 ⟨Nat.le_refl _, Nat.le_refl _⟩) hA hS (fun r_12 f_9 L_10 Q_11 H locs hq hP hS => ?_)
  obtain ⟨⟨ef9, eL9, eQ9⟩, hq⟩ := hq
  rw [ef9, eL9, eQ9] at hP; clear ef9 eL9 eQ9
  have k_13 : (1 : Int32).toInt = 1 := by decide
  have k_14 : (30 : Int32).toInt = 30 := by decide
  obtain ⟨rfl, hq⟩ := hq
  have q_15 := hq
  refine lv_istore_n (lv' := [(3, .int 30), (2, .int 1), (1, .int 0), (0, .ref (h 0))]) hx hb dX12_night_20 rfl hl (by decide) rfl (fun ls hl => ?_)
  refine lv_iload_n hx hb dX12_night_21 rfl (lv_at hl 2 rfl) ?_
  refine lv_iload_n hx hb dX12_night_22 rfl (lv_at hl 0 rfl) ?_
  refine lv_aload_n hx hb dX12_night_23 rfl (lv_at hl 3 rfl) ?_
  refine sg_get (ci := 12) (v := .ref (h 5)) (C := RX12) (T := TX12) (N := 55) hx hb hts (fun w h => List.mem_cons_of_mem _ (gx_12 w h)) hown hK hP 0 (by decide) rfl rfl 7 (by decide) (hts _ (List.mem_cons_of_mem _ mw_269)) (fun _ h9 => h9) rfl dX12_night_24 ?_
  refine lv_iload_n hx hb dX12_night_27 rfl (lv_at hl 1 rfl) ?_
  refine sg_iald hx hb hK hP 5 (by decide) 0 rfl rfl (i := 1) (vp_in_iff.mpr (by decide)) dX12_night_28 ?_
  refine W.eq (g2 := F0 m 29 ls [.int 30, .int 30, .int 0]) (by rw [show f_8 5 (Int32.toNatClampNeg 1) = 30 from (by rw [ef_8]; exact rfl)]) ?_
  refine lv_icmp_ge (tgt := 36) hx hb dX12_night_29 (by decide) (fun c => ?_) (fun c => absurd c (by decide))
  refine lv_iconst (v := 0) hx hb dX12_night_36 (by decide) ?_
  refine lv_iadd hx hb dX12_night_37 ?_
  refine W.eq (g2 := F0 m 38 ls [.int 0]) (by rw [show (0 + 0 : Int32) = 0 from by decide]) ?_
  refine lv_istore_n (lv' := [(1, .int 0), (3, .int 30), (2, .int 1), (0, .ref (h 0))]) hx hb dX12_night_38 rfl hl (by decide) rfl (fun ls hl => ?_)
  refine lv_aload_n hx hb dX12_night_39 rfl (lv_at hl 3 rfl) ?_
  refine sg_get (ci := 12) (v := .ref (h 5)) (C := RX12) (T := TX12) (N := 55) hx hb hts (fun w h => List.mem_cons_of_mem _ (gx_12 w h)) hown hK hP 0 (by decide) rfl rfl 7 (by decide) (hts _ (List.mem_cons_of_mem _ mw_269)) (fun _ h9 => h9) rfl dX12_night_40 ?_
  refine lv_iload_n hx hb dX12_night_43 rfl (lv_at hl 2 rfl) ?_
  refine lv_iload_n hx hb dX12_night_44 rfl (lv_at hl 1 rfl) ?_
  refine sg_iast hx hb hh hA hK hP hS 5 (by decide) 0 (fun _ => rfl) rfl (i := 1) (x := 30) (vp_in_iff.mpr (by decide)) dX12_night_45 (fun f_16 H locs ef_16 hP hS => ?_)
  refine lv_iinc (v := 2) (lv' := [(2, .int 2), (1, .int 0), (3, .int 30), (0, .ref (h 0))]) hx hb dX12_night_46 hl (k := 2) rfl (by decide) (by decide) rfl (fun ls hl => ?_)
  refine lv_goto (tgt := 4) hx hb dX12_night_49 (by decide) ?_
  refine lv_iload_n hx hb dX12_night_4 rfl (lv_at hl 0 rfl) ?_
  refine lv_iconst (v := 3) hx hb dX12_night_5 (by decide) ?_
  refine lv_icmp_ge (tgt := 52) hx hb dX12_night_6 (by decide) (fun c => absurd c (by decide)) (fun c => ?_)
  refine lv_aload_n hx hb dX12_night_9 rfl (lv_at hl 3 rfl) ?_
  refine lv_iload_n hx hb dX12_night_10 rfl (lv_at hl 0 rfl) ?_
  refine lv_aload_n hx hb dX12_night_11 rfl (lv_at hl 3 rfl) ?_
  refine sg_get (ci := 12) (v := .ref (h 5)) (C := RX12) (T := TX12) (N := 55) hx hb hts (fun w h => List.mem_cons_of_mem _ (gx_12 w h)) hown hK hP 0 (by decide) rfl rfl 7 (by decide) (hts _ (List.mem_cons_of_mem _ mw_269)) (fun _ h9 => h9) rfl dX12_night_12 ?_
  refine lv_iload_n hx hb dX12_night_15 rfl (lv_at hl 0 rfl) ?_
  refine sg_iald hx hb hK hP 5 (by decide) 0 rfl rfl (i := 2) (vp_in_iff.mpr (by decide)) dX12_night_16 ?_
  refine W.eq (g2 := F0 m 17 ls [.int 30, .int 2, .ref (h 0)]) (by rw [show f_16 5 (Int32.toNatClampNeg 2) = 30 from (by rw [ef_16]; exact (show _ = _ from (by rw [ef_8]; exact rfl)))]) ?_
  refine sg_calli (va_runV (As := [.int 2, .int 30]) (rest := []) ⟨hx, hb, hml, hown, hts⟩ (cf_X12_slipped_2 l D ca za h hh f_16 L0 Q0 ((by rw [ef_16]; exact (show _ = _ from (by rw [ef_8]; exact rfl)))) H.size) (cwV 2 hts (gw_V (fun _ h => List.mem_cons_of_mem _ h) mw_326 mw_327 mw_328 mw_217 mw_325) rfl rfl rfl (by decide +kernel) ⟨Nat.le_of_ble_eq_true rfl, Nat.le_of_ble_eq_true rfl⟩) (sg_preV (ci := 12) (C := RX12) (T := TX12) (N := 55) hA hK hP hS hZ 0 (by decide) rfl rfl) rfl rfl hl.1 rfl (lv_room (Nat.le_of_ble_eq_true rfl)) dX12_night_17 ⟨Nat.le_refl _, Nat.le_refl _⟩) hA hS (fun r_20 f_17 L_18 Q_19 H locs hq hP hS => ?_)
  obtain ⟨⟨ef9, eL9, eQ9⟩, hq⟩ := hq
  rw [ef9, eL9, eQ9] at hP; clear ef9 eL9 eQ9
  have k_21 : (2 : Int32).toInt = 2 := by decide
  have k_22 : (30 : Int32).toInt = 30 := by decide
  obtain ⟨rfl, hq⟩ := hq
  have q_23 := hq
  refine lv_istore_n (lv' := [(3, .int 30), (2, .int 2), (1, .int 0), (0, .ref (h 0))]) hx hb dX12_night_20 rfl hl (by decide) rfl (fun ls hl => ?_)
  refine lv_iload_n hx hb dX12_night_21 rfl (lv_at hl 2 rfl) ?_
  refine lv_iload_n hx hb dX12_night_22 rfl (lv_at hl 0 rfl) ?_
  refine lv_aload_n hx hb dX12_night_23 rfl (lv_at hl 3 rfl) ?_
  refine sg_get (ci := 12) (v := .ref (h 5)) (C := RX12) (T := TX12) (N := 55) hx hb hts (fun w h => List.mem_cons_of_mem _ (gx_12 w h)) hown hK hP 0 (by decide) rfl rfl 7 (by decide) (hts _ (List.mem_cons_of_mem _ mw_269)) (fun _ h9 => h9) rfl dX12_night_24 ?_
  refine lv_iload_n hx hb dX12_night_27 rfl (lv_at hl 1 rfl) ?_
  refine sg_iald hx hb hK hP 5 (by decide) 0 rfl rfl (i := 2) (vp_in_iff.mpr (by decide)) dX12_night_28 ?_
  refine W.eq (g2 := F0 m 29 ls [.int 30, .int 30, .int 0]) (by rw [show f_16 5 (Int32.toNatClampNeg 2) = 30 from (by rw [ef_16]; exact (show _ = _ from (by rw [ef_8]; exact rfl)))]) ?_
  refine lv_icmp_ge (tgt := 36) hx hb dX12_night_29 (by decide) (fun c => ?_) (fun c => absurd c (by decide))
  refine lv_iconst (v := 0) hx hb dX12_night_36 (by decide) ?_
  refine lv_iadd hx hb dX12_night_37 ?_
  refine W.eq (g2 := F0 m 38 ls [.int 0]) (by rw [show (0 + 0 : Int32) = 0 from by decide]) ?_
  refine lv_istore_n (lv' := [(1, .int 0), (3, .int 30), (2, .int 2), (0, .ref (h 0))]) hx hb dX12_night_38 rfl hl (by decide) rfl (fun ls hl => ?_)
  refine lv_aload_n hx hb dX12_night_39 rfl (lv_at hl 3 rfl) ?_
  refine sg_get (ci := 12) (v := .ref (h 5)) (C := RX12) (T := TX12) (N := 55) hx hb hts (fun w h => List.mem_cons_of_mem _ (gx_12 w h)) hown hK hP 0 (by decide) rfl rfl 7 (by decide) (hts _ (List.mem_cons_of_mem _ mw_269)) (fun _ h9 => h9) rfl dX12_night_40 ?_
  refine lv_iload_n hx hb dX12_night_43 rfl (lv_at hl 2 rfl) ?_
  refine lv_iload_n hx hb dX12_night_44 rfl (lv_at hl 1 rfl) ?_
  refine sg_iast hx hb hh hA hK hP hS 5 (by decide) 0 (fun _ => rfl) rfl (i := 2) (x := 30) (vp_in_iff.mpr (by decide)) dX12_night_45 (fun f_24 H locs ef_24 hP hS => ?_)
  refine lv_iinc (v := 3) (lv' := [(2, .int 3), (1, .int 0), (3, .int 30), (0, .ref (h 0))]) hx hb dX12_night_46 hl (k := 2) rfl (by decide) (by decide) rfl (fun ls hl => ?_)
  refine lv_goto (tgt := 4) hx hb dX12_night_49 (by decide) ?_
  refine lv_iload_n hx hb dX12_night_4 rfl (lv_at hl 0 rfl) ?_
  refine lv_iconst (v := 3) hx hb dX12_night_5 (by decide) ?_
  refine lv_icmp_ge (tgt := 52) hx hb dX12_night_6 (by decide) (fun c => ?_) (fun c => absurd c (by decide))
  refine lv_iload_n hx hb dX12_night_52 rfl (lv_at hl 1 rfl) ?_
  exact hret _ _ _ _ (0) f_24 L0 Q0 dX12_night_53 hP hS ⟨trivial, ⟨rfl, trivial⟩⟩

set_option maxHeartbeats 4000000 in
set_option maxRecDepth 100000 in
theorem cf_X12_led_0 (l : Launch) (D : va_G) (ca : Nat → ClassId) (za h : Nat → Nat) (hh : sgH 26 h) (f : sg_F) (L : sg_L) (Q : sg_Q) (hs : f 0 38 = 0) (sz : Nat) : Met l yX12_led gwX12_led { frames := 0, cells := 0, slots := 0, locals := 0 } (sgP D vwCl (tyX ca) 26 h (eM ca h) zcM za f L Q sz [.ref (h 0), .int 0]) (sgQi D vwCl 26 h (eM ca h) sz (fun r f1 L1 Q1 => (f1 = f ∧ L1 = L ∧ Q1 = Q) ∧ ((r = 0 ∧ (True))))) 0 0 (sgA 26 h sz) := by
  refine sg_ofWi (cc := cX12_led) (maxL := 2) RX12 (by decide) rfl rfl (Nat.le_of_ble_eq_true rfl) ?_
  intro p e s m below meth cd Qz ls hx hb hml hown hts hK hZ hP hS hl hret
  have hA := sgY.self (n := 26) (h := h) (sz := s.heap.size)
  have hl : lv_has ls 2 [(0, .ref (h 0)), (1, .int 0)] := hl
  obtain ⟨H, hH⟩ : ∃ z : Heap, z = s.heap := ⟨_, rfl⟩
  obtain ⟨locs, hlo⟩ : ∃ z : List Loc, z = [] := ⟨_, rfl⟩
  have hP : va_P D vwCl (sgw 26 h (eM ca h) f L Q) H := by rw [hH]; exact hP
  have hS : va_S (sgA 26 h s.heap.size) s.heap H locs := by rw [hH, hlo]; exact hS
  suffices hgo : W p l e ({ frames := 0, cells := 0, slots := 0, locals := 0 }) s m ([.ref (h 0), .int 0] : List Value).toArray below meth cd H locs 0 0 Qz (F0 m 0 ls []) by rw [hH, hlo] at hgo; exact hgo
  refine lv_iload_n hx hb dX12_led_0 rfl (lv_at hl 1 rfl) ?_
  refine lv_tableIn (x := 0) (tgt := 36) hx hb dX12_led_1 (by decide) (by decide) rfl (by decide) ?_
  refine lv_aload_n hx hb dX12_led_36 rfl (lv_at hl 0 rfl) ?_
  refine sg_get (ci := 12) (v := .int 0) (C := RX12) (T := TX12) (N := 55) hx hb hts (fun w h => List.mem_cons_of_mem _ (gx_12 w h)) hown hK hP 0 (by decide) rfl rfl 38 (by decide) (hts _ (List.mem_cons_of_mem _ mw_329)) (fun _ h9 => h9) (congrArg (fun z => some (Value.int z)) (show f 0 38 = 0 from hs)) dX12_led_37 ?_
  exact hret _ _ _ _ (0) f L Q dX12_led_40 hP hS ⟨⟨rfl, rfl, rfl⟩, ⟨rfl, trivial⟩⟩

set_option maxHeartbeats 4000000 in
set_option maxRecDepth 100000 in
theorem cf_X12_led_1 (l : Launch) (D : va_G) (ca : Nat → ClassId) (za h : Nat → Nat) (hh : sgH 26 h) (f : sg_F) (L : sg_L) (Q : sg_Q) (hs : f 0 39 = 0) (sz : Nat) : Met l yX12_led gwX12_led { frames := 0, cells := 0, slots := 0, locals := 0 } (sgP D vwCl (tyX ca) 26 h (eM ca h) zcM za f L Q sz [.ref (h 0), .int 1]) (sgQi D vwCl 26 h (eM ca h) sz (fun r f1 L1 Q1 => (f1 = f ∧ L1 = L ∧ Q1 = Q) ∧ ((r = 0 ∧ (True))))) 0 0 (sgA 26 h sz) := by
  refine sg_ofWi (cc := cX12_led) (maxL := 2) RX12 (by decide) rfl rfl (Nat.le_of_ble_eq_true rfl) ?_
  intro p e s m below meth cd Qz ls hx hb hml hown hts hK hZ hP hS hl hret
  have hA := sgY.self (n := 26) (h := h) (sz := s.heap.size)
  have hl : lv_has ls 2 [(0, .ref (h 0)), (1, .int 1)] := hl
  obtain ⟨H, hH⟩ : ∃ z : Heap, z = s.heap := ⟨_, rfl⟩
  obtain ⟨locs, hlo⟩ : ∃ z : List Loc, z = [] := ⟨_, rfl⟩
  have hP : va_P D vwCl (sgw 26 h (eM ca h) f L Q) H := by rw [hH]; exact hP
  have hS : va_S (sgA 26 h s.heap.size) s.heap H locs := by rw [hH, hlo]; exact hS
  suffices hgo : W p l e ({ frames := 0, cells := 0, slots := 0, locals := 0 }) s m ([.ref (h 0), .int 1] : List Value).toArray below meth cd H locs 0 0 Qz (F0 m 0 ls []) by rw [hH, hlo] at hgo; exact hgo
  refine lv_iload_n hx hb dX12_led_0 rfl (lv_at hl 1 rfl) ?_
  refine lv_tableIn (x := 1) (tgt := 41) hx hb dX12_led_1 (by decide) (by decide) rfl (by decide) ?_
  refine lv_aload_n hx hb dX12_led_41 rfl (lv_at hl 0 rfl) ?_
  refine sg_get (ci := 12) (v := .int 0) (C := RX12) (T := TX12) (N := 55) hx hb hts (fun w h => List.mem_cons_of_mem _ (gx_12 w h)) hown hK hP 0 (by decide) rfl rfl 39 (by decide) (hts _ (List.mem_cons_of_mem _ mw_324)) (fun _ h9 => h9) (congrArg (fun z => some (Value.int z)) (show f 0 39 = 0 from hs)) dX12_led_42 ?_
  exact hret _ _ _ _ (0) f L Q dX12_led_45 hP hS ⟨⟨rfl, rfl, rfl⟩, ⟨rfl, trivial⟩⟩

set_option maxHeartbeats 4000000 in
set_option maxRecDepth 100000 in
theorem cf_X12_led_2 (l : Launch) (D : va_G) (ca : Nat → ClassId) (za h : Nat → Nat) (hh : sgH 26 h) (f : sg_F) (L : sg_L) (Q : sg_Q) (hs : f 0 40 = 0) (sz : Nat) : Met l yX12_led gwX12_led { frames := 0, cells := 0, slots := 0, locals := 0 } (sgP D vwCl (tyX ca) 26 h (eM ca h) zcM za f L Q sz [.ref (h 0), .int 2]) (sgQi D vwCl 26 h (eM ca h) sz (fun r f1 L1 Q1 => (f1 = f ∧ L1 = L ∧ Q1 = Q) ∧ ((r = 0 ∧ (True))))) 0 0 (sgA 26 h sz) := by
  refine sg_ofWi (cc := cX12_led) (maxL := 2) RX12 (by decide) rfl rfl (Nat.le_of_ble_eq_true rfl) ?_
  intro p e s m below meth cd Qz ls hx hb hml hown hts hK hZ hP hS hl hret
  have hA := sgY.self (n := 26) (h := h) (sz := s.heap.size)
  have hl : lv_has ls 2 [(0, .ref (h 0)), (1, .int 2)] := hl
  obtain ⟨H, hH⟩ : ∃ z : Heap, z = s.heap := ⟨_, rfl⟩
  obtain ⟨locs, hlo⟩ : ∃ z : List Loc, z = [] := ⟨_, rfl⟩
  have hP : va_P D vwCl (sgw 26 h (eM ca h) f L Q) H := by rw [hH]; exact hP
  have hS : va_S (sgA 26 h s.heap.size) s.heap H locs := by rw [hH, hlo]; exact hS
  suffices hgo : W p l e ({ frames := 0, cells := 0, slots := 0, locals := 0 }) s m ([.ref (h 0), .int 2] : List Value).toArray below meth cd H locs 0 0 Qz (F0 m 0 ls []) by rw [hH, hlo] at hgo; exact hgo
  refine lv_iload_n hx hb dX12_led_0 rfl (lv_at hl 1 rfl) ?_
  refine lv_tableIn (x := 2) (tgt := 46) hx hb dX12_led_1 (by decide) (by decide) rfl (by decide) ?_
  refine lv_aload_n hx hb dX12_led_46 rfl (lv_at hl 0 rfl) ?_
  refine sg_get (ci := 12) (v := .int 0) (C := RX12) (T := TX12) (N := 55) hx hb hts (fun w h => List.mem_cons_of_mem _ (gx_12 w h)) hown hK hP 0 (by decide) rfl rfl 40 (by decide) (hts _ (List.mem_cons_of_mem _ mw_330)) (fun _ h9 => h9) (congrArg (fun z => some (Value.int z)) (show f 0 40 = 0 from hs)) dX12_led_47 ?_
  exact hret _ _ _ _ (0) f L Q dX12_led_50 hP hS ⟨⟨rfl, rfl, rfl⟩, ⟨rfl, trivial⟩⟩

set_option maxHeartbeats 4000000 in
set_option maxRecDepth 100000 in
theorem cf_X12_led_3 (l : Launch) (D : va_G) (ca : Nat → ClassId) (za h : Nat → Nat) (hh : sgH 26 h) (f : sg_F) (L : sg_L) (Q : sg_Q) (hs : f 0 41 = 0) (sz : Nat) : Met l yX12_led gwX12_led { frames := 0, cells := 0, slots := 0, locals := 0 } (sgP D vwCl (tyX ca) 26 h (eM ca h) zcM za f L Q sz [.ref (h 0), .int 3]) (sgQi D vwCl 26 h (eM ca h) sz (fun r f1 L1 Q1 => (f1 = f ∧ L1 = L ∧ Q1 = Q) ∧ ((r = 0 ∧ (True))))) 0 0 (sgA 26 h sz) := by
  refine sg_ofWi (cc := cX12_led) (maxL := 2) RX12 (by decide) rfl rfl (Nat.le_of_ble_eq_true rfl) ?_
  intro p e s m below meth cd Qz ls hx hb hml hown hts hK hZ hP hS hl hret
  have hA := sgY.self (n := 26) (h := h) (sz := s.heap.size)
  have hl : lv_has ls 2 [(0, .ref (h 0)), (1, .int 3)] := hl
  obtain ⟨H, hH⟩ : ∃ z : Heap, z = s.heap := ⟨_, rfl⟩
  obtain ⟨locs, hlo⟩ : ∃ z : List Loc, z = [] := ⟨_, rfl⟩
  have hP : va_P D vwCl (sgw 26 h (eM ca h) f L Q) H := by rw [hH]; exact hP
  have hS : va_S (sgA 26 h s.heap.size) s.heap H locs := by rw [hH, hlo]; exact hS
  suffices hgo : W p l e ({ frames := 0, cells := 0, slots := 0, locals := 0 }) s m ([.ref (h 0), .int 3] : List Value).toArray below meth cd H locs 0 0 Qz (F0 m 0 ls []) by rw [hH, hlo] at hgo; exact hgo
  refine lv_iload_n hx hb dX12_led_0 rfl (lv_at hl 1 rfl) ?_
  refine lv_tableIn (x := 3) (tgt := 51) hx hb dX12_led_1 (by decide) (by decide) rfl (by decide) ?_
  refine lv_aload_n hx hb dX12_led_51 rfl (lv_at hl 0 rfl) ?_
  refine sg_get (ci := 12) (v := .int 0) (C := RX12) (T := TX12) (N := 55) hx hb hts (fun w h => List.mem_cons_of_mem _ (gx_12 w h)) hown hK hP 0 (by decide) rfl rfl 41 (by decide) (hts _ (List.mem_cons_of_mem _ mw_331)) (fun _ h9 => h9) (congrArg (fun z => some (Value.int z)) (show f 0 41 = 0 from hs)) dX12_led_52 ?_
  exact hret _ _ _ _ (0) f L Q dX12_led_55 hP hS ⟨⟨rfl, rfl, rfl⟩, ⟨rfl, trivial⟩⟩

set_option maxHeartbeats 4000000 in
set_option maxRecDepth 100000 in
theorem cf_X12_led_4 (l : Launch) (D : va_G) (ca : Nat → ClassId) (za h : Nat → Nat) (hh : sgH 26 h) (f : sg_F) (L : sg_L) (Q : sg_Q) (hs : f 0 42 = (-2)) (sz : Nat) : Met l yX12_led gwX12_led { frames := 0, cells := 0, slots := 0, locals := 0 } (sgP D vwCl (tyX ca) 26 h (eM ca h) zcM za f L Q sz [.ref (h 0), .int 4]) (sgQi D vwCl 26 h (eM ca h) sz (fun r f1 L1 Q1 => (f1 = f ∧ L1 = L ∧ Q1 = Q) ∧ ((r = (-2) ∧ (True))))) 0 0 (sgA 26 h sz) := by
  refine sg_ofWi (cc := cX12_led) (maxL := 2) RX12 (by decide) rfl rfl (Nat.le_of_ble_eq_true rfl) ?_
  intro p e s m below meth cd Qz ls hx hb hml hown hts hK hZ hP hS hl hret
  have hA := sgY.self (n := 26) (h := h) (sz := s.heap.size)
  have hl : lv_has ls 2 [(0, .ref (h 0)), (1, .int 4)] := hl
  obtain ⟨H, hH⟩ : ∃ z : Heap, z = s.heap := ⟨_, rfl⟩
  obtain ⟨locs, hlo⟩ : ∃ z : List Loc, z = [] := ⟨_, rfl⟩
  have hP : va_P D vwCl (sgw 26 h (eM ca h) f L Q) H := by rw [hH]; exact hP
  have hS : va_S (sgA 26 h s.heap.size) s.heap H locs := by rw [hH, hlo]; exact hS
  suffices hgo : W p l e ({ frames := 0, cells := 0, slots := 0, locals := 0 }) s m ([.ref (h 0), .int 4] : List Value).toArray below meth cd H locs 0 0 Qz (F0 m 0 ls []) by rw [hH, hlo] at hgo; exact hgo
  refine lv_iload_n hx hb dX12_led_0 rfl (lv_at hl 1 rfl) ?_
  refine lv_tableIn (x := 4) (tgt := 56) hx hb dX12_led_1 (by decide) (by decide) rfl (by decide) ?_
  refine lv_aload_n hx hb dX12_led_56 rfl (lv_at hl 0 rfl) ?_
  refine sg_get (ci := 12) (v := .int (-2)) (C := RX12) (T := TX12) (N := 55) hx hb hts (fun w h => List.mem_cons_of_mem _ (gx_12 w h)) hown hK hP 0 (by decide) rfl rfl 42 (by decide) (hts _ (List.mem_cons_of_mem _ mw_332)) (fun _ h9 => h9) (congrArg (fun z => some (Value.int z)) (show f 0 42 = (-2) from hs)) dX12_led_57 ?_
  exact hret _ _ _ _ (-2) f L Q dX12_led_60 hP hS ⟨⟨rfl, rfl, rfl⟩, ⟨rfl, trivial⟩⟩

set_option maxHeartbeats 4000000 in
set_option maxRecDepth 100000 in
theorem cf_X12_led (l : Launch) (D : va_G) (ca : Nat → ClassId) (za h : Nat → Nat) (hh : sgH 26 h) (x0 : Int32) (sz : Nat) : Met l yX12_led gwX12_led { frames := 0, cells := 0, slots := 0, locals := 0 } (sgP D vwCl (tyX ca) 26 h (eM ca h) zcM za f0M L0 Q0 sz [.ref (h 0), .int x0]) (sgQi D vwCl 26 h (eM ca h) sz (fun r f1 L1 Q1 => True ∧ ((r = 0 ∧ (0 ≤ x0.toInt ∧ x0.toInt ≤ 3)) ∨ (r = (-2) ∧ (x0.toInt = 4)) ∨ (r = (-1) ∧ (x0.toInt < 0 ∨ 4 < x0.toInt))))) 0 0 (sgA 26 h sz) := by
  refine sg_ofWi (cc := cX12_led) (maxL := 2) RX12 (by decide) rfl rfl (Nat.le_of_ble_eq_true rfl) ?_
  intro p e s m below meth cd Qz ls hx hb hml hown hts hK hZ hP hS hl hret
  have hA := sgY.self (n := 26) (h := h) (sz := s.heap.size)
  have hl : lv_has ls 2 [(0, .ref (h 0)), (1, .int x0)] := hl
  obtain ⟨H, hH⟩ : ∃ z : Heap, z = s.heap := ⟨_, rfl⟩
  obtain ⟨locs, hlo⟩ : ∃ z : List Loc, z = [] := ⟨_, rfl⟩
  have hP : va_P D vwCl (sgw 26 h (eM ca h) f0M L0 Q0) H := by rw [hH]; exact hP
  have hS : va_S (sgA 26 h s.heap.size) s.heap H locs := by rw [hH, hlo]; exact hS
  suffices hgo : W p l e ({ frames := 0, cells := 0, slots := 0, locals := 0 }) s m ([.ref (h 0), .int x0] : List Value).toArray below meth cd H locs 0 0 Qz (F0 m 0 ls []) by rw [hH, hlo] at hgo; exact hgo
  refine lv_iload_n hx hb dX12_led_0 rfl (lv_at hl 1 rfl) ?_
  rcases (show (x0.toInt < 0 ∨ 4 < x0.toInt) ∨ x0.toInt = 0 ∨ x0.toInt = 1 ∨ x0.toInt = 2 ∨ x0.toInt = 3 ∨ x0.toInt = 4 from by omega) with c | c | c | c | c | c
  · skip
    refine lv_tableOut (x := x0) (tgt := 61) hx hb dX12_led_1 c (by decide) ?_
    refine lv_iconst (v := (-1)) hx hb dX12_led_61 (by decide) ?_
    exact hret _ _ _ _ (-1) f0M L0 Q0 dX12_led_62 hP hS ⟨trivial, Or.inr (Or.inr (⟨rfl, by omega⟩))⟩
  · skip
    refine lv_tableIn (x := x0) (tgt := 36) hx hb dX12_led_1 (by omega) (by omega) (by rw [c]; rfl) (by decide) ?_
    refine lv_aload_n hx hb dX12_led_36 rfl (lv_at hl 0 rfl) ?_
    refine sg_get (ci := 12) (v := .int 0) (C := RX12) (T := TX12) (N := 55) hx hb hts (fun w h => List.mem_cons_of_mem _ (gx_12 w h)) hown hK hP 0 (by decide) rfl rfl 38 (by decide) (hts _ (List.mem_cons_of_mem _ mw_329)) (fun _ h9 => h9) rfl dX12_led_37 ?_
    exact hret _ _ _ _ (0) f0M L0 Q0 dX12_led_40 hP hS ⟨trivial, Or.inl ⟨rfl, by omega⟩⟩
  · skip
    refine lv_tableIn (x := x0) (tgt := 41) hx hb dX12_led_1 (by omega) (by omega) (by rw [c]; rfl) (by decide) ?_
    refine lv_aload_n hx hb dX12_led_41 rfl (lv_at hl 0 rfl) ?_
    refine sg_get (ci := 12) (v := .int 0) (C := RX12) (T := TX12) (N := 55) hx hb hts (fun w h => List.mem_cons_of_mem _ (gx_12 w h)) hown hK hP 0 (by decide) rfl rfl 39 (by decide) (hts _ (List.mem_cons_of_mem _ mw_324)) (fun _ h9 => h9) rfl dX12_led_42 ?_
    exact hret _ _ _ _ (0) f0M L0 Q0 dX12_led_45 hP hS ⟨trivial, Or.inl ⟨rfl, by omega⟩⟩
  · skip
    refine lv_tableIn (x := x0) (tgt := 46) hx hb dX12_led_1 (by omega) (by omega) (by rw [c]; rfl) (by decide) ?_
    refine lv_aload_n hx hb dX12_led_46 rfl (lv_at hl 0 rfl) ?_
    refine sg_get (ci := 12) (v := .int 0) (C := RX12) (T := TX12) (N := 55) hx hb hts (fun w h => List.mem_cons_of_mem _ (gx_12 w h)) hown hK hP 0 (by decide) rfl rfl 40 (by decide) (hts _ (List.mem_cons_of_mem _ mw_330)) (fun _ h9 => h9) rfl dX12_led_47 ?_
    exact hret _ _ _ _ (0) f0M L0 Q0 dX12_led_50 hP hS ⟨trivial, Or.inl ⟨rfl, by omega⟩⟩
  · skip
    refine lv_tableIn (x := x0) (tgt := 51) hx hb dX12_led_1 (by omega) (by omega) (by rw [c]; rfl) (by decide) ?_
    refine lv_aload_n hx hb dX12_led_51 rfl (lv_at hl 0 rfl) ?_
    refine sg_get (ci := 12) (v := .int 0) (C := RX12) (T := TX12) (N := 55) hx hb hts (fun w h => List.mem_cons_of_mem _ (gx_12 w h)) hown hK hP 0 (by decide) rfl rfl 41 (by decide) (hts _ (List.mem_cons_of_mem _ mw_331)) (fun _ h9 => h9) rfl dX12_led_52 ?_
    exact hret _ _ _ _ (0) f0M L0 Q0 dX12_led_55 hP hS ⟨trivial, Or.inl ⟨rfl, by omega⟩⟩
  · skip
    refine lv_tableIn (x := x0) (tgt := 56) hx hb dX12_led_1 (by omega) (by omega) (by rw [c]; rfl) (by decide) ?_
    refine lv_aload_n hx hb dX12_led_56 rfl (lv_at hl 0 rfl) ?_
    refine sg_get (ci := 12) (v := .int (-2)) (C := RX12) (T := TX12) (N := 55) hx hb hts (fun w h => List.mem_cons_of_mem _ (gx_12 w h)) hown hK hP 0 (by decide) rfl rfl 42 (by decide) (hts _ (List.mem_cons_of_mem _ mw_332)) (fun _ h9 => h9) rfl dX12_led_57 ?_
    exact hret _ _ _ _ (-2) f0M L0 Q0 dX12_led_60 hP hS ⟨trivial, Or.inr (Or.inl ⟨rfl, by omega⟩)⟩

set_option maxHeartbeats 4000000 in
set_option maxRecDepth 100000 in
theorem cf_X12_image (l : Launch) (D : va_G) (ca : Nat → ClassId) (za h : Nat → Nat) (hh : sgH 26 h)  (sz : Nat) : Met l yX12_image gwX12_image { frames := 1, cells := 0, slots := 0, locals := 21 } (sgP D vwCl (tyX ca) 26 h (eM ca h) zcM za f0M L0 Q0 sz [.ref (h 0)]) (sgQi D vwCl 26 h (eM ca h) sz (fun r f1 L1 Q1 => True ∧ ((r = 0 ∧ (True))))) 0 0 (sgA 26 h sz) := by
  refine sg_ofWi (cc := cX12_image) (maxL := 2) RX12 (by decide) rfl rfl (Nat.le_of_ble_eq_true rfl) ?_
  intro p e s m below meth cd Qz ls hx hb hml hown hts hK hZ hP hS hl hret
  have hA := sgY.self (n := 26) (h := h) (sz := s.heap.size)
  have hl : lv_has ls 2 [(0, .ref (h 0))] := hl
  obtain ⟨H, hH⟩ : ∃ z : Heap, z = s.heap := ⟨_, rfl⟩
  obtain ⟨locs, hlo⟩ : ∃ z : List Loc, z = [] := ⟨_, rfl⟩
  have hP : va_P D vwCl (sgw 26 h (eM ca h) f0M L0 Q0) H := by rw [hH]; exact hP
  have hS : va_S (sgA 26 h s.heap.size) s.heap H locs := by rw [hH, hlo]; exact hS
  suffices hgo : W p l e ({ frames := 1, cells := 0, slots := 0, locals := 21 }) s m ([.ref (h 0)] : List Value).toArray below meth cd H locs 0 0 Qz (F0 m 0 ls []) by rw [hH, hlo] at hgo; exact hgo
  refine lv_aload_n hx hb dX12_image_0 rfl (lv_at hl 0 rfl) ?_
  refine lv_iconst (v := 1) hx hb dX12_image_1 (by decide) ?_
  refine sg_put (ci := 12) (x := 1) (ty := .boolean) (C := RX12) (T := TX12) (N := 55) hx hb hts (fun w h => List.mem_cons_of_mem _ (gx_12 w h)) tyX12 tyX12_ok nmX12 hown hh hA hK hP hS 0 (by decide) rfl rfl 43 (by decide) (hts _ (List.mem_cons_of_mem _ mw_333)) (fun _ h9 => h9) rfl rfl (by decide +kernel) (by decide) (by decide) (Nat.le_of_ble_eq_true rfl) dX12_image_2 (fun f_1 H locs ef_1 hP hS => ?_)
  refine lv_iconst (v := 0) hx hb dX12_image_5 (by decide) ?_
  refine lv_istore_n (lv' := [(1, .int 0), (0, .ref (h 0))]) hx hb dX12_image_6 rfl hl (by decide) rfl (fun ls hl => ?_)
  refine lv_iload_n hx hb dX12_image_7 rfl (lv_at hl 0 rfl) ?_
  refine lv_bipush (v := 8) hx hb dX12_image_8 (by decide) ?_
  refine lv_icmp_ge (tgt := 46) hx hb dX12_image_10 (by decide) (fun c => absurd c (by decide)) (fun c => ?_)
  refine lv_aload_n hx hb dX12_image_13 rfl (lv_at hl 1 rfl) ?_
  refine sg_get (ci := 12) (v := .ref (h 19)) (C := RX12) (T := TX12) (N := 55) hx hb hts (fun w h => List.mem_cons_of_mem _ (gx_12 w h)) hown hK hP 0 (by decide) rfl rfl 44 (by decide) (hts _ (List.mem_cons_of_mem _ mw_334)) (fun _ h9 => h9) rfl dX12_image_14 ?_
  refine lv_iload_n hx hb dX12_image_17 rfl (lv_at hl 0 rfl) ?_
  refine lv_iload_n hx hb dX12_image_18 rfl (lv_at hl 0 rfl) ?_
  refine lv_iconst (v := 3) hx hb dX12_image_19 (by decide) ?_
  refine lv_icmp_ge (tgt := 32) hx hb dX12_image_20 (by decide) (fun c => absurd c (by decide)) (fun c => ?_)
  refine lv_aload_n hx hb dX12_image_23 rfl (lv_at hl 1 rfl) ?_
  refine sg_get (ci := 12) (v := .ref (h 5)) (C := RX12) (T := TX12) (N := 55) hx hb hts (fun w h => List.mem_cons_of_mem _ (gx_12 w h)) hown hK hP 0 (by decide) rfl rfl 7 (by decide) (hts _ (List.mem_cons_of_mem _ mw_269)) (fun _ h9 => h9) rfl dX12_image_24 ?_
  refine lv_iload_n hx hb dX12_image_27 rfl (lv_at hl 0 rfl) ?_
  refine sg_iald hx hb hK hP 5 (by decide) 0 rfl rfl (i := 0) (vp_in_iff.mpr (by decide)) dX12_image_28 ?_
  refine W.eq (g2 := F0 m 29 ls [.int 30, .int 0, .ref (h 19)]) (by rw [show f_1 5 (Int32.toNatClampNeg 0) = 30 from (by rw [ef_1]; exact rfl)]) ?_
  refine lv_goto (tgt := 39) hx hb dX12_image_29 (by decide) ?_
  refine sg_iast hx hb hh hA hK hP hS 19 (by decide) 0 (fun _ => rfl) rfl (i := 0) (x := 30) (vp_in_iff.mpr (by decide)) dX12_image_39 (fun f_2 H locs ef_2 hP hS => ?_)
  refine lv_iinc (v := 1) (lv' := [(1, .int 1), (0, .ref (h 0))]) hx hb dX12_image_40 hl (k := 0) rfl (by decide) (by decide) rfl (fun ls hl => ?_)
  refine lv_goto (tgt := 7) hx hb dX12_image_43 (by decide) ?_
  refine lv_iload_n hx hb dX12_image_7 rfl (lv_at hl 0 rfl) ?_
  refine lv_bipush (v := 8) hx hb dX12_image_8 (by decide) ?_
  refine lv_icmp_ge (tgt := 46) hx hb dX12_image_10 (by decide) (fun c => absurd c (by decide)) (fun c => ?_)
  refine lv_aload_n hx hb dX12_image_13 rfl (lv_at hl 1 rfl) ?_
  refine sg_get (ci := 12) (v := .ref (h 19)) (C := RX12) (T := TX12) (N := 55) hx hb hts (fun w h => List.mem_cons_of_mem _ (gx_12 w h)) hown hK hP 0 (by decide) rfl rfl 44 (by decide) (hts _ (List.mem_cons_of_mem _ mw_334)) (fun _ h9 => h9) rfl dX12_image_14 ?_
  refine lv_iload_n hx hb dX12_image_17 rfl (lv_at hl 0 rfl) ?_
  refine lv_iload_n hx hb dX12_image_18 rfl (lv_at hl 0 rfl) ?_
  refine lv_iconst (v := 3) hx hb dX12_image_19 (by decide) ?_
  refine lv_icmp_ge (tgt := 32) hx hb dX12_image_20 (by decide) (fun c => absurd c (by decide)) (fun c => ?_)
  refine lv_aload_n hx hb dX12_image_23 rfl (lv_at hl 1 rfl) ?_
  refine sg_get (ci := 12) (v := .ref (h 5)) (C := RX12) (T := TX12) (N := 55) hx hb hts (fun w h => List.mem_cons_of_mem _ (gx_12 w h)) hown hK hP 0 (by decide) rfl rfl 7 (by decide) (hts _ (List.mem_cons_of_mem _ mw_269)) (fun _ h9 => h9) rfl dX12_image_24 ?_
  refine lv_iload_n hx hb dX12_image_27 rfl (lv_at hl 0 rfl) ?_
  refine sg_iald hx hb hK hP 5 (by decide) 0 rfl rfl (i := 1) (vp_in_iff.mpr (by decide)) dX12_image_28 ?_
  refine W.eq (g2 := F0 m 29 ls [.int 30, .int 1, .ref (h 19)]) (by rw [show f_2 5 (Int32.toNatClampNeg 1) = 30 from (by rw [ef_2]; exact (show _ = _ from (by rw [ef_1]; exact rfl)))]) ?_
  refine lv_goto (tgt := 39) hx hb dX12_image_29 (by decide) ?_
  refine sg_iast hx hb hh hA hK hP hS 19 (by decide) 0 (fun _ => rfl) rfl (i := 1) (x := 30) (vp_in_iff.mpr (by decide)) dX12_image_39 (fun f_3 H locs ef_3 hP hS => ?_)
  refine lv_iinc (v := 2) (lv' := [(1, .int 2), (0, .ref (h 0))]) hx hb dX12_image_40 hl (k := 0) rfl (by decide) (by decide) rfl (fun ls hl => ?_)
  refine lv_goto (tgt := 7) hx hb dX12_image_43 (by decide) ?_
  refine lv_iload_n hx hb dX12_image_7 rfl (lv_at hl 0 rfl) ?_
  refine lv_bipush (v := 8) hx hb dX12_image_8 (by decide) ?_
  refine lv_icmp_ge (tgt := 46) hx hb dX12_image_10 (by decide) (fun c => absurd c (by decide)) (fun c => ?_)
  refine lv_aload_n hx hb dX12_image_13 rfl (lv_at hl 1 rfl) ?_
  refine sg_get (ci := 12) (v := .ref (h 19)) (C := RX12) (T := TX12) (N := 55) hx hb hts (fun w h => List.mem_cons_of_mem _ (gx_12 w h)) hown hK hP 0 (by decide) rfl rfl 44 (by decide) (hts _ (List.mem_cons_of_mem _ mw_334)) (fun _ h9 => h9) rfl dX12_image_14 ?_
  refine lv_iload_n hx hb dX12_image_17 rfl (lv_at hl 0 rfl) ?_
  refine lv_iload_n hx hb dX12_image_18 rfl (lv_at hl 0 rfl) ?_
  refine lv_iconst (v := 3) hx hb dX12_image_19 (by decide) ?_
  refine lv_icmp_ge (tgt := 32) hx hb dX12_image_20 (by decide) (fun c => absurd c (by decide)) (fun c => ?_)
  refine lv_aload_n hx hb dX12_image_23 rfl (lv_at hl 1 rfl) ?_
  refine sg_get (ci := 12) (v := .ref (h 5)) (C := RX12) (T := TX12) (N := 55) hx hb hts (fun w h => List.mem_cons_of_mem _ (gx_12 w h)) hown hK hP 0 (by decide) rfl rfl 7 (by decide) (hts _ (List.mem_cons_of_mem _ mw_269)) (fun _ h9 => h9) rfl dX12_image_24 ?_
  refine lv_iload_n hx hb dX12_image_27 rfl (lv_at hl 0 rfl) ?_
  refine sg_iald hx hb hK hP 5 (by decide) 0 rfl rfl (i := 2) (vp_in_iff.mpr (by decide)) dX12_image_28 ?_
  refine W.eq (g2 := F0 m 29 ls [.int 30, .int 2, .ref (h 19)]) (by rw [show f_3 5 (Int32.toNatClampNeg 2) = 30 from (by rw [ef_3]; exact (show _ = _ from (by rw [ef_2]; exact (show _ = _ from (by rw [ef_1]; exact rfl)))))]) ?_
  refine lv_goto (tgt := 39) hx hb dX12_image_29 (by decide) ?_
  refine sg_iast hx hb hh hA hK hP hS 19 (by decide) 0 (fun _ => rfl) rfl (i := 2) (x := 30) (vp_in_iff.mpr (by decide)) dX12_image_39 (fun f_4 H locs ef_4 hP hS => ?_)
  refine lv_iinc (v := 3) (lv' := [(1, .int 3), (0, .ref (h 0))]) hx hb dX12_image_40 hl (k := 0) rfl (by decide) (by decide) rfl (fun ls hl => ?_)
  refine lv_goto (tgt := 7) hx hb dX12_image_43 (by decide) ?_
  refine lv_iload_n hx hb dX12_image_7 rfl (lv_at hl 0 rfl) ?_
  refine lv_bipush (v := 8) hx hb dX12_image_8 (by decide) ?_
  refine lv_icmp_ge (tgt := 46) hx hb dX12_image_10 (by decide) (fun c => absurd c (by decide)) (fun c => ?_)
  refine lv_aload_n hx hb dX12_image_13 rfl (lv_at hl 1 rfl) ?_
  refine sg_get (ci := 12) (v := .ref (h 19)) (C := RX12) (T := TX12) (N := 55) hx hb hts (fun w h => List.mem_cons_of_mem _ (gx_12 w h)) hown hK hP 0 (by decide) rfl rfl 44 (by decide) (hts _ (List.mem_cons_of_mem _ mw_334)) (fun _ h9 => h9) rfl dX12_image_14 ?_
  refine lv_iload_n hx hb dX12_image_17 rfl (lv_at hl 0 rfl) ?_
  refine lv_iload_n hx hb dX12_image_18 rfl (lv_at hl 0 rfl) ?_
  refine lv_iconst (v := 3) hx hb dX12_image_19 (by decide) ?_
  refine lv_icmp_ge (tgt := 32) hx hb dX12_image_20 (by decide) (fun c => ?_) (fun c => absurd c (by decide))
  refine lv_aload_n hx hb dX12_image_32 rfl (lv_at hl 1 rfl) ?_
  refine lv_iload_n hx hb dX12_image_33 rfl (lv_at hl 0 rfl) ?_
  refine lv_iconst (v := 3) hx hb dX12_image_34 (by decide) ?_
  refine lv_isub hx hb dX12_image_35 ?_
  refine W.eq (g2 := F0 m 36 ls [.int 0, .ref (h 0), .int 3, .ref (h 19)]) (by rw [show (3 - 3 : Int32) = 0 from by decide]) ?_
  refine sg_calli (va_runV (As := [.int 0]) (rest := [.int 3, .ref (h 19)]) ⟨hx, hb, hml, hown, hts⟩ (cf_X12_led_0 l D ca za h hh f_4 L0 Q0 ((by rw [ef_4]; exact (show _ = _ from (by rw [ef_3]; exact (show _ = _ from (by rw [ef_2]; exact (show _ = _ from (by rw [ef_1]; exact rfl)))))))) H.size) (cwV 1 hts (gw_V (fun _ h => List.mem_cons_of_mem _ h) mw_336 mw_337 mw_338 mw_217 mw_335) rfl rfl rfl (by decide +kernel) ⟨Nat.le_of_ble_eq_true rfl, Nat.le_of_ble_eq_true rfl⟩) (sg_preV (ci := 12) (C := RX12) (T := TX12) (N := 55) hA hK hP hS hZ 0 (by decide) rfl rfl) rfl rfl hl.1 rfl (lv_room (Nat.le_of_ble_eq_true rfl)) dX12_image_36 ⟨Nat.le_refl _, Nat.le_refl _⟩) hA hS (fun r_8 f_5 L_6 Q_7 H locs hq hP hS => ?_)
  obtain ⟨⟨ef9, eL9, eQ9⟩, hq⟩ := hq
  rw [ef9, eL9, eQ9] at hP; clear ef9 eL9 eQ9
  have k_9 : (0 : Int32).toInt = 0 := by decide
  obtain ⟨rfl, hq⟩ := hq
  have q_10 := hq
  refine sg_iast hx hb hh hA hK hP hS 19 (by decide) 0 (fun _ => rfl) rfl (i := 3) (x := 0) (vp_in_iff.mpr (by decide)) dX12_image_39 (fun f_11 H locs ef_11 hP hS => ?_)
  refine lv_iinc (v := 4) (lv' := [(1, .int 4), (0, .ref (h 0))]) hx hb dX12_image_40 hl (k := 0) rfl (by decide) (by decide) rfl (fun ls hl => ?_)
  refine lv_goto (tgt := 7) hx hb dX12_image_43 (by decide) ?_
  refine lv_iload_n hx hb dX12_image_7 rfl (lv_at hl 0 rfl) ?_
  refine lv_bipush (v := 8) hx hb dX12_image_8 (by decide) ?_
  refine lv_icmp_ge (tgt := 46) hx hb dX12_image_10 (by decide) (fun c => absurd c (by decide)) (fun c => ?_)
  refine lv_aload_n hx hb dX12_image_13 rfl (lv_at hl 1 rfl) ?_
  refine sg_get (ci := 12) (v := .ref (h 19)) (C := RX12) (T := TX12) (N := 55) hx hb hts (fun w h => List.mem_cons_of_mem _ (gx_12 w h)) hown hK hP 0 (by decide) rfl rfl 44 (by decide) (hts _ (List.mem_cons_of_mem _ mw_334)) (fun _ h9 => h9) rfl dX12_image_14 ?_
  refine lv_iload_n hx hb dX12_image_17 rfl (lv_at hl 0 rfl) ?_
  refine lv_iload_n hx hb dX12_image_18 rfl (lv_at hl 0 rfl) ?_
  refine lv_iconst (v := 3) hx hb dX12_image_19 (by decide) ?_
  refine lv_icmp_ge (tgt := 32) hx hb dX12_image_20 (by decide) (fun c => ?_) (fun c => absurd c (by decide))
  refine lv_aload_n hx hb dX12_image_32 rfl (lv_at hl 1 rfl) ?_
  refine lv_iload_n hx hb dX12_image_33 rfl (lv_at hl 0 rfl) ?_
  refine lv_iconst (v := 3) hx hb dX12_image_34 (by decide) ?_
  refine lv_isub hx hb dX12_image_35 ?_
  refine W.eq (g2 := F0 m 36 ls [.int 1, .ref (h 0), .int 4, .ref (h 19)]) (by rw [show (4 - 3 : Int32) = 1 from by decide]) ?_
  refine sg_calli (va_runV (As := [.int 1]) (rest := [.int 4, .ref (h 19)]) ⟨hx, hb, hml, hown, hts⟩ (cf_X12_led_1 l D ca za h hh f_11 L0 Q0 ((by rw [ef_11]; exact (show _ = _ from (by rw [ef_4]; exact (show _ = _ from (by rw [ef_3]; exact (show _ = _ from (by rw [ef_2]; exact (show _ = _ from (by rw [ef_1]; exact rfl)))))))))) H.size) (cwV 1 hts (gw_V (fun _ h => List.mem_cons_of_mem _ h) mw_336 mw_337 mw_338 mw_217 mw_335) rfl rfl rfl (by decide +kernel) ⟨Nat.le_of_ble_eq_true rfl, Nat.le_of_ble_eq_true rfl⟩) (sg_preV (ci := 12) (C := RX12) (T := TX12) (N := 55) hA hK hP hS hZ 0 (by decide) rfl rfl) rfl rfl hl.1 rfl (lv_room (Nat.le_of_ble_eq_true rfl)) dX12_image_36 ⟨Nat.le_refl _, Nat.le_refl _⟩) hA hS (fun r_15 f_12 L_13 Q_14 H locs hq hP hS => ?_)
  obtain ⟨⟨ef9, eL9, eQ9⟩, hq⟩ := hq
  rw [ef9, eL9, eQ9] at hP; clear ef9 eL9 eQ9
  have k_16 : (1 : Int32).toInt = 1 := by decide
  obtain ⟨rfl, hq⟩ := hq
  have q_17 := hq
  refine sg_iast hx hb hh hA hK hP hS 19 (by decide) 0 (fun _ => rfl) rfl (i := 4) (x := 0) (vp_in_iff.mpr (by decide)) dX12_image_39 (fun f_18 H locs ef_18 hP hS => ?_)
  refine lv_iinc (v := 5) (lv' := [(1, .int 5), (0, .ref (h 0))]) hx hb dX12_image_40 hl (k := 0) rfl (by decide) (by decide) rfl (fun ls hl => ?_)
  refine lv_goto (tgt := 7) hx hb dX12_image_43 (by decide) ?_
  refine lv_iload_n hx hb dX12_image_7 rfl (lv_at hl 0 rfl) ?_
  refine lv_bipush (v := 8) hx hb dX12_image_8 (by decide) ?_
  refine lv_icmp_ge (tgt := 46) hx hb dX12_image_10 (by decide) (fun c => absurd c (by decide)) (fun c => ?_)
  refine lv_aload_n hx hb dX12_image_13 rfl (lv_at hl 1 rfl) ?_
  refine sg_get (ci := 12) (v := .ref (h 19)) (C := RX12) (T := TX12) (N := 55) hx hb hts (fun w h => List.mem_cons_of_mem _ (gx_12 w h)) hown hK hP 0 (by decide) rfl rfl 44 (by decide) (hts _ (List.mem_cons_of_mem _ mw_334)) (fun _ h9 => h9) rfl dX12_image_14 ?_
  refine lv_iload_n hx hb dX12_image_17 rfl (lv_at hl 0 rfl) ?_
  refine lv_iload_n hx hb dX12_image_18 rfl (lv_at hl 0 rfl) ?_
  refine lv_iconst (v := 3) hx hb dX12_image_19 (by decide) ?_
  refine lv_icmp_ge (tgt := 32) hx hb dX12_image_20 (by decide) (fun c => ?_) (fun c => absurd c (by decide))
  refine lv_aload_n hx hb dX12_image_32 rfl (lv_at hl 1 rfl) ?_
  refine lv_iload_n hx hb dX12_image_33 rfl (lv_at hl 0 rfl) ?_
  refine lv_iconst (v := 3) hx hb dX12_image_34 (by decide) ?_
  refine lv_isub hx hb dX12_image_35 ?_
  refine W.eq (g2 := F0 m 36 ls [.int 2, .ref (h 0), .int 5, .ref (h 19)]) (by rw [show (5 - 3 : Int32) = 2 from by decide]) ?_
  refine sg_calli (va_runV (As := [.int 2]) (rest := [.int 5, .ref (h 19)]) ⟨hx, hb, hml, hown, hts⟩ (cf_X12_led_2 l D ca za h hh f_18 L0 Q0 ((by rw [ef_18]; exact (show _ = _ from (by rw [ef_11]; exact (show _ = _ from (by rw [ef_4]; exact (show _ = _ from (by rw [ef_3]; exact (show _ = _ from (by rw [ef_2]; exact (show _ = _ from (by rw [ef_1]; exact rfl)))))))))))) H.size) (cwV 1 hts (gw_V (fun _ h => List.mem_cons_of_mem _ h) mw_336 mw_337 mw_338 mw_217 mw_335) rfl rfl rfl (by decide +kernel) ⟨Nat.le_of_ble_eq_true rfl, Nat.le_of_ble_eq_true rfl⟩) (sg_preV (ci := 12) (C := RX12) (T := TX12) (N := 55) hA hK hP hS hZ 0 (by decide) rfl rfl) rfl rfl hl.1 rfl (lv_room (Nat.le_of_ble_eq_true rfl)) dX12_image_36 ⟨Nat.le_refl _, Nat.le_refl _⟩) hA hS (fun r_22 f_19 L_20 Q_21 H locs hq hP hS => ?_)
  obtain ⟨⟨ef9, eL9, eQ9⟩, hq⟩ := hq
  rw [ef9, eL9, eQ9] at hP; clear ef9 eL9 eQ9
  have k_23 : (2 : Int32).toInt = 2 := by decide
  obtain ⟨rfl, hq⟩ := hq
  have q_24 := hq
  refine sg_iast hx hb hh hA hK hP hS 19 (by decide) 0 (fun _ => rfl) rfl (i := 5) (x := 0) (vp_in_iff.mpr (by decide)) dX12_image_39 (fun f_25 H locs ef_25 hP hS => ?_)
  refine lv_iinc (v := 6) (lv' := [(1, .int 6), (0, .ref (h 0))]) hx hb dX12_image_40 hl (k := 0) rfl (by decide) (by decide) rfl (fun ls hl => ?_)
  refine lv_goto (tgt := 7) hx hb dX12_image_43 (by decide) ?_
  refine lv_iload_n hx hb dX12_image_7 rfl (lv_at hl 0 rfl) ?_
  refine lv_bipush (v := 8) hx hb dX12_image_8 (by decide) ?_
  refine lv_icmp_ge (tgt := 46) hx hb dX12_image_10 (by decide) (fun c => absurd c (by decide)) (fun c => ?_)
  refine lv_aload_n hx hb dX12_image_13 rfl (lv_at hl 1 rfl) ?_
  refine sg_get (ci := 12) (v := .ref (h 19)) (C := RX12) (T := TX12) (N := 55) hx hb hts (fun w h => List.mem_cons_of_mem _ (gx_12 w h)) hown hK hP 0 (by decide) rfl rfl 44 (by decide) (hts _ (List.mem_cons_of_mem _ mw_334)) (fun _ h9 => h9) rfl dX12_image_14 ?_
  refine lv_iload_n hx hb dX12_image_17 rfl (lv_at hl 0 rfl) ?_
  refine lv_iload_n hx hb dX12_image_18 rfl (lv_at hl 0 rfl) ?_
  refine lv_iconst (v := 3) hx hb dX12_image_19 (by decide) ?_
  refine lv_icmp_ge (tgt := 32) hx hb dX12_image_20 (by decide) (fun c => ?_) (fun c => absurd c (by decide))
  refine lv_aload_n hx hb dX12_image_32 rfl (lv_at hl 1 rfl) ?_
  refine lv_iload_n hx hb dX12_image_33 rfl (lv_at hl 0 rfl) ?_
  refine lv_iconst (v := 3) hx hb dX12_image_34 (by decide) ?_
  refine lv_isub hx hb dX12_image_35 ?_
  refine W.eq (g2 := F0 m 36 ls [.int 3, .ref (h 0), .int 6, .ref (h 19)]) (by rw [show (6 - 3 : Int32) = 3 from by decide]) ?_
  refine sg_calli (va_runV (As := [.int 3]) (rest := [.int 6, .ref (h 19)]) ⟨hx, hb, hml, hown, hts⟩ (cf_X12_led_3 l D ca za h hh f_25 L0 Q0 ((by rw [ef_25]; exact (show _ = _ from (by rw [ef_18]; exact (show _ = _ from (by rw [ef_11]; exact (show _ = _ from (by rw [ef_4]; exact (show _ = _ from (by rw [ef_3]; exact (show _ = _ from (by rw [ef_2]; exact (show _ = _ from (by rw [ef_1]; exact rfl)))))))))))))) H.size) (cwV 1 hts (gw_V (fun _ h => List.mem_cons_of_mem _ h) mw_336 mw_337 mw_338 mw_217 mw_335) rfl rfl rfl (by decide +kernel) ⟨Nat.le_of_ble_eq_true rfl, Nat.le_of_ble_eq_true rfl⟩) (sg_preV (ci := 12) (C := RX12) (T := TX12) (N := 55) hA hK hP hS hZ 0 (by decide) rfl rfl) rfl rfl hl.1 rfl (lv_room (Nat.le_of_ble_eq_true rfl)) dX12_image_36 ⟨Nat.le_refl _, Nat.le_refl _⟩) hA hS (fun r_29 f_26 L_27 Q_28 H locs hq hP hS => ?_)
  obtain ⟨⟨ef9, eL9, eQ9⟩, hq⟩ := hq
  rw [ef9, eL9, eQ9] at hP; clear ef9 eL9 eQ9
  have k_30 : (3 : Int32).toInt = 3 := by decide
  obtain ⟨rfl, hq⟩ := hq
  have q_31 := hq
  refine sg_iast hx hb hh hA hK hP hS 19 (by decide) 0 (fun _ => rfl) rfl (i := 6) (x := 0) (vp_in_iff.mpr (by decide)) dX12_image_39 (fun f_32 H locs ef_32 hP hS => ?_)
  refine lv_iinc (v := 7) (lv' := [(1, .int 7), (0, .ref (h 0))]) hx hb dX12_image_40 hl (k := 0) rfl (by decide) (by decide) rfl (fun ls hl => ?_)
  refine lv_goto (tgt := 7) hx hb dX12_image_43 (by decide) ?_
  refine lv_iload_n hx hb dX12_image_7 rfl (lv_at hl 0 rfl) ?_
  refine lv_bipush (v := 8) hx hb dX12_image_8 (by decide) ?_
  refine lv_icmp_ge (tgt := 46) hx hb dX12_image_10 (by decide) (fun c => absurd c (by decide)) (fun c => ?_)
  refine lv_aload_n hx hb dX12_image_13 rfl (lv_at hl 1 rfl) ?_
  refine sg_get (ci := 12) (v := .ref (h 19)) (C := RX12) (T := TX12) (N := 55) hx hb hts (fun w h => List.mem_cons_of_mem _ (gx_12 w h)) hown hK hP 0 (by decide) rfl rfl 44 (by decide) (hts _ (List.mem_cons_of_mem _ mw_334)) (fun _ h9 => h9) rfl dX12_image_14 ?_
  refine lv_iload_n hx hb dX12_image_17 rfl (lv_at hl 0 rfl) ?_
  refine lv_iload_n hx hb dX12_image_18 rfl (lv_at hl 0 rfl) ?_
  refine lv_iconst (v := 3) hx hb dX12_image_19 (by decide) ?_
  refine lv_icmp_ge (tgt := 32) hx hb dX12_image_20 (by decide) (fun c => ?_) (fun c => absurd c (by decide))
  refine lv_aload_n hx hb dX12_image_32 rfl (lv_at hl 1 rfl) ?_
  refine lv_iload_n hx hb dX12_image_33 rfl (lv_at hl 0 rfl) ?_
  refine lv_iconst (v := 3) hx hb dX12_image_34 (by decide) ?_
  refine lv_isub hx hb dX12_image_35 ?_
  refine W.eq (g2 := F0 m 36 ls [.int 4, .ref (h 0), .int 7, .ref (h 19)]) (by rw [show (7 - 3 : Int32) = 4 from by decide]) ?_
  refine sg_calli (va_runV (As := [.int 4]) (rest := [.int 7, .ref (h 19)]) ⟨hx, hb, hml, hown, hts⟩ (cf_X12_led_4 l D ca za h hh f_32 L0 Q0 ((by rw [ef_32]; exact (show _ = _ from (by rw [ef_25]; exact (show _ = _ from (by rw [ef_18]; exact (show _ = _ from (by rw [ef_11]; exact (show _ = _ from (by rw [ef_4]; exact (show _ = _ from (by rw [ef_3]; exact (show _ = _ from (by rw [ef_2]; exact (show _ = _ from (by rw [ef_1]; exact rfl)))))))))))))))) H.size) (cwV 1 hts (gw_V (fun _ h => List.mem_cons_of_mem _ h) mw_336 mw_337 mw_338 mw_217 mw_335) rfl rfl rfl (by decide +kernel) ⟨Nat.le_of_ble_eq_true rfl, Nat.le_of_ble_eq_true rfl⟩) (sg_preV (ci := 12) (C := RX12) (T := TX12) (N := 55) hA hK hP hS hZ 0 (by decide) rfl rfl) rfl rfl hl.1 rfl (lv_room (Nat.le_of_ble_eq_true rfl)) dX12_image_36 ⟨Nat.le_refl _, Nat.le_refl _⟩) hA hS (fun r_36 f_33 L_34 Q_35 H locs hq hP hS => ?_)
  obtain ⟨⟨ef9, eL9, eQ9⟩, hq⟩ := hq
  rw [ef9, eL9, eQ9] at hP; clear ef9 eL9 eQ9
  have k_37 : (4 : Int32).toInt = 4 := by decide
  obtain ⟨rfl, hq⟩ := hq
  have q_38 := hq
  refine sg_iast hx hb hh hA hK hP hS 19 (by decide) 0 (fun _ => rfl) rfl (i := 7) (x := (-2)) (vp_in_iff.mpr (by decide)) dX12_image_39 (fun f_39 H locs ef_39 hP hS => ?_)
  refine lv_iinc (v := 8) (lv' := [(1, .int 8), (0, .ref (h 0))]) hx hb dX12_image_40 hl (k := 0) rfl (by decide) (by decide) rfl (fun ls hl => ?_)
  refine lv_goto (tgt := 7) hx hb dX12_image_43 (by decide) ?_
  refine lv_iload_n hx hb dX12_image_7 rfl (lv_at hl 0 rfl) ?_
  refine lv_bipush (v := 8) hx hb dX12_image_8 (by decide) ?_
  refine lv_icmp_ge (tgt := 46) hx hb dX12_image_10 (by decide) (fun c => ?_) (fun c => absurd c (by decide))
  refine lv_aload_n hx hb dX12_image_46 rfl (lv_at hl 1 rfl) ?_
  refine sg_get (ci := 12) (v := .int 0) (C := RX12) (T := TX12) (N := 55) hx hb hts (fun w h => List.mem_cons_of_mem _ (gx_12 w h)) hown hK hP 0 (by decide) rfl rfl 38 (by decide) (hts _ (List.mem_cons_of_mem _ mw_329)) (fun _ h9 => h9) (congrArg (fun z => some (Value.int z)) (show f_39 0 38 = 0 from (by rw [ef_39]; exact (show _ = _ from (by rw [ef_32]; exact (show _ = _ from (by rw [ef_25]; exact (show _ = _ from (by rw [ef_18]; exact (show _ = _ from (by rw [ef_11]; exact (show _ = _ from (by rw [ef_4]; exact (show _ = _ from (by rw [ef_3]; exact (show _ = _ from (by rw [ef_2]; exact (show _ = _ from (by rw [ef_1]; exact rfl))))))))))))))))))) dX12_image_47 ?_
  exact hret _ _ _ _ (0) f_39 L0 Q0 dX12_image_50 hP hS ⟨trivial, ⟨rfl, trivial⟩⟩

set_option maxHeartbeats 4000000 in
set_option maxRecDepth 100000 in
theorem cf_X12_back (l : Launch) (D : va_G) (ca : Nat → ClassId) (za h : Nat → Nat) (hh : sgH 26 h)  (sz : Nat) : Met l yX12_back gwX12_back { frames := 0, cells := 0, slots := 0, locals := 0 } (sgP D vwCl (tyX ca) 26 h (eM ca h) zcM za f0M L0 Q0 sz [.ref (h 0)]) (sgQi D vwCl 26 h (eM ca h) sz (fun r f1 L1 Q1 => True ∧ ((r = (-5) ∧ (True))))) 0 0 (sgA 26 h sz) := by
  refine sg_ofWi (cc := cX12_back) (maxL := 2) RX12 (by decide) rfl rfl (Nat.le_of_ble_eq_true rfl) ?_
  intro p e s m below meth cd Qz ls hx hb hml hown hts hK hZ hP hS hl hret
  have hA := sgY.self (n := 26) (h := h) (sz := s.heap.size)
  have hl : lv_has ls 2 [(0, .ref (h 0))] := hl
  obtain ⟨H, hH⟩ : ∃ z : Heap, z = s.heap := ⟨_, rfl⟩
  obtain ⟨locs, hlo⟩ : ∃ z : List Loc, z = [] := ⟨_, rfl⟩
  have hP : va_P D vwCl (sgw 26 h (eM ca h) f0M L0 Q0) H := by rw [hH]; exact hP
  have hS : va_S (sgA 26 h s.heap.size) s.heap H locs := by rw [hH, hlo]; exact hS
  suffices hgo : W p l e ({ frames := 0, cells := 0, slots := 0, locals := 0 }) s m ([.ref (h 0)] : List Value).toArray below meth cd H locs 0 0 Qz (F0 m 0 ls []) by rw [hH, hlo] at hgo; exact hgo
  refine lv_aload_n hx hb dX12_back_0 rfl (lv_at hl 0 rfl) ?_
  refine sg_get (ci := 12) (v := .int 0) (C := RX12) (T := TX12) (N := 55) hx hb hts (fun w h => List.mem_cons_of_mem _ (gx_12 w h)) hown hK hP 0 (by decide) rfl rfl 43 (by decide) (hts _ (List.mem_cons_of_mem _ mw_333)) (fun _ h9 => h9) rfl dX12_back_1 ?_
  refine lv_if_ne (tgt := 10) hx hb dX12_back_4 (by decide) (fun c => absurd c (by decide)) (fun c => ?_)
  refine lv_bipush (v := (-5)) hx hb dX12_back_7 (by decide) ?_
  exact hret _ _ _ _ (-5) f0M L0 Q0 dX12_back_9 hP hS ⟨trivial, ⟨rfl, trivial⟩⟩

set_option maxHeartbeats 4000000 in
set_option maxRecDepth 100000 in
theorem cf_X12_undo (l : Launch) (D : va_G) (ca : Nat → ClassId) (za h : Nat → Nat) (hh : sgH 26 h)  (sz : Nat) : Met l yX12_undo gwX12_undo { frames := 0, cells := 0, slots := 0, locals := 0 } (sgP D vwCl (tyX ca) 26 h (eM ca h) zcM za f0M L0 Q0 sz [.ref (h 0)]) (sgQi D vwCl 26 h (eM ca h) sz (fun r f1 L1 Q1 => True ∧ ((r = (-5) ∧ (True))))) 0 0 (sgA 26 h sz) := by
  refine sg_ofWi (cc := cX12_undo) (maxL := 1) RX12 (by decide) rfl rfl (Nat.le_of_ble_eq_true rfl) ?_
  intro p e s m below meth cd Qz ls hx hb hml hown hts hK hZ hP hS hl hret
  have hA := sgY.self (n := 26) (h := h) (sz := s.heap.size)
  have hl : lv_has ls 1 [(0, .ref (h 0))] := hl
  obtain ⟨H, hH⟩ : ∃ z : Heap, z = s.heap := ⟨_, rfl⟩
  obtain ⟨locs, hlo⟩ : ∃ z : List Loc, z = [] := ⟨_, rfl⟩
  have hP : va_P D vwCl (sgw 26 h (eM ca h) f0M L0 Q0) H := by rw [hH]; exact hP
  have hS : va_S (sgA 26 h s.heap.size) s.heap H locs := by rw [hH, hlo]; exact hS
  suffices hgo : W p l e ({ frames := 0, cells := 0, slots := 0, locals := 0 }) s m ([.ref (h 0)] : List Value).toArray below meth cd H locs 0 0 Qz (F0 m 0 ls []) by rw [hH, hlo] at hgo; exact hgo
  refine lv_aload_n hx hb dX12_undo_0 rfl (lv_at hl 0 rfl) ?_
  refine sg_get (ci := 12) (v := .int 0) (C := RX12) (T := TX12) (N := 55) hx hb hts (fun w h => List.mem_cons_of_mem _ (gx_12 w h)) hown hK hP 0 (by decide) rfl rfl 5 (by decide) (hts _ (List.mem_cons_of_mem _ mw_253)) (fun _ h9 => h9) rfl dX12_undo_1 ?_
  refine lv_if_ne (tgt := 10) hx hb dX12_undo_4 (by decide) (fun c => absurd c (by decide)) (fun c => ?_)
  refine lv_bipush (v := (-5)) hx hb dX12_undo_7 (by decide) ?_
  exact hret _ _ _ _ (-5) f0M L0 Q0 dX12_undo_9 hP hS ⟨trivial, ⟨rfl, trivial⟩⟩

set_option maxHeartbeats 4000000 in
set_option maxRecDepth 100000 in
theorem cf_X12_redo (l : Launch) (D : va_G) (ca : Nat → ClassId) (za h : Nat → Nat) (hh : sgH 26 h)  (sz : Nat) : Met l yX12_redo gwX12_redo { frames := 0, cells := 0, slots := 0, locals := 0 } (sgP D vwCl (tyX ca) 26 h (eM ca h) zcM za f0M L0 Q0 sz [.ref (h 0)]) (sgQi D vwCl 26 h (eM ca h) sz (fun r f1 L1 Q1 => True ∧ ((r = (-5) ∧ (True))))) 0 0 (sgA 26 h sz) := by
  refine sg_ofWi (cc := cX12_redo) (maxL := 1) RX12 (by decide) rfl rfl (Nat.le_of_ble_eq_true rfl) ?_
  intro p e s m below meth cd Qz ls hx hb hml hown hts hK hZ hP hS hl hret
  have hA := sgY.self (n := 26) (h := h) (sz := s.heap.size)
  have hl : lv_has ls 1 [(0, .ref (h 0))] := hl
  obtain ⟨H, hH⟩ : ∃ z : Heap, z = s.heap := ⟨_, rfl⟩
  obtain ⟨locs, hlo⟩ : ∃ z : List Loc, z = [] := ⟨_, rfl⟩
  have hP : va_P D vwCl (sgw 26 h (eM ca h) f0M L0 Q0) H := by rw [hH]; exact hP
  have hS : va_S (sgA 26 h s.heap.size) s.heap H locs := by rw [hH, hlo]; exact hS
  suffices hgo : W p l e ({ frames := 0, cells := 0, slots := 0, locals := 0 }) s m ([.ref (h 0)] : List Value).toArray below meth cd H locs 0 0 Qz (F0 m 0 ls []) by rw [hH, hlo] at hgo; exact hgo
  refine lv_aload_n hx hb dX12_redo_0 rfl (lv_at hl 0 rfl) ?_
  refine sg_get (ci := 12) (v := .int 0) (C := RX12) (T := TX12) (N := 55) hx hb hts (fun w h => List.mem_cons_of_mem _ (gx_12 w h)) hown hK hP 0 (by decide) rfl rfl 5 (by decide) (hts _ (List.mem_cons_of_mem _ mw_253)) (fun _ h9 => h9) rfl dX12_redo_1 ?_
  refine lv_aload_n hx hb dX12_redo_4 rfl (lv_at hl 0 rfl) ?_
  refine sg_get (ci := 12) (v := .int 0) (C := RX12) (T := TX12) (N := 55) hx hb hts (fun w h => List.mem_cons_of_mem _ (gx_12 w h)) hown hK hP 0 (by decide) rfl rfl 4 (by decide) (hts _ (List.mem_cons_of_mem _ mw_257)) (fun _ h9 => h9) rfl dX12_redo_5 ?_
  refine lv_icmp_ne (tgt := 14) hx hb dX12_redo_8 (by decide) (fun c => absurd c (by decide)) (fun c => ?_)
  refine lv_bipush (v := (-5)) hx hb dX12_redo_11 (by decide) ?_
  exact hret _ _ _ _ (-5) f0M L0 Q0 dX12_redo_13 hP hS ⟨trivial, ⟨rfl, trivial⟩⟩

set_option maxHeartbeats 4000000 in
set_option maxRecDepth 100000 in
theorem cf_X12_body (l : Launch) (D : va_G) (ca : Nat → ClassId) (za h : Nat → Nat) (hh : sgH 26 h) (x0 : Int32) (sz : Nat) : Met l yX12_body gwX12_body { frames := 1, cells := 0, slots := 0, locals := 25 } (sgP D vwCl (tyX ca) 26 h (eM ca h) zcM za f0M L0 Q0 sz [.ref (h 0), .int x0]) (sgQi D vwCl 26 h (eM ca h) sz (fun r f1 L1 Q1 => True ∧ ((r = 0 ∧ ((0 ≤ x0.toInt ∧ x0.toInt ≤ 7))) ∨ (r = (-1) ∧ (¬ ((0 ≤ x0.toInt ∧ x0.toInt ≤ 7))))))) 0 0 (sgA 26 h sz) := by
  refine sg_ofWi (cc := cX12_body) (maxL := 2) RX12 (by decide) rfl rfl (Nat.le_of_ble_eq_true rfl) ?_
  intro p e s m below meth cd Qz ls hx hb hml hown hts hK hZ hP hS hl hret
  have hA := sgY.self (n := 26) (h := h) (sz := s.heap.size)
  have hl : lv_has ls 2 [(0, .ref (h 0)), (1, .int x0)] := hl
  obtain ⟨H, hH⟩ : ∃ z : Heap, z = s.heap := ⟨_, rfl⟩
  obtain ⟨locs, hlo⟩ : ∃ z : List Loc, z = [] := ⟨_, rfl⟩
  have hP : va_P D vwCl (sgw 26 h (eM ca h) f0M L0 Q0) H := by rw [hH]; exact hP
  have hS : va_S (sgA 26 h s.heap.size) s.heap H locs := by rw [hH, hlo]; exact hS
  suffices hgo : W p l e ({ frames := 1, cells := 0, slots := 0, locals := 25 }) s m ([.ref (h 0), .int x0] : List Value).toArray below meth cd H locs 0 0 Qz (F0 m 0 ls []) by rw [hH, hlo] at hgo; exact hgo
  refine lv_iload_n hx hb dX12_body_0 rfl (lv_at hl 1 rfl) ?_
  obtain ⟨w_1, ew_1⟩ : ∃ z : Int64, z = x0.toInt64 := ⟨_, rfl⟩
  have q_2 : w_1.toInt = x0.toInt := by rw [ew_1]; exact Int32.toInt_toInt64 _
  refine lv_i2l (v := w_1) hx hb dX12_body_1 ew_1.symm ?_
  refine lv_lconst (v := 0) hx hb dX12_body_2 (by decide) ?_
  refine lv_ldc2 (v := 7) hx hb hown (hts _ (List.mem_cons_of_mem _ mw_251)) dX12_body_3 ?_
  refine sg_calli (va_runS (As := [.long w_1, .long 0, .long 7]) (rest := []) ⟨hx, hb, hml, hown, hts⟩ (cf_X12_within l D ca za h hh f0M L0 Q0 w_1 0 7 H.size) (va_cwS 3 hts (gw_S (fun _ h => List.mem_cons_of_mem _ h) mw_215 mw_216 mw_217 mw_214) rfl rfl rfl (by decide +kernel) ⟨Nat.le_of_ble_eq_true rfl, Nat.le_of_ble_eq_true rfl⟩) (sg_preS hA hK hP hS hZ) rfl rfl hl.1 rfl (lv_room (Nat.le_of_ble_eq_true rfl)) dX12_body_6 ⟨Nat.le_refl _, Nat.le_refl _⟩) hA hS (fun r_6 f_3 L_4 Q_5 H locs hq hP hS => ?_)
  obtain ⟨⟨ef9, eL9, eQ9⟩, hq⟩ := hq
  rw [ef9, eL9, eQ9] at hP; clear ef9 eL9 eQ9
  have k_7 : (0 : Int64).toInt = 0 := by decide
  have k_8 : (7 : Int64).toInt = 7 := by decide
  rcases hq with ⟨rfl, hq⟩ | ⟨rfl, hq⟩
  · skip
    have q_9 := hq
    refine lv_if_ne (tgt := 14) hx hb dX12_body_9 (by decide) (fun c => ?_) (fun c => absurd c (by decide))
    refine lv_aload_n hx hb dX12_body_14 rfl (lv_at hl 0 rfl) ?_
    refine sg_get (ci := 12) (v := .int 0) (C := RX12) (T := TX12) (N := 55) hx hb hts (fun w h => List.mem_cons_of_mem _ (gx_12 w h)) hown hK hP 0 (by decide) rfl rfl 45 (by decide) (hts _ (List.mem_cons_of_mem _ mw_221)) (fun _ h9 => h9) rfl dX12_body_15 ?_
    refine lv_bipush (v := 50) hx hb dX12_body_18 (by decide) ?_
    refine lv_icmp_ne (tgt := 26) hx hb dX12_body_20 (by decide) (fun c => ?_) (fun c => absurd c (by decide))
    refine lv_aload_n hx hb dX12_body_26 rfl (lv_at hl 0 rfl) ?_
    refine sg_get (ci := 12) (v := .ref (h 20)) (C := RX12) (T := TX12) (N := 55) hx hb hts (fun w h => List.mem_cons_of_mem _ (gx_12 w h)) hown hK hP 0 (by decide) rfl rfl 46 (by decide) (hts _ (List.mem_cons_of_mem _ mw_339)) (fun _ h9 => h9) rfl dX12_body_27 ?_
    refine lv_aload_n hx hb dX12_body_30 rfl (lv_at hl 0 rfl) ?_
    refine sg_get (ci := 12) (v := .int 0) (C := RX12) (T := TX12) (N := 55) hx hb hts (fun w h => List.mem_cons_of_mem _ (gx_12 w h)) hown hK hP 0 (by decide) rfl rfl 45 (by decide) (hts _ (List.mem_cons_of_mem _ mw_221)) (fun _ h9 => h9) rfl dX12_body_31 ?_
    refine lv_iload_n hx hb dX12_body_34 rfl (lv_at hl 1 rfl) ?_
    refine sg_iast hx hb hh hA hK hP hS 20 (by decide) 0 (fun _ => rfl) rfl (i := 0) (x := x0) (vp_in_iff.mpr (by decide)) dX12_body_35 (fun f_10 H locs ef_10 hP hS => ?_)
    refine lv_aload_n hx hb dX12_body_36 rfl (lv_at hl 0 rfl) ?_
    refine lv_dup hx hb dX12_body_37 rfl ?_
    refine sg_get (ci := 12) (v := .int 0) (C := RX12) (T := TX12) (N := 55) hx hb hts (fun w h => List.mem_cons_of_mem _ (gx_12 w h)) hown hK hP 0 (by decide) rfl rfl 45 (by decide) (hts _ (List.mem_cons_of_mem _ mw_221)) (fun _ h9 => h9) (congrArg (fun z => some (Value.int z)) (show f_10 0 45 = 0 from (by rw [ef_10]; exact rfl))) dX12_body_38 ?_
    refine lv_iconst (v := 1) hx hb dX12_body_41 (by decide) ?_
    refine lv_iadd hx hb dX12_body_42 ?_
    refine W.eq (g2 := F0 m 43 ls [.int 1, .ref (h 0)]) (by rw [show (0 + 1 : Int32) = 1 from by decide]) ?_
    refine sg_put (ci := 12) (x := 1) (ty := .int) (C := RX12) (T := TX12) (N := 55) hx hb hts (fun w h => List.mem_cons_of_mem _ (gx_12 w h)) tyX12 tyX12_ok nmX12 hown hh hA hK hP hS 0 (by decide) rfl rfl 45 (by decide) (hts _ (List.mem_cons_of_mem _ mw_221)) (fun _ h9 => h9) rfl rfl (by decide +kernel) rfl rfl (Nat.le_of_ble_eq_true rfl) dX12_body_43 (fun f_11 H locs ef_11 hP hS => ?_)
    refine lv_aload_n hx hb dX12_body_46 rfl (lv_at hl 0 rfl) ?_
    refine sg_get (ci := 12) (v := .int 1) (C := RX12) (T := TX12) (N := 55) hx hb hts (fun w h => List.mem_cons_of_mem _ (gx_12 w h)) hown hK hP 0 (by decide) rfl rfl 45 (by decide) (hts _ (List.mem_cons_of_mem _ mw_221)) (fun _ h9 => h9) (congrArg (fun z => some (Value.int z)) (show f_11 0 45 = 1 from (by rw [ef_11]; rfl))) dX12_body_47 ?_
    refine lv_iconst (v := 1) hx hb dX12_body_50 (by decide) ?_
    refine lv_isub hx hb dX12_body_51 ?_
    refine W.eq (g2 := F0 m 52 ls [.int 0]) (by rw [show (1 - 1 : Int32) = 0 from by decide]) ?_
    exact hret _ _ _ _ (0) f_11 L0 Q0 dX12_body_52 hP hS ⟨trivial, Or.inl ⟨rfl, by omega⟩⟩
  · skip
    have q_12 := hq
    refine lv_if_ne (tgt := 14) hx hb dX12_body_9 (by decide) (fun c => absurd c (by decide)) (fun c => ?_)
    refine lv_iconst (v := (-1)) hx hb dX12_body_12 (by decide) ?_
    exact hret _ _ _ _ (-1) f0M L0 Q0 dX12_body_13 hP hS ⟨trivial, Or.inr (⟨rfl, by omega⟩)⟩

set_option maxHeartbeats 4000000 in
set_option maxRecDepth 100000 in
theorem cf_X12_act (l : Launch) (D : va_G) (ca : Nat → ClassId) (za h : Nat → Nat) (hh : sgH 26 h) (x0 : Int32) (x1 : Int32) (x2 : Int32) (sz : Nat) : Met l yX12_act gwX12_act { frames := 2, cells := 0, slots := 0, locals := 46 } (sgP D vwCl (tyX ca) 26 h (eM ca h) zcM za f0M L0 Q0 sz [.ref (h 0), .int x0, .int x1, .int x2]) (sgQi D vwCl 26 h (eM ca h) sz (fun r f1 L1 Q1 => True ∧ ((r = 0 ∧ (True))))) 0 0 (sgA 26 h sz) := by
  refine sg_ofWi (cc := cX12_act) (maxL := 4) RX12 (by decide) rfl rfl (Nat.le_of_ble_eq_true rfl) ?_
  intro p e s m below meth cd Qz ls hx hb hml hown hts hK hZ hP hS hl hret
  have hA := sgY.self (n := 26) (h := h) (sz := s.heap.size)
  have hl : lv_has ls 4 [(0, .ref (h 0)), (1, .int x0), (2, .int x1), (3, .int x2)] := hl
  obtain ⟨H, hH⟩ : ∃ z : Heap, z = s.heap := ⟨_, rfl⟩
  obtain ⟨locs, hlo⟩ : ∃ z : List Loc, z = [] := ⟨_, rfl⟩
  have hP : va_P D vwCl (sgw 26 h (eM ca h) f0M L0 Q0) H := by rw [hH]; exact hP
  have hS : va_S (sgA 26 h s.heap.size) s.heap H locs := by rw [hH, hlo]; exact hS
  suffices hgo : W p l e ({ frames := 2, cells := 0, slots := 0, locals := 46 }) s m ([.ref (h 0), .int x0, .int x1, .int x2] : List Value).toArray below meth cd H locs 0 0 Qz (F0 m 0 ls []) by rw [hH, hlo] at hgo; exact hgo
  refine lv_aload_n hx hb dX12_act_0 rfl (lv_at hl 0 rfl) ?_
  refine lv_iconst (v := 0) hx hb dX12_act_1 (by decide) ?_
  refine sg_put (ci := 12) (x := 0) (ty := .int) (C := RX12) (T := TX12) (N := 55) hx hb hts (fun w h => List.mem_cons_of_mem _ (gx_12 w h)) tyX12 tyX12_ok nmX12 hown hh hA hK hP hS 0 (by decide) rfl rfl 48 (by decide) (hts _ (List.mem_cons_of_mem _ mw_340)) (fun _ h9 => h9) rfl rfl (by decide +kernel) rfl rfl (Nat.le_of_ble_eq_true rfl) dX12_act_2 (fun f_1 H locs ef_1 hP hS => ?_)
  refine lv_aload_n hx hb dX12_act_5 rfl (lv_at hl 0 rfl) ?_
  refine lv_iload_n hx hb dX12_act_6 rfl (lv_at hl 1 rfl) ?_
  refine sg_calli (va_runV (As := [.int x0]) (rest := []) ⟨hx, hb, hml, hown, hts⟩ (cf_X12_isBody l D ca za h hh f_1 L0 Q0 x0 ((by rw [ef_1]; exact rfl)) H.size) (cwV 1 hts (gw_V (fun _ h => List.mem_cons_of_mem _ h) mw_342 mw_343 mw_344 mw_217 mw_341) rfl rfl rfl (by decide +kernel) ⟨Nat.le_of_ble_eq_true rfl, Nat.le_of_ble_eq_true rfl⟩) (sg_preV (ci := 12) (C := RX12) (T := TX12) (N := 55) hA hK hP hS hZ 0 (by decide) rfl rfl) rfl rfl hl.1 rfl (lv_room (Nat.le_of_ble_eq_true rfl)) dX12_act_7 ⟨Nat.le_refl _, Nat.le_refl _⟩) hA hS (fun r_5 f_2 L_3 Q_4 H locs hq hP hS => ?_)
  obtain ⟨⟨ef9, eL9, eQ9⟩, hq⟩ := hq
  rw [ef9, eL9, eQ9] at hP; clear ef9 eL9 eQ9
  obtain ⟨rfl, hq⟩ := hq
  have q_6 := hq
  refine lv_if_ne (tgt := 15) hx hb dX12_act_10 (by decide) (fun c => absurd c (by decide)) (fun c => ?_)
  refine lv_iconst (v := 0) hx hb dX12_act_13 (by decide) ?_
  exact hret _ _ _ _ (0) f_1 L0 Q0 dX12_act_14 hP hS ⟨trivial, ⟨rfl, trivial⟩⟩

set_option maxHeartbeats 4000000 in
set_option maxRecDepth 100000 in
theorem cf_X12_trace (l : Launch) (D : va_G) (ca : Nat → ClassId) (za h : Nat → Nat) (hh : sgH 26 h) (x0 : Int32) (sz : Nat) : Met l yX12_trace gwX12_trace { frames := 0, cells := 0, slots := 0, locals := 0 } (sgP D vwCl (tyX ca) 26 h (eM ca h) zcM za f0M L0 Q0 sz [.ref (h 0), .int x0]) (sgQi D vwCl 26 h (eM ca h) sz (fun r f1 L1 Q1 => True ∧ ((r = (-1) ∧ (True))))) 0 0 (sgA 26 h sz) := by
  refine sg_ofWi (cc := cX12_trace) (maxL := 2) RX12 (by decide) rfl rfl (Nat.le_of_ble_eq_true rfl) ?_
  intro p e s m below meth cd Qz ls hx hb hml hown hts hK hZ hP hS hl hret
  have hA := sgY.self (n := 26) (h := h) (sz := s.heap.size)
  have hl : lv_has ls 2 [(0, .ref (h 0)), (1, .int x0)] := hl
  obtain ⟨H, hH⟩ : ∃ z : Heap, z = s.heap := ⟨_, rfl⟩
  obtain ⟨locs, hlo⟩ : ∃ z : List Loc, z = [] := ⟨_, rfl⟩
  have hP : va_P D vwCl (sgw 26 h (eM ca h) f0M L0 Q0) H := by rw [hH]; exact hP
  have hS : va_S (sgA 26 h s.heap.size) s.heap H locs := by rw [hH, hlo]; exact hS
  suffices hgo : W p l e ({ frames := 0, cells := 0, slots := 0, locals := 0 }) s m ([.ref (h 0), .int x0] : List Value).toArray below meth cd H locs 0 0 Qz (F0 m 0 ls []) by rw [hH, hlo] at hgo; exact hgo
  refine lv_iload_n hx hb dX12_trace_0 rfl (lv_at hl 1 rfl) ?_
  refine lv_if_lt (tgt := 27) hx hb dX12_trace_1 (by decide) (fun c => ?_) (fun c => ?_)
  · skip
    have c_1 : x0.toInt < 0 := (by have z := bn_lt c; have k1 : (0 : Int32).toInt = 0 := (by decide); omega)
    refine lv_iconst (v := (-1)) hx hb dX12_trace_27 (by decide) ?_
    exact hret _ _ _ _ (-1) f0M L0 Q0 dX12_trace_28 hP hS ⟨trivial, ⟨rfl, trivial⟩⟩
  · skip
    have c_2 : 0 ≤ x0.toInt := (by have z := bn_nlt c; have k1 : (0 : Int32).toInt = 0 := (by decide); omega)
    refine lv_iload_n hx hb dX12_trace_4 rfl (lv_at hl 1 rfl) ?_
    refine lv_aload_n hx hb dX12_trace_5 rfl (lv_at hl 0 rfl) ?_
    refine sg_get (ci := 12) (v := .int 0) (C := RX12) (T := TX12) (N := 55) hx hb hts (fun w h => List.mem_cons_of_mem _ (gx_12 w h)) hown hK hP 0 (by decide) rfl rfl 48 (by decide) (hts _ (List.mem_cons_of_mem _ mw_340)) (fun _ h9 => h9) rfl dX12_trace_6 ?_
    refine lv_icmp_ge (tgt := 27) hx hb dX12_trace_9 (by decide) (fun c => ?_) (fun c => ?_)
    · skip
      have c_3 : 0 ≤ x0.toInt := (by have z := bn_le c; have k1 : (0 : Int32).toInt = 0 := (by decide); omega)
      refine lv_iconst (v := (-1)) hx hb dX12_trace_27 (by decide) ?_
      exact hret _ _ _ _ (-1) f0M L0 Q0 dX12_trace_28 hP hS ⟨trivial, ⟨rfl, trivial⟩⟩
    · skip
      exfalso; have c_4 : x0.toInt < 0 := (by have z := bn_nle c; have k1 : (0 : Int32).toInt = 0 := (by decide); omega); omega

set_option maxHeartbeats 4000000 in
set_option maxRecDepth 100000 in
theorem cf_X12_keep (l : Launch) (D : va_G) (ca : Nat → ClassId) (za h : Nat → Nat) (hh : sgH 26 h) (x0 : Int32) (x1 : Int32) (sz : Nat) : Met l yX12_keep gwX12_keep { frames := 2, cells := 0, slots := 0, locals := 46 } (sgP D vwCl (tyX ca) 26 h (eM ca h) zcM za f0M L0 Q0 sz [.ref (h 0), .int x0, .int x1]) (sgQi D vwCl 26 h (eM ca h) sz (fun r f1 L1 Q1 => True ∧ ((r = 1 ∧ ((0 ≤ x0.toInt ∧ x0.toInt ≤ 5) ∧ x1.toInt = -1)) ∨ (r = (-1) ∧ (¬ ((0 ≤ x0.toInt ∧ x0.toInt ≤ 5) ∧ x1.toInt = -1)))))) 0 0 (sgA 26 h sz) := by
  refine sg_ofWi (cc := cX12_keep) (maxL := 3) RX12 (by decide) rfl rfl (Nat.le_of_ble_eq_true rfl) ?_
  intro p e s m below meth cd Qz ls hx hb hml hown hts hK hZ hP hS hl hret
  have hA := sgY.self (n := 26) (h := h) (sz := s.heap.size)
  have hl : lv_has ls 3 [(0, .ref (h 0)), (1, .int x0), (2, .int x1)] := hl
  obtain ⟨H, hH⟩ : ∃ z : Heap, z = s.heap := ⟨_, rfl⟩
  obtain ⟨locs, hlo⟩ : ∃ z : List Loc, z = [] := ⟨_, rfl⟩
  have hP : va_P D vwCl (sgw 26 h (eM ca h) f0M L0 Q0) H := by rw [hH]; exact hP
  have hS : va_S (sgA 26 h s.heap.size) s.heap H locs := by rw [hH, hlo]; exact hS
  suffices hgo : W p l e ({ frames := 2, cells := 0, slots := 0, locals := 46 }) s m ([.ref (h 0), .int x0, .int x1] : List Value).toArray below meth cd H locs 0 0 Qz (F0 m 0 ls []) by rw [hH, hlo] at hgo; exact hgo
  refine lv_iload_n hx hb dX12_keep_0 rfl (lv_at hl 1 rfl) ?_
  refine sg_calli (va_runS (As := [.int x0]) (rest := []) ⟨hx, hb, hml, hown, hts⟩ (cf_X12_isShelf l D ca za h hh f0M L0 Q0 x0 H.size) (va_cwS 1 hts (gw_S (fun _ h => List.mem_cons_of_mem _ h) mw_223 mw_224 mw_217 mw_222) rfl rfl rfl (by decide +kernel) ⟨Nat.le_of_ble_eq_true rfl, Nat.le_of_ble_eq_true rfl⟩) (sg_preS hA hK hP hS hZ) rfl rfl hl.1 rfl (lv_room (Nat.le_of_ble_eq_true rfl)) dX12_keep_1 ⟨Nat.le_refl _, Nat.le_refl _⟩) hA hS (fun r_4 f_1 L_2 Q_3 H locs hq hP hS => ?_)
  obtain ⟨⟨ef9, eL9, eQ9⟩, hq⟩ := hq
  rw [ef9, eL9, eQ9] at hP; clear ef9 eL9 eQ9
  rcases hq with ⟨rfl, hq⟩ | ⟨rfl, hq⟩
  · skip
    have q_5 := hq
    refine lv_if_eq (tgt := 20) hx hb dX12_keep_4 (by decide) (fun c => absurd c (by decide)) (fun c => ?_)
    refine lv_iload_n hx hb dX12_keep_7 rfl (lv_at hl 2 rfl) ?_
    refine lv_iconst (v := (-1)) hx hb dX12_keep_8 (by decide) ?_
    refine lv_icmp_eq (tgt := 22) hx hb dX12_keep_9 (by decide) (fun c => ?_) (fun c => ?_)
    · skip
      have c_6 : x1.toInt = (-1) := (by have z := Int32.toInt_inj.mpr c; have k1 : ((-1) : Int32).toInt = (-1) := (by decide); omega)
      refine lv_aload_n hx hb dX12_keep_22 rfl (lv_at hl 0 rfl) ?_
      refine sg_get (ci := 12) (v := .ref (h 22)) (C := RX12) (T := TX12) (N := 55) hx hb hts (fun w h => List.mem_cons_of_mem _ (gx_12 w h)) hown hK hP 0 (by decide) rfl rfl 51 (by decide) (hts _ (List.mem_cons_of_mem _ mw_225)) (fun _ h9 => h9) rfl dX12_keep_23 ?_
      refine lv_iload_n hx hb dX12_keep_26 rfl (lv_at hl 1 rfl) ?_
      refine lv_iload_n hx hb dX12_keep_27 rfl (lv_at hl 2 rfl) ?_
      refine sg_iast hx hb hh hA hK hP hS 22 (by decide) 0 (fun _ => rfl) rfl (i := x0) (x := x1) (vp_in_iff.mpr ⟨by omega, by omega⟩) dX12_keep_28 (fun f_8 H locs ef_8 hP hS => ?_)
      refine lv_aload_n hx hb dX12_keep_29 rfl (lv_at hl 0 rfl) ?_
      refine sg_get (ci := 12) (v := .ref (h 23)) (C := RX12) (T := TX12) (N := 55) hx hb hts (fun w h => List.mem_cons_of_mem _ (gx_12 w h)) hown hK hP 0 (by decide) rfl rfl 52 (by decide) (hts _ (List.mem_cons_of_mem _ mw_345)) (fun _ h9 => h9) rfl dX12_keep_30 ?_
      refine lv_iload_n hx hb dX12_keep_33 rfl (lv_at hl 1 rfl) ?_
      refine lv_iconst (v := 0) hx hb dX12_keep_34 (by decide) ?_
      refine sg_iast hx hb hh hA hK hP hS 23 (by decide) 0 (fun _ => rfl) rfl (i := x0) (x := 0) (vp_in_iff.mpr ⟨by omega, by omega⟩) dX12_keep_35 (fun f_9 H locs ef_9 hP hS => ?_)
      refine lv_iconst (v := 1) hx hb dX12_keep_36 (by decide) ?_
      exact hret _ _ _ _ (1) f_9 L0 Q0 dX12_keep_37 hP hS ⟨trivial, Or.inl ⟨rfl, by omega⟩⟩
    · skip
      have c_7 : x1.toInt ≠ (-1) := (by have z := bn_ne c; have k1 : ((-1) : Int32).toInt = (-1) := (by decide); omega)
      refine lv_aload_n hx hb dX12_keep_12 rfl (lv_at hl 0 rfl) ?_
      refine lv_iload_n hx hb dX12_keep_13 rfl (lv_at hl 2 rfl) ?_
      refine sg_calli (va_runV (As := [.int x1]) (rest := []) ⟨hx, hb, hml, hown, hts⟩ (cf_X12_isBody l D ca za h hh f0M L0 Q0 x1 rfl H.size) (cwV 1 hts (gw_V (fun _ h => List.mem_cons_of_mem _ h) mw_342 mw_343 mw_344 mw_217 mw_341) rfl rfl rfl (by decide +kernel) ⟨Nat.le_of_ble_eq_true rfl, Nat.le_of_ble_eq_true rfl⟩) (sg_preV (ci := 12) (C := RX12) (T := TX12) (N := 55) hA hK hP hS hZ 0 (by decide) rfl rfl) rfl rfl hl.1 rfl (lv_room (Nat.le_of_ble_eq_true rfl)) dX12_keep_14 ⟨Nat.le_refl _, Nat.le_refl _⟩) hA hS (fun r_13 f_10 L_11 Q_12 H locs hq hP hS => ?_)
      obtain ⟨⟨ef9, eL9, eQ9⟩, hq⟩ := hq
      rw [ef9, eL9, eQ9] at hP; clear ef9 eL9 eQ9
      obtain ⟨rfl, hq⟩ := hq
      have q_14 := hq
      refine lv_if_ne (tgt := 22) hx hb dX12_keep_17 (by decide) (fun c => absurd c (by decide)) (fun c => ?_)
      refine lv_iconst (v := (-1)) hx hb dX12_keep_20 (by decide) ?_
      exact hret _ _ _ _ (-1) f0M L0 Q0 dX12_keep_21 hP hS ⟨trivial, Or.inr (⟨rfl, by omega⟩)⟩
  · skip
    have q_15 := hq
    refine lv_if_eq (tgt := 20) hx hb dX12_keep_4 (by decide) (fun c => ?_) (fun c => absurd c (by decide))
    refine lv_iconst (v := (-1)) hx hb dX12_keep_20 (by decide) ?_
    exact hret _ _ _ _ (-1) f0M L0 Q0 dX12_keep_21 hP hS ⟨trivial, Or.inr (⟨rfl, by omega⟩)⟩

set_option maxHeartbeats 4000000 in
set_option maxRecDepth 100000 in
theorem cf_X12_row (l : Launch) (D : va_G) (ca : Nat → ClassId) (za h : Nat → Nat) (hh : sgH 26 h) (x0 : Int32) (x1 : Int32) (x2 : Int32) (sz : Nat) : Met l yX12_row gwX12_row { frames := 2, cells := 0, slots := 0, locals := 45 } (sgP D vwCl (tyX ca) 26 h (eM ca h) zcM za f0M L0 Q0 sz [.ref (h 0), .int x0, .int x1, .int x2]) (sgQi D vwCl 26 h (eM ca h) sz (fun r f1 L1 Q1 => True ∧ ((r = 1 ∧ ((0 ≤ x0.toInt ∧ x0.toInt ≤ 5) ∧ (0 ≤ x1.toInt ∧ x1.toInt ≤ 4) ∧ (0 ≤ x2.toInt ∧ x2.toInt ≤ 60))) ∨ (r = (-14) ∧ ((0 ≤ x0.toInt ∧ x0.toInt ≤ 5) ∧ (0 ≤ x1.toInt ∧ x1.toInt ≤ 4) ∧ x2.toInt < 0)) ∨ (r = (-1) ∧ (¬ ((0 ≤ x0.toInt ∧ x0.toInt ≤ 5) ∧ (0 ≤ x1.toInt ∧ x1.toInt ≤ 4) ∧ x2.toInt ≤ 60)))))) 0 0 (sgA 26 h sz) := by
  refine sg_ofWi (cc := cX12_row) (maxL := 5) RX12 (by decide) rfl rfl (Nat.le_of_ble_eq_true rfl) ?_
  intro p e s m below meth cd Qz ls hx hb hml hown hts hK hZ hP hS hl hret
  have hA := sgY.self (n := 26) (h := h) (sz := s.heap.size)
  have hl : lv_has ls 5 [(0, .ref (h 0)), (1, .int x0), (2, .int x1), (3, .int x2)] := hl
  obtain ⟨H, hH⟩ : ∃ z : Heap, z = s.heap := ⟨_, rfl⟩
  obtain ⟨locs, hlo⟩ : ∃ z : List Loc, z = [] := ⟨_, rfl⟩
  have hP : va_P D vwCl (sgw 26 h (eM ca h) f0M L0 Q0) H := by rw [hH]; exact hP
  have hS : va_S (sgA 26 h s.heap.size) s.heap H locs := by rw [hH, hlo]; exact hS
  suffices hgo : W p l e ({ frames := 2, cells := 0, slots := 0, locals := 45 }) s m ([.ref (h 0), .int x0, .int x1, .int x2] : List Value).toArray below meth cd H locs 0 0 Qz (F0 m 0 ls []) by rw [hH, hlo] at hgo; exact hgo
  refine lv_iload_n hx hb dX12_row_0 rfl (lv_at hl 1 rfl) ?_
  refine sg_calli (va_runS (As := [.int x0]) (rest := []) ⟨hx, hb, hml, hown, hts⟩ (cf_X12_isShelf l D ca za h hh f0M L0 Q0 x0 H.size) (va_cwS 1 hts (gw_S (fun _ h => List.mem_cons_of_mem _ h) mw_223 mw_224 mw_217 mw_222) rfl rfl rfl (by decide +kernel) ⟨Nat.le_of_ble_eq_true rfl, Nat.le_of_ble_eq_true rfl⟩) (sg_preS hA hK hP hS hZ) rfl rfl hl.1 rfl (lv_room (Nat.le_of_ble_eq_true rfl)) dX12_row_1 ⟨Nat.le_refl _, Nat.le_refl _⟩) hA hS (fun r_4 f_1 L_2 Q_3 H locs hq hP hS => ?_)
  obtain ⟨⟨ef9, eL9, eQ9⟩, hq⟩ := hq
  rw [ef9, eL9, eQ9] at hP; clear ef9 eL9 eQ9
  rcases hq with ⟨rfl, hq⟩ | ⟨rfl, hq⟩
  · skip
    have q_5 := hq
    refine lv_if_eq (tgt := 25) hx hb dX12_row_4 (by decide) (fun c => absurd c (by decide)) (fun c => ?_)
    refine lv_iload_n hx hb dX12_row_7 rfl (lv_at hl 2 rfl) ?_
    obtain ⟨w_6, ew_6⟩ : ∃ z : Int64, z = x1.toInt64 := ⟨_, rfl⟩
    have q_7 : w_6.toInt = x1.toInt := by rw [ew_6]; exact Int32.toInt_toInt64 _
    refine lv_i2l (v := w_6) hx hb dX12_row_8 ew_6.symm ?_
    refine lv_lconst (v := 0) hx hb dX12_row_9 (by decide) ?_
    refine lv_ldc2 (v := 4) hx hb hown (hts _ (List.mem_cons_of_mem _ mw_346)) dX12_row_10 ?_
    refine sg_calli (va_runS (As := [.long w_6, .long 0, .long 4]) (rest := []) ⟨hx, hb, hml, hown, hts⟩ (cf_X12_within l D ca za h hh f0M L0 Q0 w_6 0 4 H.size) (va_cwS 3 hts (gw_S (fun _ h => List.mem_cons_of_mem _ h) mw_215 mw_216 mw_217 mw_214) rfl rfl rfl (by decide +kernel) ⟨Nat.le_of_ble_eq_true rfl, Nat.le_of_ble_eq_true rfl⟩) (sg_preS hA hK hP hS hZ) rfl rfl hl.1 rfl (lv_room (Nat.le_of_ble_eq_true rfl)) dX12_row_13 ⟨Nat.le_refl _, Nat.le_refl _⟩) hA hS (fun r_11 f_8 L_9 Q_10 H locs hq hP hS => ?_)
    obtain ⟨⟨ef9, eL9, eQ9⟩, hq⟩ := hq
    rw [ef9, eL9, eQ9] at hP; clear ef9 eL9 eQ9
    have k_12 : (0 : Int64).toInt = 0 := by decide
    have k_13 : (4 : Int64).toInt = 4 := by decide
    rcases hq with ⟨rfl, hq⟩ | ⟨rfl, hq⟩
    · skip
      have q_14 := hq
      refine lv_if_eq (tgt := 25) hx hb dX12_row_16 (by decide) (fun c => absurd c (by decide)) (fun c => ?_)
      refine lv_iload_n hx hb dX12_row_19 rfl (lv_at hl 3 rfl) ?_
      refine lv_bipush (v := 60) hx hb dX12_row_20 (by decide) ?_
      refine lv_icmp_le (tgt := 27) hx hb dX12_row_22 (by decide) (fun c => ?_) (fun c => ?_)
      · skip
        have c_15 : x2.toInt ≤ 60 := (by have z := bn_le c; have k1 : (60 : Int32).toInt = 60 := (by decide); omega)
        refine lv_iload_n hx hb dX12_row_27 rfl (lv_at hl 3 rfl) ?_
        refine lv_if_ge (tgt := 34) hx hb dX12_row_28 (by decide) (fun c => ?_) (fun c => ?_)
        · skip
          have c_17 : 0 ≤ x2.toInt := (by have z := bn_le c; have k1 : (0 : Int32).toInt = 0 := (by decide); omega)
          refine lv_aload_n hx hb dX12_row_34 rfl (lv_at hl 0 rfl) ?_
          refine sg_get (ci := 12) (v := .ref (h 22)) (C := RX12) (T := TX12) (N := 55) hx hb hts (fun w h => List.mem_cons_of_mem _ (gx_12 w h)) hown hK hP 0 (by decide) rfl rfl 51 (by decide) (hts _ (List.mem_cons_of_mem _ mw_225)) (fun _ h9 => h9) rfl dX12_row_35 ?_
          refine lv_iload_n hx hb dX12_row_38 rfl (lv_at hl 1 rfl) ?_
          refine lv_bipush (v := 50) hx hb dX12_row_39 (by decide) ?_
          refine lv_iload_n hx hb dX12_row_41 rfl (lv_at hl 2 rfl) ?_
          refine lv_iadd hx hb dX12_row_42 ?_
          refine lv_topi (fun v_19 ev_19 => ?_)
          have q_20 : v_19.toInt = 50 + x1.toInt := by rw [ev_19]; have k0 : (50 : Int32).toInt = 50 := (by decide); exact (bn_addI (by omega) (by omega)).trans (by omega)
          refine sg_iast hx hb hh hA hK hP hS 22 (by decide) 0 (fun _ => rfl) rfl (i := x0) (x := v_19) (vp_in_iff.mpr ⟨by omega, by omega⟩) dX12_row_43 (fun f_21 H locs ef_21 hP hS => ?_)
          refine lv_aload_n hx hb dX12_row_44 rfl (lv_at hl 0 rfl) ?_
          refine sg_get (ci := 12) (v := .ref (h 23)) (C := RX12) (T := TX12) (N := 55) hx hb hts (fun w h => List.mem_cons_of_mem _ (gx_12 w h)) hown hK hP 0 (by decide) rfl rfl 52 (by decide) (hts _ (List.mem_cons_of_mem _ mw_345)) (fun _ h9 => h9) rfl dX12_row_45 ?_
          refine lv_iload_n hx hb dX12_row_48 rfl (lv_at hl 1 rfl) ?_
          refine lv_iload_n hx hb dX12_row_49 rfl (lv_at hl 3 rfl) ?_
          refine sg_iast hx hb hh hA hK hP hS 23 (by decide) 0 (fun _ => rfl) rfl (i := x0) (x := x2) (vp_in_iff.mpr ⟨by omega, by omega⟩) dX12_row_50 (fun f_22 H locs ef_22 hP hS => ?_)
          refine lv_bipush (v := 60) hx hb dX12_row_51 (by decide) ?_
          refine lv_iload_n hx hb dX12_row_53 rfl (lv_at hl 1 rfl) ?_
          refine lv_imul hx hb dX12_row_54 ?_
          refine lv_topi (fun v_23 ev_23 => ?_)
          have q_24 : v_23.toInt = 60 * x0.toInt := by rw [ev_23]; exact bn_mulJ (by decide) (by omega) (by omega)
          refine lv_istore (lv' := [(4, .int v_23), (0, .ref (h 0)), (1, .int x0), (2, .int x1), (3, .int x2)]) hx hb dX12_row_55 hl (by decide) rfl (fun ls hl => ?_)
          have loop_57 : ∀ (n : Nat) (y4_57 : Int32) (Ll : sg_L) (H : Heap) (locs : List Loc) (ls : Array Slot), 60 * x0.toInt + 60 - y4_57.toInt < (n : Int) → 60 * x0.toInt ≤ y4_57.toInt → y4_57.toInt ≤ 60 * x0.toInt + 60 → va_P D vwCl (sgw 26 h (eM ca h) f_22 Ll Q0) H → va_S (sgA 26 h s.heap.size) s.heap H locs → lv_has ls 5 [(4, .int y4_57), (0, .ref (h 0)), (1, .int x0), (2, .int x1), (3, .int x2)] → W p l e ({ frames := 2, cells := 0, slots := 0, locals := 45 }) s m ([.ref (h 0), .int x0, .int x1, .int x2] : List Value).toArray below meth cd H locs 0 0 Qz (F0 m 57 ls []) := by
            intro n
            induction n with
            | zero => intro y4_57 Ll H locs ls hm hf0 hf1 hP hS hl; exact absurd hm (by omega)
            | succ n ih =>
              intro y4_57 Ll H locs ls hm hf0 hf1 hP hS hl
              refine lv_iload hx hb dX12_row_57 (lv_at hl 0 rfl) ?_
              refine lv_bipush (v := 60) hx hb dX12_row_59 (by decide) ?_
              refine lv_iload_n hx hb dX12_row_61 rfl (lv_at hl 2 rfl) ?_
              refine lv_imul hx hb dX12_row_62 ?_
              refine lv_topi (fun v_25 ev_25 => ?_)
              have q_26 : v_25.toInt = 60 * x0.toInt := by rw [ev_25]; exact bn_mulJ (by decide) (by omega) (by omega)
              refine lv_bipush (v := 60) hx hb dX12_row_63 (by decide) ?_
              refine lv_iadd hx hb dX12_row_65 ?_
              refine lv_topi (fun v_27 ev_27 => ?_)
              have q_28 : v_27.toInt = v_25.toInt + 60 := by rw [ev_27]; have k1 : (60 : Int32).toInt = 60 := (by decide); exact (bn_addI (by omega) (by omega)).trans (by omega)
              refine lv_icmp_ge (tgt := 83) hx hb dX12_row_66 (by decide) (fun c => ?_) (fun c => ?_)
              · skip
                have c_29 : v_27.toInt ≤ y4_57.toInt := (by have z := bn_le c; omega)
                refine lv_iconst (v := 1) hx hb dX12_row_83 (by decide) ?_
                exact hret _ _ _ _ (1) f_22 Ll Q0 dX12_row_84 hP hS ⟨trivial, Or.inl ⟨rfl, by omega⟩⟩
              · skip
                have c_30 : y4_57.toInt < v_27.toInt := (by have z := bn_nle c; omega)
                refine lv_aload_n hx hb dX12_row_69 rfl (lv_at hl 1 rfl) ?_
                refine sg_get (ci := 12) (v := .ref (h 24)) (C := RX12) (T := TX12) (N := 55) hx hb hts (fun w h => List.mem_cons_of_mem _ (gx_12 w h)) hown hK hP 0 (by decide) rfl rfl 53 (by decide) (hts _ (List.mem_cons_of_mem _ mw_347)) (fun _ h9 => h9) rfl dX12_row_70 ?_
                refine lv_iload hx hb dX12_row_73 (lv_at hl 0 rfl) ?_
                refine lv_lconst (v := 0) hx hb dX12_row_75 (by decide) ?_
                refine sg_last hx hb hh hA hK hP hS 24 (by decide) 1 (fun _ => rfl) rfl (i := y4_57) (x := 0) (vp_in_iff.mpr ⟨by omega, by omega⟩) dX12_row_76 (fun L_31 H locs eL_31 hP hS => ?_)
                obtain ⟨v_32, ev_32⟩ : ∃ z : Int32, z = y4_57 + 1 := ⟨_, rfl⟩
                have q_33 : v_32.toInt = y4_57.toInt + 1 := by rw [ev_32]; exact (bn_addc y4_57 1 (by decide) (by omega) (by omega))
                refine lv_iinc (v := v_32) (lv' := [(4, .int v_32), (0, .ref (h 0)), (1, .int x0), (2, .int x1), (3, .int x2)]) hx hb dX12_row_77 hl (k := 0) rfl (by rw [ev_32]; rfl) (by decide) rfl (fun ls hl => ?_)
                refine lv_goto (tgt := 57) hx hb dX12_row_80 (by decide) ?_
                exact ih v_32 L_31 _ _ _ (by omega) (by omega) (by omega) hP hS (lv_sub hl [0, 1, 2, 3, 4] rfl)
          exact loop_57 100 v_23 L0 _ _ _ (by omega) (by omega) (by omega) hP hS (lv_sub hl [0, 1, 2, 3, 4] rfl)
        · skip
          have c_18 : x2.toInt < 0 := (by have z := bn_nle c; have k1 : (0 : Int32).toInt = 0 := (by decide); omega)
          refine lv_bipush (v := (-14)) hx hb dX12_row_31 (by decide) ?_
          exact hret _ _ _ _ (-14) f0M L0 Q0 dX12_row_33 hP hS ⟨trivial, Or.inr (Or.inl ⟨rfl, by omega⟩)⟩
      · skip
        have c_16 : 60 < x2.toInt := (by have z := bn_nle c; have k1 : (60 : Int32).toInt = 60 := (by decide); omega)
        refine lv_iconst (v := (-1)) hx hb dX12_row_25 (by decide) ?_
        exact hret _ _ _ _ (-1) f0M L0 Q0 dX12_row_26 hP hS ⟨trivial, Or.inr (Or.inr (⟨rfl, by omega⟩))⟩
    · skip
      have q_34 := hq
      refine lv_if_eq (tgt := 25) hx hb dX12_row_16 (by decide) (fun c => ?_) (fun c => absurd c (by decide))
      refine lv_iconst (v := (-1)) hx hb dX12_row_25 (by decide) ?_
      exact hret _ _ _ _ (-1) f0M L0 Q0 dX12_row_26 hP hS ⟨trivial, Or.inr (Or.inr (⟨rfl, by omega⟩))⟩
  · skip
    have q_35 := hq
    refine lv_if_eq (tgt := 25) hx hb dX12_row_4 (by decide) (fun c => ?_) (fun c => absurd c (by decide))
    refine lv_iconst (v := (-1)) hx hb dX12_row_25 (by decide) ?_
    exact hret _ _ _ _ (-1) f0M L0 Q0 dX12_row_26 hP hS ⟨trivial, Or.inr (Or.inr (⟨rfl, by omega⟩))⟩

set_option maxHeartbeats 4000000 in
set_option maxRecDepth 100000 in
theorem cf_X12_refusal (l : Launch) (D : va_G) (ca : Nat → ClassId) (za h : Nat → Nat) (hh : sgH 26 h) (x0 : Int32) (x1 : Int32) (sz : Nat) : Met l yX12_refusal gwX12_refusal { frames := 2, cells := 0, slots := 0, locals := 45 } (sgP D vwCl (tyX ca) 26 h (eM ca h) zcM za f0M L0 Q0 sz [.ref (h 0), .int x0, .int x1]) (sgQi D vwCl 26 h (eM ca h) sz (fun r f1 L1 Q1 => (f1 = f0M ∧ L1 = L0 ∧ Q1 = Q0) ∧ ((r = (-11) ∧ ((0 ≤ x0.toInt ∧ x0.toInt ≤ 5))) ∨ (r = (-1) ∧ (¬ ((0 ≤ x0.toInt ∧ x0.toInt ≤ 5))))))) 0 0 (sgA 26 h sz) := by
  refine sg_ofWi (cc := cX12_refusal) (maxL := 3) RX12 (by decide) rfl rfl (Nat.le_of_ble_eq_true rfl) ?_
  intro p e s m below meth cd Qz ls hx hb hml hown hts hK hZ hP hS hl hret
  have hA := sgY.self (n := 26) (h := h) (sz := s.heap.size)
  have hl : lv_has ls 3 [(0, .ref (h 0)), (1, .int x0), (2, .int x1)] := hl
  obtain ⟨H, hH⟩ : ∃ z : Heap, z = s.heap := ⟨_, rfl⟩
  obtain ⟨locs, hlo⟩ : ∃ z : List Loc, z = [] := ⟨_, rfl⟩
  have hP : va_P D vwCl (sgw 26 h (eM ca h) f0M L0 Q0) H := by rw [hH]; exact hP
  have hS : va_S (sgA 26 h s.heap.size) s.heap H locs := by rw [hH, hlo]; exact hS
  suffices hgo : W p l e ({ frames := 2, cells := 0, slots := 0, locals := 45 }) s m ([.ref (h 0), .int x0, .int x1] : List Value).toArray below meth cd H locs 0 0 Qz (F0 m 0 ls []) by rw [hH, hlo] at hgo; exact hgo
  refine lv_iload_n hx hb dX12_refusal_0 rfl (lv_at hl 1 rfl) ?_
  refine sg_calli (va_runS (As := [.int x0]) (rest := []) ⟨hx, hb, hml, hown, hts⟩ (cf_X12_isShelf l D ca za h hh f0M L0 Q0 x0 H.size) (va_cwS 1 hts (gw_S (fun _ h => List.mem_cons_of_mem _ h) mw_223 mw_224 mw_217 mw_222) rfl rfl rfl (by decide +kernel) ⟨Nat.le_of_ble_eq_true rfl, Nat.le_of_ble_eq_true rfl⟩) (sg_preS hA hK hP hS hZ) rfl rfl hl.1 rfl (lv_room (Nat.le_of_ble_eq_true rfl)) dX12_refusal_1 ⟨Nat.le_refl _, Nat.le_refl _⟩) hA hS (fun r_4 f_1 L_2 Q_3 H locs hq hP hS => ?_)
  obtain ⟨⟨ef9, eL9, eQ9⟩, hq⟩ := hq
  rw [ef9, eL9, eQ9] at hP; clear ef9 eL9 eQ9
  rcases hq with ⟨rfl, hq⟩ | ⟨rfl, hq⟩
  · skip
    have q_5 := hq
    refine lv_if_ne (tgt := 9) hx hb dX12_refusal_4 (by decide) (fun c => ?_) (fun c => absurd c (by decide))
    refine lv_aload_n hx hb dX12_refusal_9 rfl (lv_at hl 0 rfl) ?_
    refine sg_get (ci := 12) (v := .ref (h 22)) (C := RX12) (T := TX12) (N := 55) hx hb hts (fun w h => List.mem_cons_of_mem _ (gx_12 w h)) hown hK hP 0 (by decide) rfl rfl 51 (by decide) (hts _ (List.mem_cons_of_mem _ mw_225)) (fun _ h9 => h9) rfl dX12_refusal_10 ?_
    refine lv_iload_n hx hb dX12_refusal_13 rfl (lv_at hl 1 rfl) ?_
    refine sg_iald hx hb hK hP 22 (by decide) 0 rfl rfl (i := x0) (vp_in_iff.mpr ⟨by omega, by omega⟩) dX12_refusal_14 ?_
    refine lv_topi (fun v_6 ev_6 => ?_)
    have q_7 : v_6.toInt = -1 := by rw [ev_6, f0M_sh (by omega) (by omega)]; decide
    refine lv_if_ge (tgt := 21) hx hb dX12_refusal_15 (by decide) (fun c => ?_) (fun c => ?_)
    · skip
      exfalso; have c_8 : 0 ≤ v_6.toInt := (by have z := bn_le c; have k1 : (0 : Int32).toInt = 0 := (by decide); omega); omega
    · skip
      have c_9 : v_6.toInt < 0 := (by have z := bn_nle c; have k1 : (0 : Int32).toInt = 0 := (by decide); omega)
      refine lv_bipush (v := (-11)) hx hb dX12_refusal_18 (by decide) ?_
      exact hret _ _ _ _ (-11) f0M L0 Q0 dX12_refusal_20 hP hS ⟨⟨rfl, rfl, rfl⟩, Or.inl ⟨rfl, by omega⟩⟩
  · skip
    have q_10 := hq
    refine lv_if_ne (tgt := 9) hx hb dX12_refusal_4 (by decide) (fun c => absurd c (by decide)) (fun c => ?_)
    refine lv_iconst (v := (-1)) hx hb dX12_refusal_7 (by decide) ?_
    exact hret _ _ _ _ (-1) f0M L0 Q0 dX12_refusal_8 hP hS ⟨⟨rfl, rfl, rfl⟩, Or.inr (⟨rfl, by omega⟩)⟩

set_option maxHeartbeats 4000000 in
set_option maxRecDepth 100000 in
theorem cf_X12_put (l : Launch) (D : va_G) (ca : Nat → ClassId) (za h : Nat → Nat) (hh : sgH 26 h) (x0 : Int32) (x1 : Int32) (x2 : Int64) (sz : Nat) : Met l yX12_put gwX12_put { frames := 3, cells := 0, slots := 0, locals := 67 } (sgP D vwCl (tyX ca) 26 h (eM ca h) zcM za f0M L0 Q0 sz [.ref (h 0), .int x0, .int x1, .long x2]) (sgQi D vwCl 26 h (eM ca h) sz (fun r f1 L1 Q1 => True ∧ ((r = (-11) ∧ ((0 ≤ x0.toInt ∧ x0.toInt ≤ 5))) ∨ (r = (-1) ∧ (¬ ((0 ≤ x0.toInt ∧ x0.toInt ≤ 5))))))) 0 0 (sgA 26 h sz) := by
  refine sg_ofWi (cc := cX12_put) (maxL := 6) RX12 (by decide) rfl rfl (Nat.le_of_ble_eq_true rfl) ?_
  intro p e s m below meth cd Qz ls hx hb hml hown hts hK hZ hP hS hl hret
  have hA := sgY.self (n := 26) (h := h) (sz := s.heap.size)
  have hl : lv_has ls 6 [(0, .ref (h 0)), (1, .int x0), (2, .int x1), (3, .long x2)] := hl
  obtain ⟨H, hH⟩ : ∃ z : Heap, z = s.heap := ⟨_, rfl⟩
  obtain ⟨locs, hlo⟩ : ∃ z : List Loc, z = [] := ⟨_, rfl⟩
  have hP : va_P D vwCl (sgw 26 h (eM ca h) f0M L0 Q0) H := by rw [hH]; exact hP
  have hS : va_S (sgA 26 h s.heap.size) s.heap H locs := by rw [hH, hlo]; exact hS
  suffices hgo : W p l e ({ frames := 3, cells := 0, slots := 0, locals := 67 }) s m ([.ref (h 0), .int x0, .int x1, .long x2] : List Value).toArray below meth cd H locs 0 0 Qz (F0 m 0 ls []) by rw [hH, hlo] at hgo; exact hgo
  refine lv_aload_n hx hb dX12_put_0 rfl (lv_at hl 0 rfl) ?_
  refine lv_iload_n hx hb dX12_put_1 rfl (lv_at hl 1 rfl) ?_
  refine lv_iload_n hx hb dX12_put_2 rfl (lv_at hl 2 rfl) ?_
  refine sg_calli (va_runV (As := [.int x0, .int x1]) (rest := []) ⟨hx, hb, hml, hown, hts⟩ (cf_X12_refusal l D ca za h hh x0 x1 H.size) (cwV 2 hts (gw_V (fun _ h => List.mem_cons_of_mem _ h) mw_349 mw_350 mw_351 mw_217 mw_348) rfl rfl rfl (by decide +kernel) ⟨Nat.le_of_ble_eq_true rfl, Nat.le_of_ble_eq_true rfl⟩) (sg_preV (ci := 12) (C := RX12) (T := TX12) (N := 55) hA hK hP hS hZ 0 (by decide) rfl rfl) rfl rfl hl.1 rfl (lv_room (Nat.le_of_ble_eq_true rfl)) dX12_put_3 ⟨Nat.le_refl _, Nat.le_refl _⟩) hA hS (fun r_4 f_1 L_2 Q_3 H locs hq hP hS => ?_)
  obtain ⟨⟨ef9, eL9, eQ9⟩, hq⟩ := hq
  rw [ef9, eL9, eQ9] at hP; clear ef9 eL9 eQ9
  rcases hq with ⟨rfl, hq⟩ | ⟨rfl, hq⟩
  · skip
    have q_5 := hq
    refine lv_istore (lv' := [(5, .int (-11)), (0, .ref (h 0)), (1, .int x0), (2, .int x1), (3, .long x2)]) hx hb dX12_put_6 hl (by decide) rfl (fun ls hl => ?_)
    refine lv_iload hx hb dX12_put_8 (lv_at hl 0 rfl) ?_
    refine lv_if_ne (tgt := 37) hx hb dX12_put_10 (by decide) (fun c => ?_) (fun c => absurd c (by decide))
    refine lv_iload hx hb dX12_put_37 (lv_at hl 0 rfl) ?_
    refine lv_if_ne (tgt := 46) hx hb dX12_put_39 (by decide) (fun c => ?_) (fun c => absurd c (by decide))
    refine lv_iload hx hb dX12_put_46 (lv_at hl 0 rfl) ?_
    exact hret _ _ _ _ (-11) f0M L0 Q0 dX12_put_48 hP hS ⟨trivial, Or.inl ⟨rfl, by omega⟩⟩
  · skip
    have q_6 := hq
    refine lv_istore (lv' := [(5, .int (-1)), (0, .ref (h 0)), (1, .int x0), (2, .int x1), (3, .long x2)]) hx hb dX12_put_6 hl (by decide) rfl (fun ls hl => ?_)
    refine lv_iload hx hb dX12_put_8 (lv_at hl 0 rfl) ?_
    refine lv_if_ne (tgt := 37) hx hb dX12_put_10 (by decide) (fun c => ?_) (fun c => absurd c (by decide))
    refine lv_iload hx hb dX12_put_37 (lv_at hl 0 rfl) ?_
    refine lv_if_ne (tgt := 46) hx hb dX12_put_39 (by decide) (fun c => ?_) (fun c => absurd c (by decide))
    refine lv_iload hx hb dX12_put_46 (lv_at hl 0 rfl) ?_
    exact hret _ _ _ _ (-1) f0M L0 Q0 dX12_put_48 hP hS ⟨trivial, Or.inr (⟨rfl, by omega⟩)⟩

set_option maxHeartbeats 4000000 in
set_option maxRecDepth 100000 in
theorem cf_X12_element (l : Launch) (D : va_G) (ca : Nat → ClassId) (za h : Nat → Nat) (hh : sgH 26 h) (x0 : Int32) (x1 : Int32) (sz : Nat) : Met l yX12_element gwX12_element { frames := 3, cells := 0, slots := 0, locals := 67 } (sgP D vwCl (tyX ca) 26 h (eM ca h) zcM za f0M L0 Q0 sz [.ref (h 0), .int x0, .int x1]) (sgQl D vwCl 26 h (eM ca h) sz (fun r f1 L1 Q1 => True ∧ ((r = (-9223372036854775808) ∧ (True))))) 0 0 (sgA 26 h sz) := by
  refine sg_ofWl (cc := cX12_element) (maxL := 3) RX12 (by decide) rfl rfl (Nat.le_of_ble_eq_true rfl) ?_
  intro p e s m below meth cd Qz ls hx hb hml hown hts hK hZ hP hS hl hret
  have hA := sgY.self (n := 26) (h := h) (sz := s.heap.size)
  have hl : lv_has ls 3 [(0, .ref (h 0)), (1, .int x0), (2, .int x1)] := hl
  obtain ⟨H, hH⟩ : ∃ z : Heap, z = s.heap := ⟨_, rfl⟩
  obtain ⟨locs, hlo⟩ : ∃ z : List Loc, z = [] := ⟨_, rfl⟩
  have hP : va_P D vwCl (sgw 26 h (eM ca h) f0M L0 Q0) H := by rw [hH]; exact hP
  have hS : va_S (sgA 26 h s.heap.size) s.heap H locs := by rw [hH, hlo]; exact hS
  suffices hgo : W p l e ({ frames := 3, cells := 0, slots := 0, locals := 67 }) s m ([.ref (h 0), .int x0, .int x1] : List Value).toArray below meth cd H locs 0 0 Qz (F0 m 0 ls []) by rw [hH, hlo] at hgo; exact hgo
  refine lv_aload_n hx hb dX12_element_0 rfl (lv_at hl 0 rfl) ?_
  refine lv_iload_n hx hb dX12_element_1 rfl (lv_at hl 1 rfl) ?_
  refine lv_iload_n hx hb dX12_element_2 rfl (lv_at hl 2 rfl) ?_
  refine sg_calli (va_runV (As := [.int x0, .int x1]) (rest := []) ⟨hx, hb, hml, hown, hts⟩ (cf_X12_refusal l D ca za h hh x0 x1 H.size) (cwV 2 hts (gw_V (fun _ h => List.mem_cons_of_mem _ h) mw_349 mw_350 mw_351 mw_217 mw_348) rfl rfl rfl (by decide +kernel) ⟨Nat.le_of_ble_eq_true rfl, Nat.le_of_ble_eq_true rfl⟩) (sg_preV (ci := 12) (C := RX12) (T := TX12) (N := 55) hA hK hP hS hZ 0 (by decide) rfl rfl) rfl rfl hl.1 rfl (lv_room (Nat.le_of_ble_eq_true rfl)) dX12_element_3 ⟨Nat.le_refl _, Nat.le_refl _⟩) hA hS (fun r_4 f_1 L_2 Q_3 H locs hq hP hS => ?_)
  obtain ⟨⟨ef9, eL9, eQ9⟩, hq⟩ := hq
  rw [ef9, eL9, eQ9] at hP; clear ef9 eL9 eQ9
  rcases hq with ⟨rfl, hq⟩ | ⟨rfl, hq⟩
  · skip
    have q_5 := hq
    refine lv_if_eq (tgt := 15) hx hb dX12_element_6 (by decide) (fun c => absurd c (by decide)) (fun c => ?_)
    refine lv_ldc2 (v := (-9223372036854775808)) hx hb hown (hts _ (List.mem_cons_of_mem _ mw_352)) dX12_element_9 ?_
    refine lv_goto (tgt := 26) hx hb dX12_element_12 (by decide) ?_
    exact hret _ _ _ _ (-9223372036854775808) f0M L0 Q0 dX12_element_26 hP hS ⟨trivial, ⟨rfl, trivial⟩⟩
  · skip
    have q_6 := hq
    refine lv_if_eq (tgt := 15) hx hb dX12_element_6 (by decide) (fun c => absurd c (by decide)) (fun c => ?_)
    refine lv_ldc2 (v := (-9223372036854775808)) hx hb hown (hts _ (List.mem_cons_of_mem _ mw_352)) dX12_element_9 ?_
    refine lv_goto (tgt := 26) hx hb dX12_element_12 (by decide) ?_
    exact hret _ _ _ _ (-9223372036854775808) f0M L0 Q0 dX12_element_26 hP hS ⟨trivial, ⟨rfl, trivial⟩⟩

set_option maxHeartbeats 4000000 in
set_option maxRecDepth 100000 in
theorem cf_X12_shift (l : Launch) (D : va_G) (ca : Nat → ClassId) (za h : Nat → Nat) (hh : sgH 26 h) (x0 : Int32) (x1 : Int32) (x2 : Int32) (x3 : Int32) (x4 : Int32) (sz : Nat) : Met l yX12_shift gwX12_shift { frames := 2, cells := 0, slots := 0, locals := 45 } (sgP D vwCl (tyX ca) 26 h (eM ca h) zcM za f0M L0 Q0 sz [.ref (h 0), .int x0, .int x1, .int x2, .int x3, .int x4]) (sgQi D vwCl 26 h (eM ca h) sz (fun r f1 L1 Q1 => True ∧ ((r = (-11) ∧ ((0 ≤ x0.toInt ∧ x0.toInt ≤ 5) ∧ (0 ≤ x2.toInt ∧ x2.toInt ≤ 5))) ∨ (r = (-1) ∧ (¬ ((0 ≤ x0.toInt ∧ x0.toInt ≤ 5) ∧ (0 ≤ x2.toInt ∧ x2.toInt ≤ 5))))))) 0 0 (sgA 26 h sz) := by
  refine sg_ofWi (cc := cX12_shift) (maxL := 7) RX12 (by decide) rfl rfl (Nat.le_of_ble_eq_true rfl) ?_
  intro p e s m below meth cd Qz ls hx hb hml hown hts hK hZ hP hS hl hret
  have hA := sgY.self (n := 26) (h := h) (sz := s.heap.size)
  have hl : lv_has ls 7 [(0, .ref (h 0)), (1, .int x0), (2, .int x1), (3, .int x2), (4, .int x3), (5, .int x4)] := hl
  obtain ⟨H, hH⟩ : ∃ z : Heap, z = s.heap := ⟨_, rfl⟩
  obtain ⟨locs, hlo⟩ : ∃ z : List Loc, z = [] := ⟨_, rfl⟩
  have hP : va_P D vwCl (sgw 26 h (eM ca h) f0M L0 Q0) H := by rw [hH]; exact hP
  have hS : va_S (sgA 26 h s.heap.size) s.heap H locs := by rw [hH, hlo]; exact hS
  suffices hgo : W p l e ({ frames := 2, cells := 0, slots := 0, locals := 45 }) s m ([.ref (h 0), .int x0, .int x1, .int x2, .int x3, .int x4] : List Value).toArray below meth cd H locs 0 0 Qz (F0 m 0 ls []) by rw [hH, hlo] at hgo; exact hgo
  refine lv_iload_n hx hb dX12_shift_0 rfl (lv_at hl 1 rfl) ?_
  refine sg_calli (va_runS (As := [.int x0]) (rest := []) ⟨hx, hb, hml, hown, hts⟩ (cf_X12_isShelf l D ca za h hh f0M L0 Q0 x0 H.size) (va_cwS 1 hts (gw_S (fun _ h => List.mem_cons_of_mem _ h) mw_223 mw_224 mw_217 mw_222) rfl rfl rfl (by decide +kernel) ⟨Nat.le_of_ble_eq_true rfl, Nat.le_of_ble_eq_true rfl⟩) (sg_preS hA hK hP hS hZ) rfl rfl hl.1 rfl (lv_room (Nat.le_of_ble_eq_true rfl)) dX12_shift_1 ⟨Nat.le_refl _, Nat.le_refl _⟩) hA hS (fun r_4 f_1 L_2 Q_3 H locs hq hP hS => ?_)
  obtain ⟨⟨ef9, eL9, eQ9⟩, hq⟩ := hq
  rw [ef9, eL9, eQ9] at hP; clear ef9 eL9 eQ9
  rcases hq with ⟨rfl, hq⟩ | ⟨rfl, hq⟩
  · skip
    have q_5 := hq
    refine lv_if_eq (tgt := 14) hx hb dX12_shift_4 (by decide) (fun c => absurd c (by decide)) (fun c => ?_)
    refine lv_iload_n hx hb dX12_shift_7 rfl (lv_at hl 3 rfl) ?_
    refine sg_calli (va_runS (As := [.int x2]) (rest := []) ⟨hx, hb, hml, hown, hts⟩ (cf_X12_isShelf l D ca za h hh f0M L0 Q0 x2 H.size) (va_cwS 1 hts (gw_S (fun _ h => List.mem_cons_of_mem _ h) mw_223 mw_224 mw_217 mw_222) rfl rfl rfl (by decide +kernel) ⟨Nat.le_of_ble_eq_true rfl, Nat.le_of_ble_eq_true rfl⟩) (sg_preS hA hK hP hS hZ) rfl rfl hl.1 rfl (lv_room (Nat.le_of_ble_eq_true rfl)) dX12_shift_8 ⟨Nat.le_refl _, Nat.le_refl _⟩) hA hS (fun r_9 f_6 L_7 Q_8 H locs hq hP hS => ?_)
    obtain ⟨⟨ef9, eL9, eQ9⟩, hq⟩ := hq
    rw [ef9, eL9, eQ9] at hP; clear ef9 eL9 eQ9
    rcases hq with ⟨rfl, hq⟩ | ⟨rfl, hq⟩
    · skip
      have q_10 := hq
      refine lv_if_ne (tgt := 16) hx hb dX12_shift_11 (by decide) (fun c => ?_) (fun c => absurd c (by decide))
      refine lv_aload_n hx hb dX12_shift_16 rfl (lv_at hl 0 rfl) ?_
      refine sg_get (ci := 12) (v := .ref (h 22)) (C := RX12) (T := TX12) (N := 55) hx hb hts (fun w h => List.mem_cons_of_mem _ (gx_12 w h)) hown hK hP 0 (by decide) rfl rfl 51 (by decide) (hts _ (List.mem_cons_of_mem _ mw_225)) (fun _ h9 => h9) rfl dX12_shift_17 ?_
      refine lv_iload_n hx hb dX12_shift_20 rfl (lv_at hl 1 rfl) ?_
      refine sg_iald hx hb hK hP 22 (by decide) 0 rfl rfl (i := x0) (vp_in_iff.mpr ⟨by omega, by omega⟩) dX12_shift_21 ?_
      refine lv_topi (fun v_11 ev_11 => ?_)
      have q_12 : v_11.toInt = -1 := by rw [ev_11, f0M_sh (by omega) (by omega)]; decide
      refine lv_if_lt (tgt := 34) hx hb dX12_shift_22 (by decide) (fun c => ?_) (fun c => ?_)
      · skip
        have c_13 : v_11.toInt < 0 := (by have z := bn_lt c; have k1 : (0 : Int32).toInt = 0 := (by decide); omega)
        refine lv_bipush (v := (-11)) hx hb dX12_shift_34 (by decide) ?_
        exact hret _ _ _ _ (-11) f0M L0 Q0 dX12_shift_36 hP hS ⟨trivial, Or.inl ⟨rfl, by omega⟩⟩
      · skip
        exfalso; have c_14 : 0 ≤ v_11.toInt := (by have z := bn_nlt c; have k1 : (0 : Int32).toInt = 0 := (by decide); omega); omega
    · skip
      have q_15 := hq
      refine lv_if_ne (tgt := 16) hx hb dX12_shift_11 (by decide) (fun c => absurd c (by decide)) (fun c => ?_)
      refine lv_iconst (v := (-1)) hx hb dX12_shift_14 (by decide) ?_
      exact hret _ _ _ _ (-1) f0M L0 Q0 dX12_shift_15 hP hS ⟨trivial, Or.inr (⟨rfl, by omega⟩)⟩
  · skip
    have q_16 := hq
    refine lv_if_eq (tgt := 14) hx hb dX12_shift_4 (by decide) (fun c => ?_) (fun c => absurd c (by decide))
    refine lv_iconst (v := (-1)) hx hb dX12_shift_14 (by decide) ?_
    exact hret _ _ _ _ (-1) f0M L0 Q0 dX12_shift_15 hP hS ⟨trivial, Or.inr (⟨rfl, by omega⟩)⟩

set_option maxHeartbeats 4000000 in
set_option maxRecDepth 100000 in
theorem cf_X12_taken (l : Launch) (D : va_G) (ca : Nat → ClassId) (za h : Nat → Nat) (hh : sgH 26 h) (x0 : Int32) (x1 : Int32) (sz : Nat) : Met l yX12_taken gwX12_taken { frames := 2, cells := 0, slots := 0, locals := 45 } (sgP D vwCl (tyX ca) 26 h (eM ca h) zcM za f0M L0 Q0 sz [.ref (h 0), .int x0, .int x1]) (sgQi D vwCl 26 h (eM ca h) sz (fun r f1 L1 Q1 => True ∧ ((r = (-11) ∧ ((0 ≤ x0.toInt ∧ x0.toInt ≤ 5) ∧ (0 ≤ x1.toInt ∧ x1.toInt ≤ 7))) ∨ (r = (-1) ∧ (¬ ((0 ≤ x0.toInt ∧ x0.toInt ≤ 5) ∧ (0 ≤ x1.toInt ∧ x1.toInt ≤ 7))))))) 0 0 (sgA 26 h sz) := by
  refine sg_ofWi (cc := cX12_taken) (maxL := 4) RX12 (by decide) rfl rfl (Nat.le_of_ble_eq_true rfl) ?_
  intro p e s m below meth cd Qz ls hx hb hml hown hts hK hZ hP hS hl hret
  have hA := sgY.self (n := 26) (h := h) (sz := s.heap.size)
  have hl : lv_has ls 4 [(0, .ref (h 0)), (1, .int x0), (2, .int x1)] := hl
  obtain ⟨H, hH⟩ : ∃ z : Heap, z = s.heap := ⟨_, rfl⟩
  obtain ⟨locs, hlo⟩ : ∃ z : List Loc, z = [] := ⟨_, rfl⟩
  have hP : va_P D vwCl (sgw 26 h (eM ca h) f0M L0 Q0) H := by rw [hH]; exact hP
  have hS : va_S (sgA 26 h s.heap.size) s.heap H locs := by rw [hH, hlo]; exact hS
  suffices hgo : W p l e ({ frames := 2, cells := 0, slots := 0, locals := 45 }) s m ([.ref (h 0), .int x0, .int x1] : List Value).toArray below meth cd H locs 0 0 Qz (F0 m 0 ls []) by rw [hH, hlo] at hgo; exact hgo
  refine lv_iload_n hx hb dX12_taken_0 rfl (lv_at hl 1 rfl) ?_
  refine sg_calli (va_runS (As := [.int x0]) (rest := []) ⟨hx, hb, hml, hown, hts⟩ (cf_X12_isShelf l D ca za h hh f0M L0 Q0 x0 H.size) (va_cwS 1 hts (gw_S (fun _ h => List.mem_cons_of_mem _ h) mw_223 mw_224 mw_217 mw_222) rfl rfl rfl (by decide +kernel) ⟨Nat.le_of_ble_eq_true rfl, Nat.le_of_ble_eq_true rfl⟩) (sg_preS hA hK hP hS hZ) rfl rfl hl.1 rfl (lv_room (Nat.le_of_ble_eq_true rfl)) dX12_taken_1 ⟨Nat.le_refl _, Nat.le_refl _⟩) hA hS (fun r_4 f_1 L_2 Q_3 H locs hq hP hS => ?_)
  obtain ⟨⟨ef9, eL9, eQ9⟩, hq⟩ := hq
  rw [ef9, eL9, eQ9] at hP; clear ef9 eL9 eQ9
  rcases hq with ⟨rfl, hq⟩ | ⟨rfl, hq⟩
  · skip
    have q_5 := hq
    refine lv_if_eq (tgt := 19) hx hb dX12_taken_4 (by decide) (fun c => absurd c (by decide)) (fun c => ?_)
    refine lv_iload_n hx hb dX12_taken_7 rfl (lv_at hl 2 rfl) ?_
    obtain ⟨w_6, ew_6⟩ : ∃ z : Int64, z = x1.toInt64 := ⟨_, rfl⟩
    have q_7 : w_6.toInt = x1.toInt := by rw [ew_6]; exact Int32.toInt_toInt64 _
    refine lv_i2l (v := w_6) hx hb dX12_taken_8 ew_6.symm ?_
    refine lv_lconst (v := 0) hx hb dX12_taken_9 (by decide) ?_
    refine lv_ldc2 (v := 7) hx hb hown (hts _ (List.mem_cons_of_mem _ mw_251)) dX12_taken_10 ?_
    refine sg_calli (va_runS (As := [.long w_6, .long 0, .long 7]) (rest := []) ⟨hx, hb, hml, hown, hts⟩ (cf_X12_within l D ca za h hh f0M L0 Q0 w_6 0 7 H.size) (va_cwS 3 hts (gw_S (fun _ h => List.mem_cons_of_mem _ h) mw_215 mw_216 mw_217 mw_214) rfl rfl rfl (by decide +kernel) ⟨Nat.le_of_ble_eq_true rfl, Nat.le_of_ble_eq_true rfl⟩) (sg_preS hA hK hP hS hZ) rfl rfl hl.1 rfl (lv_room (Nat.le_of_ble_eq_true rfl)) dX12_taken_13 ⟨Nat.le_refl _, Nat.le_refl _⟩) hA hS (fun r_11 f_8 L_9 Q_10 H locs hq hP hS => ?_)
    obtain ⟨⟨ef9, eL9, eQ9⟩, hq⟩ := hq
    rw [ef9, eL9, eQ9] at hP; clear ef9 eL9 eQ9
    have k_12 : (0 : Int64).toInt = 0 := by decide
    have k_13 : (7 : Int64).toInt = 7 := by decide
    rcases hq with ⟨rfl, hq⟩ | ⟨rfl, hq⟩
    · skip
      have q_14 := hq
      refine lv_if_ne (tgt := 21) hx hb dX12_taken_16 (by decide) (fun c => ?_) (fun c => absurd c (by decide))
      refine lv_aload_n hx hb dX12_taken_21 rfl (lv_at hl 0 rfl) ?_
      refine sg_get (ci := 12) (v := .ref (h 22)) (C := RX12) (T := TX12) (N := 55) hx hb hts (fun w h => List.mem_cons_of_mem _ (gx_12 w h)) hown hK hP 0 (by decide) rfl rfl 51 (by decide) (hts _ (List.mem_cons_of_mem _ mw_225)) (fun _ h9 => h9) rfl dX12_taken_22 ?_
      refine lv_iload_n hx hb dX12_taken_25 rfl (lv_at hl 1 rfl) ?_
      refine sg_iald hx hb hK hP 22 (by decide) 0 rfl rfl (i := x0) (vp_in_iff.mpr ⟨by omega, by omega⟩) dX12_taken_26 ?_
      refine lv_topi (fun v_15 ev_15 => ?_)
      have q_16 : v_15.toInt = -1 := by rw [ev_15, f0M_sh (by omega) (by omega)]; decide
      refine lv_if_ge (tgt := 33) hx hb dX12_taken_27 (by decide) (fun c => ?_) (fun c => ?_)
      · skip
        exfalso; have c_17 : 0 ≤ v_15.toInt := (by have z := bn_le c; have k1 : (0 : Int32).toInt = 0 := (by decide); omega); omega
      · skip
        have c_18 : v_15.toInt < 0 := (by have z := bn_nle c; have k1 : (0 : Int32).toInt = 0 := (by decide); omega)
        refine lv_bipush (v := (-11)) hx hb dX12_taken_30 (by decide) ?_
        exact hret _ _ _ _ (-11) f0M L0 Q0 dX12_taken_32 hP hS ⟨trivial, Or.inl ⟨rfl, by omega⟩⟩
    · skip
      have q_19 := hq
      refine lv_if_ne (tgt := 21) hx hb dX12_taken_16 (by decide) (fun c => absurd c (by decide)) (fun c => ?_)
      refine lv_iconst (v := (-1)) hx hb dX12_taken_19 (by decide) ?_
      exact hret _ _ _ _ (-1) f0M L0 Q0 dX12_taken_20 hP hS ⟨trivial, Or.inr (⟨rfl, by omega⟩)⟩
  · skip
    have q_20 := hq
    refine lv_if_eq (tgt := 19) hx hb dX12_taken_4 (by decide) (fun c => ?_) (fun c => absurd c (by decide))
    refine lv_iconst (v := (-1)) hx hb dX12_taken_19 (by decide) ?_
    exact hret _ _ _ _ (-1) f0M L0 Q0 dX12_taken_20 hP hS ⟨trivial, Or.inr (⟨rfl, by omega⟩)⟩

set_option maxHeartbeats 4000000 in
set_option maxRecDepth 100000 in
theorem cf_X12_count (l : Launch) (D : va_G) (ca : Nat → ClassId) (za h : Nat → Nat) (hh : sgH 26 h) (x0 : Int32) (sz : Nat) : Met l yX12_count gwX12_count { frames := 0, cells := 0, slots := 0, locals := 0 } (sgP D vwCl (tyX ca) 26 h (eM ca h) zcM za f0M L0 Q0 sz [.ref (h 0), .int x0]) (sgQi D vwCl 26 h (eM ca h) sz (fun r f1 L1 Q1 => True ∧ ((r = 0 ∧ ((0 ≤ x0.toInt ∧ x0.toInt ≤ 4))) ∨ (r = (-1) ∧ (¬ ((0 ≤ x0.toInt ∧ x0.toInt ≤ 4))))))) 0 0 (sgA 26 h sz) := by
  refine sg_ofWi (cc := cX12_count) (maxL := 2) RX12 (by decide) rfl rfl (Nat.le_of_ble_eq_true rfl) ?_
  intro p e s m below meth cd Qz ls hx hb hml hown hts hK hZ hP hS hl hret
  have hA := sgY.self (n := 26) (h := h) (sz := s.heap.size)
  have hl : lv_has ls 2 [(0, .ref (h 0)), (1, .int x0)] := hl
  obtain ⟨H, hH⟩ : ∃ z : Heap, z = s.heap := ⟨_, rfl⟩
  obtain ⟨locs, hlo⟩ : ∃ z : List Loc, z = [] := ⟨_, rfl⟩
  have hP : va_P D vwCl (sgw 26 h (eM ca h) f0M L0 Q0) H := by rw [hH]; exact hP
  have hS : va_S (sgA 26 h s.heap.size) s.heap H locs := by rw [hH, hlo]; exact hS
  suffices hgo : W p l e ({ frames := 0, cells := 0, slots := 0, locals := 0 }) s m ([.ref (h 0), .int x0] : List Value).toArray below meth cd H locs 0 0 Qz (F0 m 0 ls []) by rw [hH, hlo] at hgo; exact hgo
  refine lv_iload_n hx hb dX12_count_0 rfl (lv_at hl 1 rfl) ?_
  rcases (show (x0.toInt < 0 ∨ 4 < x0.toInt) ∨ x0.toInt = 0 ∨ x0.toInt = 1 ∨ x0.toInt = 2 ∨ x0.toInt = 3 ∨ x0.toInt = 4 from by omega) with c | c | c | c | c | c
  · skip
    refine lv_tableOut (x := x0) (tgt := 61) hx hb dX12_count_1 c (by decide) ?_
    refine lv_iconst (v := (-1)) hx hb dX12_count_61 (by decide) ?_
    exact hret _ _ _ _ (-1) f0M L0 Q0 dX12_count_62 hP hS ⟨trivial, Or.inr (⟨rfl, by omega⟩)⟩
  · skip
    refine lv_tableIn (x := x0) (tgt := 36) hx hb dX12_count_1 (by omega) (by omega) (by rw [c]; rfl) (by decide) ?_
    refine lv_aload_n hx hb dX12_count_36 rfl (lv_at hl 0 rfl) ?_
    refine sg_get (ci := 12) (v := .int 0) (C := RX12) (T := TX12) (N := 55) hx hb hts (fun w h => List.mem_cons_of_mem _ (gx_12 w h)) hown hK hP 0 (by decide) rfl rfl 6 (by decide) (hts _ (List.mem_cons_of_mem _ mw_220)) (fun _ h9 => h9) rfl dX12_count_37 ?_
    exact hret _ _ _ _ (0) f0M L0 Q0 dX12_count_40 hP hS ⟨trivial, Or.inl ⟨rfl, by omega⟩⟩
  · skip
    refine lv_tableIn (x := x0) (tgt := 41) hx hb dX12_count_1 (by omega) (by omega) (by rw [c]; rfl) (by decide) ?_
    refine lv_aload_n hx hb dX12_count_41 rfl (lv_at hl 0 rfl) ?_
    refine sg_get (ci := 12) (v := .int 0) (C := RX12) (T := TX12) (N := 55) hx hb hts (fun w h => List.mem_cons_of_mem _ (gx_12 w h)) hown hK hP 0 (by decide) rfl rfl 9 (by decide) (hts _ (List.mem_cons_of_mem _ mw_271)) (fun _ h9 => h9) rfl dX12_count_42 ?_
    exact hret _ _ _ _ (0) f0M L0 Q0 dX12_count_45 hP hS ⟨trivial, Or.inl ⟨rfl, by omega⟩⟩
  · skip
    refine lv_tableIn (x := x0) (tgt := 46) hx hb dX12_count_1 (by omega) (by omega) (by rw [c]; rfl) (by decide) ?_
    refine lv_aload_n hx hb dX12_count_46 rfl (lv_at hl 0 rfl) ?_
    refine sg_get (ci := 12) (v := .int 0) (C := RX12) (T := TX12) (N := 55) hx hb hts (fun w h => List.mem_cons_of_mem _ (gx_12 w h)) hown hK hP 0 (by decide) rfl rfl 5 (by decide) (hts _ (List.mem_cons_of_mem _ mw_253)) (fun _ h9 => h9) rfl dX12_count_47 ?_
    exact hret _ _ _ _ (0) f0M L0 Q0 dX12_count_50 hP hS ⟨trivial, Or.inl ⟨rfl, by omega⟩⟩
  · skip
    refine lv_tableIn (x := x0) (tgt := 51) hx hb dX12_count_1 (by omega) (by omega) (by rw [c]; rfl) (by decide) ?_
    refine lv_aload_n hx hb dX12_count_51 rfl (lv_at hl 0 rfl) ?_
    refine sg_get (ci := 12) (v := .int 0) (C := RX12) (T := TX12) (N := 55) hx hb hts (fun w h => List.mem_cons_of_mem _ (gx_12 w h)) hown hK hP 0 (by decide) rfl rfl 45 (by decide) (hts _ (List.mem_cons_of_mem _ mw_221)) (fun _ h9 => h9) rfl dX12_count_52 ?_
    exact hret _ _ _ _ (0) f0M L0 Q0 dX12_count_55 hP hS ⟨trivial, Or.inl ⟨rfl, by omega⟩⟩
  · skip
    refine lv_tableIn (x := x0) (tgt := 56) hx hb dX12_count_1 (by omega) (by omega) (by rw [c]; rfl) (by decide) ?_
    refine lv_aload_n hx hb dX12_count_56 rfl (lv_at hl 0 rfl) ?_
    refine sg_get (ci := 12) (v := .int 0) (C := RX12) (T := TX12) (N := 55) hx hb hts (fun w h => List.mem_cons_of_mem _ (gx_12 w h)) hown hK hP 0 (by decide) rfl rfl 48 (by decide) (hts _ (List.mem_cons_of_mem _ mw_340)) (fun _ h9 => h9) rfl dX12_count_57 ?_
    exact hret _ _ _ _ (0) f0M L0 Q0 dX12_count_60 hP hS ⟨trivial, Or.inl ⟨rfl, by omega⟩⟩
