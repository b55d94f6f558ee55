/-! contracts of any state. Laid by a program (wip/tool) -/
abbrev WkX12_setsAs_3_f4_f3 : List (Nat × Nat × Option Nat) := [(0, 0, some 48), (21, 21, none)]
set_option maxHeartbeats 4000000 in
set_option maxRecDepth 100000 in
theorem kX12_setsAs_3_f4_f3 (l : Launch) (D : va_G) (ca : Nat → ClassId) (za h : Nat → Nat) (hh : sgH 26 h) (f : sg_F) (L : sg_L) (Q : sg_Q) (hI : sgI loM hiM f) (x1 : Int32) (hf_0_48 : f 0 48 = 4) (hf_0_49 : f 0 49 = 3) (p0 : 4 ≤ (f 0 48).toInt ∧ (f 0 48).toInt ≤ 4) (sz : Nat) : Met l yX12_setsAs gwX12_setsAs { frames := 1, cells := 0, slots := 0, locals := 21 } (sgP D vwCl (tyX ca) 26 h (eM ca h) zcM za f L Q sz [.ref (h 0), .int 3, .int x1]) (sgQi D vwCl 26 h (eM ca h) sz (fun r f1 L1 Q1 => ((sgI loM hiM f1 ∧ sgK WkX12_setsAs_3_f4_f3 f f1 ∧ L1 = L ∧ Q1 = Q) ∧ True ∧ (5 ≤ (f1 0 48).toInt ∧ (f1 0 48).toInt ≤ 5)))) 0 0 (sgA 26 h sz) := by
  refine sg_ofWi (cc := cX12_setsAs) (maxL := 3) RX12 (by decide) rfl rfl (Nat.le_of_ble_eq_true rfl) ?_
  intro p e s m below meth cd Qz ls hx hb hml hown hts hK hZ hP hS hl hret
  have hA := sgY.self (n := 26) (h := h) (sz := s.heap.size)
  have hl : lv_has ls 3 [(0, .ref (h 0)), (1, .int 3), (2, .int x1)] := hl
  obtain ⟨H, hH⟩ : ∃ z : Heap, z = s.heap := ⟨_, rfl⟩
  obtain ⟨locs, hlo⟩ : ∃ z : List Loc, z = [] := ⟨_, rfl⟩
  have hP : va_P D vwCl (sgw 26 h (eM ca h) f L Q) H := by rw [hH]; exact hP
  have hS : va_S (sgA 26 h s.heap.size) s.heap H locs := by rw [hH, hlo]; exact hS
  suffices hgo : W p l e ({ frames := 1, cells := 0, slots := 0, locals := 21 }) s m ([.ref (h 0), .int 3, .int x1] : List Value).toArray below meth cd H locs 0 0 Qz (F0 m 0 ls []) by rw [hH, hlo] at hgo; exact hgo
  clear hH hlo
  have o_1 : (f 0 48).toInt = 4 := (congrArg Int32.toInt (show f 0 48 = 4 from hf_0_48)).trans (by decide)
  have hF : sgK WkX12_setsAs_3_f4_f3 f f := sgK.rf
  refine lv_iload_n hx hb dX12_setsAs_0 rfl (lv_at hl 1 rfl) ?_
  refine lv_iconst (v := 1) hx hb dX12_setsAs_1 (by decide) ?_
  refine lv_icmp_eq (tgt := 16) hx hb dX12_setsAs_2 (by decide) (fun c => absurd c (by decide)) (fun c => ?_)
  refine lv_iload_n hx hb dX12_setsAs_5 rfl (lv_at hl 1 rfl) ?_
  refine lv_iconst (v := 4) hx hb dX12_setsAs_6 (by decide) ?_
  refine lv_icmp_eq (tgt := 16) hx hb dX12_setsAs_7 (by decide) (fun c => absurd c (by decide)) (fun c => ?_)
  refine lv_iload_n hx hb dX12_setsAs_10 rfl (lv_at hl 1 rfl) ?_
  refine lv_bipush (v := 7) hx hb dX12_setsAs_11 (by decide) ?_
  refine lv_icmp_ne (tgt := 31) hx hb dX12_setsAs_13 (by decide) (fun c => ?_) (fun c => absurd c (by decide))
  refine lv_iload_n hx hb dX12_setsAs_31 rfl (lv_at hl 1 rfl) ?_
  refine lv_bipush (v := 6) hx hb dX12_setsAs_32 (by decide) ?_
  refine lv_icmp_ne (tgt := 52) hx hb dX12_setsAs_34 (by decide) (fun c => ?_) (fun c => absurd c (by decide))
  refine lv_aload_n hx hb dX12_setsAs_52 rfl (lv_at hl 0 rfl) ?_
  refine lv_iconst (v := 1) hx hb dX12_setsAs_53 (by decide) ?_
  have q_2 : (f 0 48).toInt = 4 := (congrArg Int32.toInt (show f 0 48 = 4 from hf_0_48)).trans (by decide)
  have q_3 : (f 0 48).toInt = 4 := (congrArg Int32.toInt (show f 0 48 = 4 from hf_0_48)).trans (by decide)
  refine sg_callv (va_runV (As := [.int 1]) (rest := []) ⟨hx, hb, hml, hown, hts⟩ (kX12_begins_1_f4 l D ca za h hh f L Q hI hf_0_48 (by have k0 : (1 : Int32).toInt = 1 := (by decide); omega) H.size) (cwV 1 hts (gw_V (fun _ h => List.mem_cons_of_mem _ h) mw_734 mw_735 mw_736 mw_619 mw_733) rfl rfl rfl (by decide +kernel) ⟨Nat.le_of_ble_eq_true rfl, Nat.le_of_ble_eq_true rfl⟩) (sg_preV (ci := 12) (C := RX12) (T := TX12) (N := 55) hA hK hP hS hZ 0 (by decide) rfl rfl) rfl rfl hl.1 rfl (lv_room (Nat.le_of_ble_eq_true rfl)) dX12_setsAs_54 ⟨Nat.le_refl _, Nat.le_refl _⟩) hA hS (fun f_4 L_5 Q_6 H locs hq hP hS => ?_)
  obtain ⟨⟨hI, hk_f_4, eL9, eQ9⟩, p_7⟩ := hq
  rw [eL9, eQ9] at hP; clear eL9 eQ9
  have hF : sgK WkX12_setsAs_3_f4_f3 f f_4 := sgK.tr hF hk_f_4 (by decide)
  obtain ⟨v_8, ev_8⟩ : ∃ z : Int32, z = f_4 0 48 := ⟨_, rfl⟩
  have q_9 : 0 ≤ v_8.toInt ∧ v_8.toInt ≤ 19 := by rw [ev_8]; exact hI 0 48
  have q_10 : (f_4 0 48).toInt = v_8.toInt := (congrArg Int32.toInt (show f_4 0 48 = v_8 from ev_8.symm))
  have q_11 : (f_4 0 48).toInt = v_8.toInt := (congrArg Int32.toInt (show f_4 0 48 = v_8 from ev_8.symm))
  refine lv_iload_n hx hb dX12_setsAs_57 rfl (lv_at hl 2 rfl) ?_
  refine lv_aload_n hx hb dX12_setsAs_58 rfl (lv_at hl 0 rfl) ?_
  refine sg_get (ci := 12) (v := .int (f_4 0 50)) (C := RX12) (T := TX12) (N := 55) hx hb hts (fun w h => List.mem_cons_of_mem _ (gx_12 w h)) hown hK hP 0 (by decide) rfl rfl 50 (by decide) (hts _ (List.mem_cons_of_mem _ mw_680)) (fun _ h9 => h9) rfl dX12_setsAs_59 ?_
  refine lv_topi (fun v_12 ev_12 => ?_)
  have q_13 : 0 ≤ v_12.toInt ∧ v_12.toInt ≤ 49 := by rw [ev_12]; exact hI 0 50
  refine lv_iadd hx hb dX12_setsAs_62 ?_
  refine lv_topi (fun v_14 ev_14 => ?_)
  have q_15 : (f_4 0 48).toInt = v_8.toInt := (congrArg Int32.toInt (show f_4 0 48 = v_8 from ev_8.symm))
  have q_16 : (f_4 0 48).toInt = v_8.toInt := (congrArg Int32.toInt (show f_4 0 48 = v_8 from ev_8.symm))
  exact hret _ _ _ _ (v_14) f_4 L Q dX12_setsAs_63 hP hS ⟨⟨hI, hF, rfl, rfl⟩, trivial, (by omega)⟩

abbrev WkX12_sitsAs_0_f3_f3 : List (Nat × Nat × Option Nat) := [(0, 0, some 48), (21, 21, none)]
set_option maxHeartbeats 4000000 in
set_option maxRecDepth 100000 in
theorem kX12_sitsAs_0_f3_f3 (l : Launch) (D : va_G) (ca : Nat → ClassId) (za h : Nat → Nat) (hh : sgH 26 h) (f : sg_F) (L : sg_L) (Q : sg_Q) (hI : sgI loM hiM f) (x1 : Int32) (hf_0_48 : f 0 48 = 3) (hf_0_49 : f 0 49 = 3) (p0 : 3 ≤ (f 0 48).toInt ∧ (f 0 48).toInt ≤ 3) (sz : Nat) : Met l yX12_sitsAs gwX12_sitsAs { frames := 2, cells := 0, slots := 0, locals := 43 } (sgP D vwCl (tyX ca) 26 h (eM ca h) zcM za f L Q sz [.ref (h 0), .int 0, .int x1]) (sgQi D vwCl 26 h (eM ca h) sz (fun r f1 L1 Q1 => ((sgI loM hiM f1 ∧ sgK WkX12_sitsAs_0_f3_f3 f f1 ∧ L1 = L ∧ Q1 = Q) ∧ True ∧ (5 ≤ (f1 0 48).toInt ∧ (f1 0 48).toInt ≤ 5)))) 0 0 (sgA 26 h sz) := by
  refine sg_ofWi (cc := cX12_sitsAs) (maxL := 4) RX12 (by decide) rfl rfl (Nat.le_of_ble_eq_true rfl) ?_
  intro p e s m below meth cd Qz ls hx hb hml hown hts hK hZ hP hS hl hret
  have hA := sgY.self (n := 26) (h := h) (sz := s.heap.size)
  have hl : lv_has ls 4 [(0, .ref (h 0)), (1, .int 0), (2, .int x1)] := hl
  obtain ⟨H, hH⟩ : ∃ z : Heap, z = s.heap := ⟨_, rfl⟩
  obtain ⟨locs, hlo⟩ : ∃ z : List Loc, z = [] := ⟨_, rfl⟩
  have hP : va_P D vwCl (sgw 26 h (eM ca h) f L Q) H := by rw [hH]; exact hP
  have hS : va_S (sgA 26 h s.heap.size) s.heap H locs := by rw [hH, hlo]; exact hS
  suffices hgo : W p l e ({ frames := 2, cells := 0, slots := 0, locals := 43 }) s m ([.ref (h 0), .int 0, .int x1] : List Value).toArray below meth cd H locs 0 0 Qz (F0 m 0 ls []) by rw [hH, hlo] at hgo; exact hgo
  clear hH hlo
  have o_1 : (f 0 48).toInt = 3 := (congrArg Int32.toInt (show f 0 48 = 3 from hf_0_48)).trans (by decide)
  have hF : sgK WkX12_sitsAs_0_f3_f3 f f := sgK.rf
  refine lv_iload_n hx hb dX12_sitsAs_0 rfl (lv_at hl 1 rfl) ?_
  refine lv_iconst (v := 3) hx hb dX12_sitsAs_1 (by decide) ?_
  refine lv_icmp_eq (tgt := 10) hx hb dX12_sitsAs_2 (by decide) (fun c => absurd c (by decide)) (fun c => ?_)
  refine lv_iload_n hx hb dX12_sitsAs_5 rfl (lv_at hl 1 rfl) ?_
  refine lv_iconst (v := 5) hx hb dX12_sitsAs_6 (by decide) ?_
  refine lv_icmp_ne (tgt := 25) hx hb dX12_sitsAs_7 (by decide) (fun c => ?_) (fun c => absurd c (by decide))
  refine lv_iload_n hx hb dX12_sitsAs_25 rfl (lv_at hl 1 rfl) ?_
  refine lv_iconst (v := 2) hx hb dX12_sitsAs_26 (by decide) ?_
  refine lv_icmp_ne (tgt := 44) hx hb dX12_sitsAs_27 (by decide) (fun c => ?_) (fun c => absurd c (by decide))
  refine lv_iload_n hx hb dX12_sitsAs_44 rfl (lv_at hl 1 rfl) ?_
  refine lv_bipush (v := 7) hx hb dX12_sitsAs_45 (by decide) ?_
  refine lv_icmp_ne (tgt := 75) hx hb dX12_sitsAs_47 (by decide) (fun c => ?_) (fun c => absurd c (by decide))
  refine lv_aload_n hx hb dX12_sitsAs_75 rfl (lv_at hl 0 rfl) ?_
  refine lv_bipush (v := 10) hx hb dX12_sitsAs_76 (by decide) ?_
  have q_2 : (f 0 48).toInt = 3 := (congrArg Int32.toInt (show f 0 48 = 3 from hf_0_48)).trans (by decide)
  have q_3 : (f 0 48).toInt = 3 := (congrArg Int32.toInt (show f 0 48 = 3 from hf_0_48)).trans (by decide)
  refine sg_callv (va_runV (As := [.int 10]) (rest := []) ⟨hx, hb, hml, hown, hts⟩ (kX12_begins_10_f3 l D ca za h hh f L Q hI hf_0_48 (by have k0 : (10 : Int32).toInt = 10 := (by decide); omega) H.size) (cwV 1 hts (gw_V (fun _ h => List.mem_cons_of_mem _ h) mw_734 mw_735 mw_736 mw_619 mw_733) rfl rfl rfl (by decide +kernel) ⟨Nat.le_of_ble_eq_true rfl, Nat.le_of_ble_eq_true rfl⟩) (sg_preV (ci := 12) (C := RX12) (T := TX12) (N := 55) hA hK hP hS hZ 0 (by decide) rfl rfl) rfl rfl hl.1 rfl (lv_room (Nat.le_of_ble_eq_true rfl)) dX12_sitsAs_78 ⟨Nat.le_refl _, Nat.le_refl _⟩) hA hS (fun f_4 L_5 Q_6 H locs hq hP hS => ?_)
  obtain ⟨⟨hI, hk_f_4, eL9, eQ9⟩, p_7⟩ := hq
  rw [eL9, eQ9] at hP; clear eL9 eQ9
  have hF : sgK WkX12_sitsAs_0_f3_f3 f f_4 := sgK.tr hF hk_f_4 (by decide)
  obtain ⟨v_8, ev_8⟩ : ∃ z : Int32, z = f_4 0 48 := ⟨_, rfl⟩
  have q_9 : 0 ≤ v_8.toInt ∧ v_8.toInt ≤ 19 := by rw [ev_8]; exact hI 0 48
  have q_10 : (f_4 0 48).toInt = v_8.toInt := (congrArg Int32.toInt (show f_4 0 48 = v_8 from ev_8.symm))
  have q_11 : (f_4 0 48).toInt = v_8.toInt := (congrArg Int32.toInt (show f_4 0 48 = v_8 from ev_8.symm))
  refine lv_aload_n hx hb dX12_sitsAs_81 rfl (lv_at hl 0 rfl) ?_
  refine lv_aload_n hx hb dX12_sitsAs_82 rfl (lv_at hl 0 rfl) ?_
  refine sg_get (ci := 12) (v := .int 3) (C := RX12) (T := TX12) (N := 55) hx hb hts (fun w h => List.mem_cons_of_mem _ (gx_12 w h)) hown hK hP 0 (by decide) rfl rfl 49 (by decide) (hts _ (List.mem_cons_of_mem _ mw_679)) (fun _ h9 => h9) (congrArg (fun z => some (Value.int z)) (show f_4 0 49 = 3 from ((hk_f_4 0 49 (by decide)).trans hf_0_49))) dX12_sitsAs_83 ?_
  refine lv_iload_n hx hb dX12_sitsAs_86 rfl (lv_at hl 2 rfl) ?_
  have c_12 : v_8 = 4 := Int32.toInt_inj.mp (by have k9 : (4 : Int32).toInt = 4 := (by decide); omega)
  have q_13 : (f_4 0 48).toInt = 4 := (congrArg Int32.toInt (show f_4 0 48 = 4 from (Eq.trans ev_8.symm c_12))).trans (by decide)
  have q_14 : (f_4 0 48).toInt = 4 := (congrArg Int32.toInt (show f_4 0 48 = 4 from (Eq.trans ev_8.symm c_12))).trans (by decide)
  refine sg_calli (va_runV (As := [.int 3, .int x1]) (rest := []) ⟨hx, hb, hml, hown, hts⟩ (kX12_setsAs_3_f4_f3 l D ca za h hh f_4 L Q hI x1 (Eq.trans ev_8.symm c_12) ((hk_f_4 0 49 (by decide)).trans hf_0_49) (by have k0 : (3 : Int32).toInt = 3 := (by decide); omega) H.size) (cwV 2 hts (gw_V (fun _ h => List.mem_cons_of_mem _ h) mw_744 mw_745 mw_746 mw_619 mw_743) rfl rfl rfl (by decide +kernel) ⟨Nat.le_of_ble_eq_true rfl, Nat.le_of_ble_eq_true rfl⟩) (sg_preV (ci := 12) (C := RX12) (T := TX12) (N := 55) hA hK hP hS hZ 0 (by decide) rfl rfl) rfl rfl hl.1 rfl (lv_room (Nat.le_of_ble_eq_true rfl)) dX12_sitsAs_87 ⟨Nat.le_refl _, Nat.le_refl _⟩) hA hS (fun r_18 f_15 L_16 Q_17 H locs hq hP hS => ?_)
  obtain ⟨⟨hI, hk_f_15, eL9, eQ9⟩, hq, p_19⟩ := hq
  rw [eL9, eQ9] at hP; clear eL9 eQ9
  have hF : sgK WkX12_sitsAs_0_f3_f3 f f_15 := sgK.tr hF hk_f_15 (by decide)
  obtain ⟨v_20, ev_20⟩ : ∃ z : Int32, z = f_15 0 48 := ⟨_, rfl⟩
  have q_21 : 0 ≤ v_20.toInt ∧ v_20.toInt ≤ 19 := by rw [ev_20]; exact hI 0 48
  have q_22 : (f_15 0 48).toInt = v_20.toInt := (congrArg Int32.toInt (show f_15 0 48 = v_20 from ev_20.symm))
  have q_23 : (f_15 0 48).toInt = v_20.toInt := (congrArg Int32.toInt (show f_15 0 48 = v_20 from ev_20.symm))
  have k_24 : (3 : Int32).toInt = 3 := by decide
  refine lv_iconst (v := 2) hx hb dX12_sitsAs_90 (by decide) ?_
  refine lv_imul hx hb dX12_sitsAs_91 ?_
  refine lv_topi (fun v_25 ev_25 => ?_)
  have q_26 : (f_15 0 48).toInt = v_20.toInt := (congrArg Int32.toInt (show f_15 0 48 = v_20 from ev_20.symm))
  have q_27 : (f_15 0 48).toInt = v_20.toInt := (congrArg Int32.toInt (show f_15 0 48 = v_20 from ev_20.symm))
  exact hret _ _ _ _ (v_25) f_15 L Q dX12_sitsAs_92 hP hS ⟨⟨hI, hF, rfl, rfl⟩, trivial, (by omega)⟩

abbrev WkX12_sitsAs_2_f2_f3 : List (Nat × Nat × Option Nat) := [(0, 0, some 48), (21, 21, none)]
set_option maxHeartbeats 4000000 in
set_option maxRecDepth 100000 in
theorem kX12_sitsAs_2_f2_f3 (l : Launch) (D : va_G) (ca : Nat → ClassId) (za h : Nat → Nat) (hh : sgH 26 h) (f : sg_F) (L : sg_L) (Q : sg_Q) (hI : sgI loM hiM f) (x1 : Int32) (hf_0_48 : f 0 48 = 2) (hf_0_49 : f 0 49 = 3) (p0 : 2 ≤ (f 0 48).toInt ∧ (f 0 48).toInt ≤ 2) (sz : Nat) : Met l yX12_sitsAs gwX12_sitsAs { frames := 3, cells := 0, slots := 0, locals := 66 } (sgP D vwCl (tyX ca) 26 h (eM ca h) zcM za f L Q sz [.ref (h 0), .int 2, .int x1]) (sgQi D vwCl 26 h (eM ca h) sz (fun r f1 L1 Q1 => ((sgI loM hiM f1 ∧ sgK WkX12_sitsAs_2_f2_f3 f f1 ∧ L1 = L ∧ Q1 = Q) ∧ True ∧ (5 ≤ (f1 0 48).toInt ∧ (f1 0 48).toInt ≤ 5)))) 0 0 (sgA 26 h sz) := by
  refine sg_ofWi (cc := cX12_sitsAs) (maxL := 4) RX12 (by decide) rfl rfl (Nat.le_of_ble_eq_true rfl) ?_
  intro p e s m below meth cd Qz ls hx hb hml hown hts hK hZ hP hS hl hret
  have hA := sgY.self (n := 26) (h := h) (sz := s.heap.size)
  have hl : lv_has ls 4 [(0, .ref (h 0)), (1, .int 2), (2, .int x1)] := hl
  obtain ⟨H, hH⟩ : ∃ z : Heap, z = s.heap := ⟨_, rfl⟩
  obtain ⟨locs, hlo⟩ : ∃ z : List Loc, z = [] := ⟨_, rfl⟩
  have hP : va_P D vwCl (sgw 26 h (eM ca h) f L Q) H := by rw [hH]; exact hP
  have hS : va_S (sgA 26 h s.heap.size) s.heap H locs := by rw [hH, hlo]; exact hS
  suffices hgo : W p l e ({ frames := 3, cells := 0, slots := 0, locals := 66 }) s m ([.ref (h 0), .int 2, .int x1] : List Value).toArray below meth cd H locs 0 0 Qz (F0 m 0 ls []) by rw [hH, hlo] at hgo; exact hgo
  clear hH hlo
  have o_1 : (f 0 48).toInt = 2 := (congrArg Int32.toInt (show f 0 48 = 2 from hf_0_48)).trans (by decide)
  have hF : sgK WkX12_sitsAs_2_f2_f3 f f := sgK.rf
  refine lv_iload_n hx hb dX12_sitsAs_0 rfl (lv_at hl 1 rfl) ?_
  refine lv_iconst (v := 3) hx hb dX12_sitsAs_1 (by decide) ?_
  refine lv_icmp_eq (tgt := 10) hx hb dX12_sitsAs_2 (by decide) (fun c => absurd c (by decide)) (fun c => ?_)
  refine lv_iload_n hx hb dX12_sitsAs_5 rfl (lv_at hl 1 rfl) ?_
  refine lv_iconst (v := 5) hx hb dX12_sitsAs_6 (by decide) ?_
  refine lv_icmp_ne (tgt := 25) hx hb dX12_sitsAs_7 (by decide) (fun c => ?_) (fun c => absurd c (by decide))
  refine lv_iload_n hx hb dX12_sitsAs_25 rfl (lv_at hl 1 rfl) ?_
  refine lv_iconst (v := 2) hx hb dX12_sitsAs_26 (by decide) ?_
  refine lv_icmp_ne (tgt := 44) hx hb dX12_sitsAs_27 (by decide) (fun c => absurd c (by decide)) (fun c => ?_)
  refine lv_aload_n hx hb dX12_sitsAs_30 rfl (lv_at hl 0 rfl) ?_
  refine lv_bipush (v := 30) hx hb dX12_sitsAs_31 (by decide) ?_
  have q_2 : (f 0 48).toInt = 2 := (congrArg Int32.toInt (show f 0 48 = 2 from hf_0_48)).trans (by decide)
  have q_3 : (f 0 48).toInt = 2 := (congrArg Int32.toInt (show f 0 48 = 2 from hf_0_48)).trans (by decide)
  refine sg_callv (va_runV (As := [.int 30]) (rest := []) ⟨hx, hb, hml, hown, hts⟩ (kX12_begins_30_f2 l D ca za h hh f L Q hI hf_0_48 (by have k0 : (30 : Int32).toInt = 30 := (by decide); omega) H.size) (cwV 1 hts (gw_V (fun _ h => List.mem_cons_of_mem _ h) mw_734 mw_735 mw_736 mw_619 mw_733) rfl rfl rfl (by decide +kernel) ⟨Nat.le_of_ble_eq_true rfl, Nat.le_of_ble_eq_true rfl⟩) (sg_preV (ci := 12) (C := RX12) (T := TX12) (N := 55) hA hK hP hS hZ 0 (by decide) rfl rfl) rfl rfl hl.1 rfl (lv_room (Nat.le_of_ble_eq_true rfl)) dX12_sitsAs_33 ⟨Nat.le_refl _, Nat.le_refl _⟩) hA hS (fun f_4 L_5 Q_6 H locs hq hP hS => ?_)
  obtain ⟨⟨hI, hk_f_4, eL9, eQ9⟩, p_7⟩ := hq
  rw [eL9, eQ9] at hP; clear eL9 eQ9
  have hF : sgK WkX12_sitsAs_2_f2_f3 f f_4 := sgK.tr hF hk_f_4 (by decide)
  obtain ⟨v_8, ev_8⟩ : ∃ z : Int32, z = f_4 0 48 := ⟨_, rfl⟩
  have q_9 : 0 ≤ v_8.toInt ∧ v_8.toInt ≤ 19 := by rw [ev_8]; exact hI 0 48
  have q_10 : (f_4 0 48).toInt = v_8.toInt := (congrArg Int32.toInt (show f_4 0 48 = v_8 from ev_8.symm))
  have q_11 : (f_4 0 48).toInt = v_8.toInt := (congrArg Int32.toInt (show f_4 0 48 = v_8 from ev_8.symm))
  refine lv_aload_n hx hb dX12_sitsAs_36 rfl (lv_at hl 0 rfl) ?_
  refine lv_iconst (v := 0) hx hb dX12_sitsAs_37 (by decide) ?_
  refine lv_iload_n hx hb dX12_sitsAs_38 rfl (lv_at hl 2 rfl) ?_
  have c_12 : v_8 = 3 := Int32.toInt_inj.mp (by have k9 : (3 : Int32).toInt = 3 := (by decide); omega)
  have q_13 : (f_4 0 48).toInt = 3 := (congrArg Int32.toInt (show f_4 0 48 = 3 from (Eq.trans ev_8.symm c_12))).trans (by decide)
  have q_14 : (f_4 0 48).toInt = 3 := (congrArg Int32.toInt (show f_4 0 48 = 3 from (Eq.trans ev_8.symm c_12))).trans (by decide)
  refine sg_calli (va_runV (As := [.int 0, .int x1]) (rest := []) ⟨hx, hb, hml, hown, hts⟩ (kX12_sitsAs_0_f3_f3 l D ca za h hh f_4 L Q hI x1 (Eq.trans ev_8.symm c_12) ((hk_f_4 0 49 (by decide)).trans hf_0_49) (by have k0 : (0 : Int32).toInt = 0 := (by decide); omega) H.size) (cwV 2 hts (gw_V (fun _ h => List.mem_cons_of_mem _ h) mw_801 mw_802 mw_803 mw_619 mw_800) rfl rfl rfl (by decide +kernel) ⟨Nat.le_of_ble_eq_true rfl, Nat.le_of_ble_eq_true rfl⟩) (sg_preV (ci := 12) (C := RX12) (T := TX12) (N := 55) hA hK hP hS hZ 0 (by decide) rfl rfl) rfl rfl hl.1 rfl (lv_room (Nat.le_of_ble_eq_true rfl)) dX12_sitsAs_39 ⟨Nat.le_refl _, Nat.le_refl _⟩) hA hS (fun r_18 f_15 L_16 Q_17 H locs hq hP hS => ?_)
  obtain ⟨⟨hI, hk_f_15, eL9, eQ9⟩, hq, p_19⟩ := hq
  rw [eL9, eQ9] at hP; clear eL9 eQ9
  have hF : sgK WkX12_sitsAs_2_f2_f3 f f_15 := sgK.tr hF hk_f_15 (by decide)
  obtain ⟨v_20, ev_20⟩ : ∃ z : Int32, z = f_15 0 48 := ⟨_, rfl⟩
  have q_21 : 0 ≤ v_20.toInt ∧ v_20.toInt ≤ 19 := by rw [ev_20]; exact hI 0 48
  have q_22 : (f_15 0 48).toInt = v_20.toInt := (congrArg Int32.toInt (show f_15 0 48 = v_20 from ev_20.symm))
  have q_23 : (f_15 0 48).toInt = v_20.toInt := (congrArg Int32.toInt (show f_15 0 48 = v_20 from ev_20.symm))
  have k_24 : (0 : Int32).toInt = 0 := by decide
  refine lv_ineg hx hb dX12_sitsAs_42 ?_
  refine lv_topi (fun v_25 ev_25 => ?_)
  have q_26 : (f_15 0 48).toInt = v_20.toInt := (congrArg Int32.toInt (show f_15 0 48 = v_20 from ev_20.symm))
  have q_27 : (f_15 0 48).toInt = v_20.toInt := (congrArg Int32.toInt (show f_15 0 48 = v_20 from ev_20.symm))
  exact hret _ _ _ _ (v_25) f_15 L Q dX12_sitsAs_43 hP hS ⟨⟨hI, hF, rfl, rfl⟩, trivial, (by omega)⟩

abbrev WkX12_sitsAs_3_f1_f3 : List (Nat × Nat × Option Nat) := [(0, 0, some 48), (21, 21, none)]
set_option maxHeartbeats 4000000 in
set_option maxRecDepth 100000 in
theorem kX12_sitsAs_3_f1_f3 (l : Launch) (D : va_G) (ca : Nat → ClassId) (za h : Nat → Nat) (hh : sgH 26 h) (f : sg_F) (L : sg_L) (Q : sg_Q) (hI : sgI loM hiM f) (x1 : Int32) (hf_0_48 : f 0 48 = 1) (hf_0_49 : f 0 49 = 3) (p0 : 1 ≤ (f 0 48).toInt ∧ (f 0 48).toInt ≤ 1) (sz : Nat) : Met l yX12_sitsAs gwX12_sitsAs { frames := 4, cells := 0, slots := 0, locals := 89 } (sgP D vwCl (tyX ca) 26 h (eM ca h) zcM za f L Q sz [.ref (h 0), .int 3, .int x1]) (sgQi D vwCl 26 h (eM ca h) sz (fun r f1 L1 Q1 => ((sgI loM hiM f1 ∧ sgK WkX12_sitsAs_3_f1_f3 f f1 ∧ L1 = L ∧ Q1 = Q) ∧ True ∧ (5 ≤ (f1 0 48).toInt ∧ (f1 0 48).toInt ≤ 5)))) 0 0 (sgA 26 h sz) := by
  refine sg_ofWi (cc := cX12_sitsAs) (maxL := 4) RX12 (by decide) rfl rfl (Nat.le_of_ble_eq_true rfl) ?_
  intro p e s m below meth cd Qz ls hx hb hml hown hts hK hZ hP hS hl hret
  have hA := sgY.self (n := 26) (h := h) (sz := s.heap.size)
  have hl : lv_has ls 4 [(0, .ref (h 0)), (1, .int 3), (2, .int x1)] := hl
  obtain ⟨H, hH⟩ : ∃ z : Heap, z = s.heap := ⟨_, rfl⟩
  obtain ⟨locs, hlo⟩ : ∃ z : List Loc, z = [] := ⟨_, rfl⟩
  have hP : va_P D vwCl (sgw 26 h (eM ca h) f L Q) H := by rw [hH]; exact hP
  have hS : va_S (sgA 26 h s.heap.size) s.heap H locs := by rw [hH, hlo]; exact hS
  suffices hgo : W p l e ({ frames := 4, cells := 0, slots := 0, locals := 89 }) s m ([.ref (h 0), .int 3, .int x1] : List Value).toArray below meth cd H locs 0 0 Qz (F0 m 0 ls []) by rw [hH, hlo] at hgo; exact hgo
  clear hH hlo
  have o_1 : (f 0 48).toInt = 1 := (congrArg Int32.toInt (show f 0 48 = 1 from hf_0_48)).trans (by decide)
  have hF : sgK WkX12_sitsAs_3_f1_f3 f f := sgK.rf
  have blk_10 : ∀ (fp_10 : sg_F) (H : Heap) (locs : List Loc) (ls : Array Slot), 1 ≤ (fp_10 0 48).toInt ∧ (fp_10 0 48).toInt ≤ 1 → 3 ≤ (fp_10 0 49).toInt ∧ (fp_10 0 49).toInt ≤ 3 → sgI loM hiM fp_10 → sgK WkX12_sitsAs_3_f1_f3 f fp_10 → va_P D vwCl (sgw 26 h (eM ca h) fp_10 L Q) H → va_S (sgA 26 h s.heap.size) s.heap H locs → lv_has ls 4 [(0, .ref (h 0)), (2, .int x1)] → W p l e ({ frames := 4, cells := 0, slots := 0, locals := 89 }) s m ([.ref (h 0), .int 3, .int x1] : List Value).toArray below meth cd H locs 0 0 Qz (F0 m 10 ls []) := by
    intro fp_10 H locs ls hy0_10 hy1_10 hI hF hP hS hl
    obtain ⟨v_2, ev_2⟩ : ∃ z : Int32, z = fp_10 0 48 := ⟨_, rfl⟩
    have q_3 : 0 ≤ v_2.toInt ∧ v_2.toInt ≤ 19 := by rw [ev_2]; exact hI 0 48
    have q_4 : (fp_10 0 48).toInt = v_2.toInt := by rw [ev_2]
    obtain ⟨v_5, ev_5⟩ : ∃ z : Int32, z = fp_10 0 49 := ⟨_, rfl⟩
    have q_6 : 0 ≤ v_5.toInt ∧ v_5.toInt ≤ 7 := by rw [ev_5]; exact hI 0 49
    have q_7 : (fp_10 0 49).toInt = v_5.toInt := by rw [ev_5]
    have m_8 : fp_10 0 49 = 3 := (hF 0 49 (by decide)).trans hf_0_49
    refine lv_aload_n hx hb dX12_sitsAs_10 rfl (lv_at hl 0 rfl) ?_
    refine lv_bipush (v := 41) hx hb dX12_sitsAs_11 (by decide) ?_
    have c_9 : v_2 = 1 := Int32.toInt_inj.mp (by have k9 : (1 : Int32).toInt = 1 := (by decide); omega)
    have q_10 : (fp_10 0 48).toInt = 1 := (congrArg Int32.toInt (show fp_10 0 48 = 1 from (Eq.trans ev_2.symm c_9))).trans (by decide)
    have q_11 : (fp_10 0 48).toInt = 1 := (congrArg Int32.toInt (show fp_10 0 48 = 1 from (Eq.trans ev_2.symm c_9))).trans (by decide)
    refine sg_callv (va_runV (As := [.int 41]) (rest := []) ⟨hx, hb, hml, hown, hts⟩ (kX12_begins_41_f1 l D ca za h hh fp_10 L Q hI (Eq.trans ev_2.symm c_9) (by have k0 : (41 : Int32).toInt = 41 := (by decide); omega) H.size) (cwV 1 hts (gw_V (fun _ h => List.mem_cons_of_mem _ h) mw_734 mw_735 mw_736 mw_619 mw_733) rfl rfl rfl (by decide +kernel) ⟨Nat.le_of_ble_eq_true rfl, Nat.le_of_ble_eq_true rfl⟩) (sg_preV (ci := 12) (C := RX12) (T := TX12) (N := 55) hA hK hP hS hZ 0 (by decide) rfl rfl) rfl rfl hl.1 rfl (lv_room (Nat.le_of_ble_eq_true rfl)) dX12_sitsAs_13 ⟨Nat.le_refl _, Nat.le_refl _⟩) hA hS (fun f_12 L_13 Q_14 H locs hq hP hS => ?_)
    obtain ⟨⟨hI, hk_f_12, eL9, eQ9⟩, p_15⟩ := hq
    rw [eL9, eQ9] at hP; clear eL9 eQ9
    have hF : sgK WkX12_sitsAs_3_f1_f3 f f_12 := sgK.tr hF hk_f_12 (by decide)
    obtain ⟨v_16, ev_16⟩ : ∃ z : Int32, z = f_12 0 48 := ⟨_, rfl⟩
    have q_17 : 0 ≤ v_16.toInt ∧ v_16.toInt ≤ 19 := by rw [ev_16]; exact hI 0 48
    have q_18 : (f_12 0 48).toInt = v_16.toInt := (congrArg Int32.toInt (show f_12 0 48 = v_16 from ev_16.symm))
    have q_19 : (f_12 0 48).toInt = v_16.toInt := (congrArg Int32.toInt (show f_12 0 48 = v_16 from ev_16.symm))
    refine lv_aload_n hx hb dX12_sitsAs_16 rfl (lv_at hl 0 rfl) ?_
    refine lv_iconst (v := 2) hx hb dX12_sitsAs_17 (by decide) ?_
    refine lv_iload_n hx hb dX12_sitsAs_18 rfl (lv_at hl 1 rfl) ?_
    refine lv_iconst (v := 1) hx hb dX12_sitsAs_19 (by decide) ?_
    refine lv_iadd hx hb dX12_sitsAs_20 ?_
    refine lv_topi (fun v_20 ev_20 => ?_)
    have c_21 : v_16 = 2 := Int32.toInt_inj.mp (by have k9 : (2 : Int32).toInt = 2 := (by decide); omega)
    have q_22 : (f_12 0 48).toInt = 2 := (congrArg Int32.toInt (show f_12 0 48 = 2 from (Eq.trans ev_16.symm c_21))).trans (by decide)
    have q_23 : (f_12 0 48).toInt = 2 := (congrArg Int32.toInt (show f_12 0 48 = 2 from (Eq.trans ev_16.symm c_21))).trans (by decide)
    refine sg_calli (va_runV (As := [.int 2, .int v_20]) (rest := []) ⟨hx, hb, hml, hown, hts⟩ (kX12_sitsAs_2_f2_f3 l D ca za h hh f_12 L Q hI v_20 (Eq.trans ev_16.symm c_21) ((hk_f_12 0 49 (by decide)).trans m_8) (by have k0 : (2 : Int32).toInt = 2 := (by decide); omega) H.size) (cwV 2 hts (gw_V (fun _ h => List.mem_cons_of_mem _ h) mw_801 mw_802 mw_803 mw_619 mw_800) rfl rfl rfl (by decide +kernel) ⟨Nat.le_of_ble_eq_true rfl, Nat.le_of_ble_eq_true rfl⟩) (sg_preV (ci := 12) (C := RX12) (T := TX12) (N := 55) hA hK hP hS hZ 0 (by decide) rfl rfl) rfl rfl hl.1 rfl (lv_room (Nat.le_of_ble_eq_true rfl)) dX12_sitsAs_21 ⟨Nat.le_refl _, Nat.le_refl _⟩) hA hS (fun r_27 f_24 L_25 Q_26 H locs hq hP hS => ?_)
    obtain ⟨⟨hI, hk_f_24, eL9, eQ9⟩, hq, p_28⟩ := hq
    rw [eL9, eQ9] at hP; clear eL9 eQ9
    have hF : sgK WkX12_sitsAs_3_f1_f3 f f_24 := sgK.tr hF hk_f_24 (by decide)
    obtain ⟨v_29, ev_29⟩ : ∃ z : Int32, z = f_24 0 48 := ⟨_, rfl⟩
    have q_30 : 0 ≤ v_29.toInt ∧ v_29.toInt ≤ 19 := by rw [ev_29]; exact hI 0 48
    have q_31 : (f_24 0 48).toInt = v_29.toInt := (congrArg Int32.toInt (show f_24 0 48 = v_29 from ev_29.symm))
    have q_32 : (f_24 0 48).toInt = v_29.toInt := (congrArg Int32.toInt (show f_24 0 48 = v_29 from ev_29.symm))
    have k_33 : (2 : Int32).toInt = 2 := by decide
    have q_34 : (f_24 0 48).toInt = v_29.toInt := (congrArg Int32.toInt (show f_24 0 48 = v_29 from ev_29.symm))
    have q_35 : (f_24 0 48).toInt = v_29.toInt := (congrArg Int32.toInt (show f_24 0 48 = v_29 from ev_29.symm))
    exact hret _ _ _ _ (r_27) f_24 L Q dX12_sitsAs_24 hP hS ⟨⟨hI, hF, rfl, rfl⟩, trivial, (by omega)⟩
  refine lv_iload_n hx hb dX12_sitsAs_0 rfl (lv_at hl 1 rfl) ?_
  refine lv_iconst (v := 3) hx hb dX12_sitsAs_1 (by decide) ?_
  refine lv_icmp_eq (tgt := 10) hx hb dX12_sitsAs_2 (by decide) (fun c => ?_) (fun c => absurd c (by decide))
  exact blk_10 f _ _ _ (by have zz0_48 : (f 0 48).toInt = 1 := (congrArg Int32.toInt (show f 0 48 = 1 from hf_0_48)).trans (by decide); omega) (by have zz0_49 : (f 0 49).toInt = 3 := (congrArg Int32.toInt (show f 0 49 = 3 from hf_0_49)).trans (by decide); omega) hI hF hP hS (lv_sub hl [0, 2] rfl)

abbrev WkX12_begins_40_f5 : List (Nat × Nat × Option Nat) := [(0, 0, some 48), (21, 21, none)]
set_option maxHeartbeats 4000000 in
set_option maxRecDepth 100000 in
theorem kX12_begins_40_f5 (l : Launch) (D : va_G) (ca : Nat → ClassId) (za h : Nat → Nat) (hh : sgH 26 h) (f : sg_F) (L : sg_L) (Q : sg_Q) (hI : sgI loM hiM f) (hf_0_48 : f 0 48 = 5) (p0 : 5 ≤ (f 0 48).toInt ∧ (f 0 48).toInt ≤ 5) (sz : Nat) : Met l yX12_begins gwX12_begins { frames := 0, cells := 0, slots := 0, locals := 0 } (sgP D vwCl (tyX ca) 26 h (eM ca h) zcM za f L Q sz [.ref (h 0), .int 40]) (sgQv D vwCl 26 h (eM ca h) sz (fun f1 L1 Q1 => ((sgI loM hiM f1 ∧ sgK WkX12_begins_40_f5 f f1 ∧ L1 = L ∧ Q1 = Q) ∧ (6 ≤ (f1 0 48).toInt ∧ (f1 0 48).toInt ≤ 6)))) 0 0 (sgA 26 h sz) := by
  refine sg_ofWv (cc := cX12_begins) (maxL := 2) RX12 (by decide) rfl rfl (Nat.le_of_ble_eq_true rfl) ?_
  intro p e s m below meth cd Qz ls hx hb hml hown hts hK hZ hP hS hl hret
  have hA := sgY.self (n := 26) (h := h) (sz := s.heap.size)
  have hl : lv_has ls 2 [(0, .ref (h 0)), (1, .int 40)] := hl
  obtain ⟨H, hH⟩ : ∃ z : Heap, z = s.heap := ⟨_, rfl⟩
  obtain ⟨locs, hlo⟩ : ∃ z : List Loc, z = [] := ⟨_, rfl⟩
  have hP : va_P D vwCl (sgw 26 h (eM ca h) f L Q) H := by rw [hH]; exact hP
  have hS : va_S (sgA 26 h s.heap.size) s.heap H locs := by rw [hH, hlo]; exact hS
  suffices hgo : W p l e ({ frames := 0, cells := 0, slots := 0, locals := 0 }) s m ([.ref (h 0), .int 40] : List Value).toArray below meth cd H locs 0 0 Qz (F0 m 0 ls []) by rw [hH, hlo] at hgo; exact hgo
  clear hH hlo
  have o_1 : (f 0 48).toInt = 5 := (congrArg Int32.toInt (show f 0 48 = 5 from hf_0_48)).trans (by decide)
  have hF : sgK WkX12_begins_40_f5 f f := sgK.rf
  have blk_19 : ∀ (fp_19 : sg_F) (H : Heap) (locs : List Loc) (ls : Array Slot), 5 ≤ (fp_19 0 48).toInt ∧ (fp_19 0 48).toInt ≤ 5 → sgI loM hiM fp_19 → sgK WkX12_begins_40_f5 f fp_19 → va_P D vwCl (sgw 26 h (eM ca h) fp_19 L Q) H → va_S (sgA 26 h s.heap.size) s.heap H locs → lv_has ls 2 [(0, .ref (h 0))] → W p l e ({ frames := 0, cells := 0, slots := 0, locals := 0 }) s m ([.ref (h 0), .int 40] : List Value).toArray below meth cd H locs 0 0 Qz (F0 m 19 ls []) := by
    intro fp_19 H locs ls hy0_19 hI hF hP hS hl
    obtain ⟨v_2, ev_2⟩ : ∃ z : Int32, z = fp_19 0 48 := ⟨_, rfl⟩
    have q_3 : 0 ≤ v_2.toInt ∧ v_2.toInt ≤ 19 := by rw [ev_2]; exact hI 0 48
    have q_4 : (fp_19 0 48).toInt = v_2.toInt := by rw [ev_2]
    refine lv_aload_n hx hb dX12_begins_19 rfl (lv_at hl 0 rfl) ?_
    refine lv_dup hx hb dX12_begins_20 rfl ?_
    refine sg_get (ci := 12) (v := .int v_2) (C := RX12) (T := TX12) (N := 55) hx hb hts (fun w h => List.mem_cons_of_mem _ (gx_12 w h)) hown hK hP 0 (by decide) rfl rfl 48 (by decide) (hts _ (List.mem_cons_of_mem _ mw_621)) (fun _ h9 => h9) (congrArg (fun z => some (Value.int z)) (show fp_19 0 48 = v_2 from ev_2.symm)) dX12_begins_21 ?_
    refine lv_iconst (v := 1) hx hb dX12_begins_24 (by decide) ?_
    refine lv_iadd hx hb dX12_begins_25 ?_
    refine lv_topi (fun v_5 ev_5 => ?_)
    have q_6 : v_5.toInt = v_2.toInt + 1 := by rw [ev_5]; have k1 : (1 : Int32).toInt = 1 := (by decide); exact (bn_addI (by omega) (by omega)).trans (by omega)
    refine sg_put (ci := 12) (x := v_5) (ty := .int) (C := RX12) (T := TX12) (N := 55) hx hb hts (fun w h => List.mem_cons_of_mem _ (gx_12 w h)) tyX12 tyX12_ok nmX12 hown hh hA hK hP hS 0 (by decide) rfl rfl 48 (by decide) (hts _ (List.mem_cons_of_mem _ mw_621)) (fun _ h9 => h9) rfl rfl (by decide +kernel) rfl rfl (Nat.le_of_ble_eq_true rfl) dX12_begins_26 (fun f_7 H locs ef_7 hP hS => ?_)
    have hI : sgI loM hiM f_7 := by rw [ef_7]; exact sgI.put hI 0 48 (show 0 ≤ (v_5 : Int32).toInt ∧ (v_5 : Int32).toInt ≤ 19 from by omega)
    have hF : sgK WkX12_begins_40_f5 f f_7 := sgK.put hF ef_7 (by rfl)
    have q_8 : (f_7 0 48).toInt = v_5.toInt := (congrArg Int32.toInt (show f_7 0 48 = v_5 from (by rw [ef_7, sg_up_s, sgu_s])))
    have q_9 : (f_7 0 48).toInt = v_5.toInt := (congrArg Int32.toInt (show f_7 0 48 = v_5 from (by rw [ef_7, sg_up_s, sgu_s])))
    exact hret _ _ _ _ f_7 L Q dX12_begins_29 hP hS ⟨⟨hI, hF, rfl, rfl⟩, (by omega)⟩
  refine lv_aload_n hx hb dX12_begins_0 rfl (lv_at hl 0 rfl) ?_
  refine sg_get (ci := 12) (v := .int 5) (C := RX12) (T := TX12) (N := 55) hx hb hts (fun w h => List.mem_cons_of_mem _ (gx_12 w h)) hown hK hP 0 (by decide) rfl rfl 48 (by decide) (hts _ (List.mem_cons_of_mem _ mw_621)) (fun _ h9 => h9) (congrArg (fun z => some (Value.int z)) (show f 0 48 = 5 from hf_0_48)) dX12_begins_1 ?_
  refine lv_bipush (v := 24) hx hb dX12_begins_4 (by decide) ?_
  refine lv_icmp_ge (tgt := 19) hx hb dX12_begins_6 (by decide) (fun c => absurd c (by decide)) (fun c => ?_)
  refine lv_aload_n hx hb dX12_begins_9 rfl (lv_at hl 0 rfl) ?_
  refine sg_get (ci := 12) (v := .ref (h 21)) (C := RX12) (T := TX12) (N := 55) hx hb hts (fun w h => List.mem_cons_of_mem _ (gx_12 w h)) hown hK hP 0 (by decide) rfl rfl 47 (by decide) (hts _ (List.mem_cons_of_mem _ mw_718)) (fun _ h9 => h9) rfl dX12_begins_10 ?_
  refine lv_aload_n hx hb dX12_begins_13 rfl (lv_at hl 0 rfl) ?_
  refine sg_get (ci := 12) (v := .int 5) (C := RX12) (T := TX12) (N := 55) hx hb hts (fun w h => List.mem_cons_of_mem _ (gx_12 w h)) hown hK hP 0 (by decide) rfl rfl 48 (by decide) (hts _ (List.mem_cons_of_mem _ mw_621)) (fun _ h9 => h9) (congrArg (fun z => some (Value.int z)) (show f 0 48 = 5 from hf_0_48)) dX12_begins_14 ?_
  refine lv_iload_n hx hb dX12_begins_17 rfl (lv_at hl 1 rfl) ?_
  refine sg_iast hx hb hh hA hK hP hS 21 (by decide) 0 (fun _ => rfl) rfl (i := 5) (x := 40) (vp_in_iff.mpr (by decide)) dX12_begins_18 (fun f_10 H locs ef_10 hP hS => ?_)
  have hI : sgI loM hiM f_10 := by rw [ef_10]; exact sgI.put hI 21 (Int32.toNatClampNeg 5) (show 0 ≤ (40 : Int32).toInt ∧ (40 : Int32).toInt ≤ 81 from by decide)
  have hF : sgK WkX12_begins_40_f5 f f_10 := sgK.put hF ef_10 (by rfl)
  exact blk_19 f_10 _ _ _ (by have zz0_48 : (f_10 0 48).toInt = 5 := (congrArg Int32.toInt (show f_10 0 48 = 5 from (by rw [ef_10, sg_up_n (by decide)]; exact hf_0_48))).trans (by decide); omega) hI hF hP hS (lv_sub hl [0] rfl)

abbrev WkX12_begins_11_f6 : List (Nat × Nat × Option Nat) := [(0, 0, some 48), (21, 21, none)]
set_option maxHeartbeats 4000000 in
set_option maxRecDepth 100000 in
theorem kX12_begins_11_f6 (l : Launch) (D : va_G) (ca : Nat → ClassId) (za h : Nat → Nat) (hh : sgH 26 h) (f : sg_F) (L : sg_L) (Q : sg_Q) (hI : sgI loM hiM f) (hf_0_48 : f 0 48 = 6) (p0 : 6 ≤ (f 0 48).toInt ∧ (f 0 48).toInt ≤ 6) (sz : Nat) : Met l yX12_begins gwX12_begins { frames := 0, cells := 0, slots := 0, locals := 0 } (sgP D vwCl (tyX ca) 26 h (eM ca h) zcM za f L Q sz [.ref (h 0), .int 11]) (sgQv D vwCl 26 h (eM ca h) sz (fun f1 L1 Q1 => ((sgI loM hiM f1 ∧ sgK WkX12_begins_11_f6 f f1 ∧ L1 = L ∧ Q1 = Q) ∧ (7 ≤ (f1 0 48).toInt ∧ (f1 0 48).toInt ≤ 7)))) 0 0 (sgA 26 h sz) := by
  refine sg_ofWv (cc := cX12_begins) (maxL := 2) RX12 (by decide) rfl rfl (Nat.le_of_ble_eq_true rfl) ?_
  intro p e s m below meth cd Qz ls hx hb hml hown hts hK hZ hP hS hl hret
  have hA := sgY.self (n := 26) (h := h) (sz := s.heap.size)
  have hl : lv_has ls 2 [(0, .ref (h 0)), (1, .int 11)] := hl
  obtain ⟨H, hH⟩ : ∃ z : Heap, z = s.heap := ⟨_, rfl⟩
  obtain ⟨locs, hlo⟩ : ∃ z : List Loc, z = [] := ⟨_, rfl⟩
  have hP : va_P D vwCl (sgw 26 h (eM ca h) f L Q) H := by rw [hH]; exact hP
  have hS : va_S (sgA 26 h s.heap.size) s.heap H locs := by rw [hH, hlo]; exact hS
  suffices hgo : W p l e ({ frames := 0, cells := 0, slots := 0, locals := 0 }) s m ([.ref (h 0), .int 11] : List Value).toArray below meth cd H locs 0 0 Qz (F0 m 0 ls []) by rw [hH, hlo] at hgo; exact hgo
  clear hH hlo
  have o_1 : (f 0 48).toInt = 6 := (congrArg Int32.toInt (show f 0 48 = 6 from hf_0_48)).trans (by decide)
  have hF : sgK WkX12_begins_11_f6 f f := sgK.rf
  have blk_19 : ∀ (fp_19 : sg_F) (H : Heap) (locs : List Loc) (ls : Array Slot), 6 ≤ (fp_19 0 48).toInt ∧ (fp_19 0 48).toInt ≤ 6 → sgI loM hiM fp_19 → sgK WkX12_begins_11_f6 f fp_19 → va_P D vwCl (sgw 26 h (eM ca h) fp_19 L Q) H → va_S (sgA 26 h s.heap.size) s.heap H locs → lv_has ls 2 [(0, .ref (h 0))] → W p l e ({ frames := 0, cells := 0, slots := 0, locals := 0 }) s m ([.ref (h 0), .int 11] : List Value).toArray below meth cd H locs 0 0 Qz (F0 m 19 ls []) := by
    intro fp_19 H locs ls hy0_19 hI hF hP hS hl
    obtain ⟨v_2, ev_2⟩ : ∃ z : Int32, z = fp_19 0 48 := ⟨_, rfl⟩
    have q_3 : 0 ≤ v_2.toInt ∧ v_2.toInt ≤ 19 := by rw [ev_2]; exact hI 0 48
    have q_4 : (fp_19 0 48).toInt = v_2.toInt := by rw [ev_2]
    refine lv_aload_n hx hb dX12_begins_19 rfl (lv_at hl 0 rfl) ?_
    refine lv_dup hx hb dX12_begins_20 rfl ?_
    refine sg_get (ci := 12) (v := .int v_2) (C := RX12) (T := TX12) (N := 55) hx hb hts (fun w h => List.mem_cons_of_mem _ (gx_12 w h)) hown hK hP 0 (by decide) rfl rfl 48 (by decide) (hts _ (List.mem_cons_of_mem _ mw_621)) (fun _ h9 => h9) (congrArg (fun z => some (Value.int z)) (show fp_19 0 48 = v_2 from ev_2.symm)) dX12_begins_21 ?_
    refine lv_iconst (v := 1) hx hb dX12_begins_24 (by decide) ?_
    refine lv_iadd hx hb dX12_begins_25 ?_
    refine lv_topi (fun v_5 ev_5 => ?_)
    have q_6 : v_5.toInt = v_2.toInt + 1 := by rw [ev_5]; have k1 : (1 : Int32).toInt = 1 := (by decide); exact (bn_addI (by omega) (by omega)).trans (by omega)
    refine sg_put (ci := 12) (x := v_5) (ty := .int) (C := RX12) (T := TX12) (N := 55) hx hb hts (fun w h => List.mem_cons_of_mem _ (gx_12 w h)) tyX12 tyX12_ok nmX12 hown hh hA hK hP hS 0 (by decide) rfl rfl 48 (by decide) (hts _ (List.mem_cons_of_mem _ mw_621)) (fun _ h9 => h9) rfl rfl (by decide +kernel) rfl rfl (Nat.le_of_ble_eq_true rfl) dX12_begins_26 (fun f_7 H locs ef_7 hP hS => ?_)
    have hI : sgI loM hiM f_7 := by rw [ef_7]; exact sgI.put hI 0 48 (show 0 ≤ (v_5 : Int32).toInt ∧ (v_5 : Int32).toInt ≤ 19 from by omega)
    have hF : sgK WkX12_begins_11_f6 f f_7 := sgK.put hF ef_7 (by rfl)
    have q_8 : (f_7 0 48).toInt = v_5.toInt := (congrArg Int32.toInt (show f_7 0 48 = v_5 from (by rw [ef_7, sg_up_s, sgu_s])))
    have q_9 : (f_7 0 48).toInt = v_5.toInt := (congrArg Int32.toInt (show f_7 0 48 = v_5 from (by rw [ef_7, sg_up_s, sgu_s])))
    exact hret _ _ _ _ f_7 L Q dX12_begins_29 hP hS ⟨⟨hI, hF, rfl, rfl⟩, (by omega)⟩
  refine lv_aload_n hx hb dX12_begins_0 rfl (lv_at hl 0 rfl) ?_
  refine sg_get (ci := 12) (v := .int 6) (C := RX12) (T := TX12) (N := 55) hx hb hts (fun w h => List.mem_cons_of_mem _ (gx_12 w h)) hown hK hP 0 (by decide) rfl rfl 48 (by decide) (hts _ (List.mem_cons_of_mem _ mw_621)) (fun _ h9 => h9) (congrArg (fun z => some (Value.int z)) (show f 0 48 = 6 from hf_0_48)) dX12_begins_1 ?_
  refine lv_bipush (v := 24) hx hb dX12_begins_4 (by decide) ?_
  refine lv_icmp_ge (tgt := 19) hx hb dX12_begins_6 (by decide) (fun c => absurd c (by decide)) (fun c => ?_)
  refine lv_aload_n hx hb dX12_begins_9 rfl (lv_at hl 0 rfl) ?_
  refine sg_get (ci := 12) (v := .ref (h 21)) (C := RX12) (T := TX12) (N := 55) hx hb hts (fun w h => List.mem_cons_of_mem _ (gx_12 w h)) hown hK hP 0 (by decide) rfl rfl 47 (by decide) (hts _ (List.mem_cons_of_mem _ mw_718)) (fun _ h9 => h9) rfl dX12_begins_10 ?_
  refine lv_aload_n hx hb dX12_begins_13 rfl (lv_at hl 0 rfl) ?_
  refine sg_get (ci := 12) (v := .int 6) (C := RX12) (T := TX12) (N := 55) hx hb hts (fun w h => List.mem_cons_of_mem _ (gx_12 w h)) hown hK hP 0 (by decide) rfl rfl 48 (by decide) (hts _ (List.mem_cons_of_mem _ mw_621)) (fun _ h9 => h9) (congrArg (fun z => some (Value.int z)) (show f 0 48 = 6 from hf_0_48)) dX12_begins_14 ?_
  refine lv_iload_n hx hb dX12_begins_17 rfl (lv_at hl 1 rfl) ?_
  refine sg_iast hx hb hh hA hK hP hS 21 (by decide) 0 (fun _ => rfl) rfl (i := 6) (x := 11) (vp_in_iff.mpr (by decide)) dX12_begins_18 (fun f_10 H locs ef_10 hP hS => ?_)
  have hI : sgI loM hiM f_10 := by rw [ef_10]; exact sgI.put hI 21 (Int32.toNatClampNeg 6) (show 0 ≤ (11 : Int32).toInt ∧ (11 : Int32).toInt ≤ 81 from by decide)
  have hF : sgK WkX12_begins_11_f6 f f_10 := sgK.put hF ef_10 (by rfl)
  exact blk_19 f_10 _ _ _ (by have zz0_48 : (f_10 0 48).toInt = 6 := (congrArg Int32.toInt (show f_10 0 48 = 6 from (by rw [ef_10, sg_up_n (by decide)]; exact hf_0_48))).trans (by decide); omega) hI hF hP hS (lv_sub hl [0] rfl)

abbrev WkX12_slipsAs_2_f6_f3 : List (Nat × Nat × Option Nat) := [(0, 0, some 48), (21, 21, none)]
set_option maxHeartbeats 4000000 in
set_option maxRecDepth 100000 in
theorem kX12_slipsAs_2_f6_f3 (l : Launch) (D : va_G) (ca : Nat → ClassId) (za h : Nat → Nat) (hh : sgH 26 h) (f : sg_F) (L : sg_L) (Q : sg_Q) (hI : sgI loM hiM f) (x1 : Int32) (hf_0_48 : f 0 48 = 6) (hf_0_49 : f 0 49 = 3) (b1 : 1 ≤ x1.toInt ∧ x1.toInt ≤ 1) (p0 : 6 ≤ (f 0 48).toInt ∧ (f 0 48).toInt ≤ 6) (sz : Nat) : Met l yX12_slipsAs gwX12_slipsAs { frames := 1, cells := 0, slots := 0, locals := 21 } (sgP D vwCl (tyX ca) 26 h (eM ca h) zcM za f L Q sz [.ref (h 0), .int 2, .int x1]) (sgQi D vwCl 26 h (eM ca h) sz (fun r f1 L1 Q1 => ((sgI loM hiM f1 ∧ sgK WkX12_slipsAs_2_f6_f3 f f1 ∧ L1 = L ∧ Q1 = Q) ∧ True ∧ (7 ≤ (f1 0 48).toInt ∧ (f1 0 48).toInt ≤ 7)))) 0 0 (sgA 26 h sz) := by
  refine sg_ofWi (cc := cX12_slipsAs) (maxL := 4) RX12 (by decide) rfl rfl (Nat.le_of_ble_eq_true rfl) ?_
  intro p e s m below meth cd Qz ls hx hb hml hown hts hK hZ hP hS hl hret
  have hA := sgY.self (n := 26) (h := h) (sz := s.heap.size)
  have hl : lv_has ls 4 [(0, .ref (h 0)), (1, .int 2), (2, .int x1)] := hl
  obtain ⟨H, hH⟩ : ∃ z : Heap, z = s.heap := ⟨_, rfl⟩
  obtain ⟨locs, hlo⟩ : ∃ z : List Loc, z = [] := ⟨_, rfl⟩
  have hP : va_P D vwCl (sgw 26 h (eM ca h) f L Q) H := by rw [hH]; exact hP
  have hS : va_S (sgA 26 h s.heap.size) s.heap H locs := by rw [hH, hlo]; exact hS
  suffices hgo : W p l e ({ frames := 1, cells := 0, slots := 0, locals := 21 }) s m ([.ref (h 0), .int 2, .int x1] : List Value).toArray below meth cd H locs 0 0 Qz (F0 m 0 ls []) by rw [hH, hlo] at hgo; exact hgo
  clear hH hlo
  have o_1 : (f 0 48).toInt = 6 := (congrArg Int32.toInt (show f 0 48 = 6 from hf_0_48)).trans (by decide)
  have hF : sgK WkX12_slipsAs_2_f6_f3 f f := sgK.rf
  refine lv_iload_n hx hb dX12_slipsAs_0 rfl (lv_at hl 1 rfl) ?_
  refine lv_iconst (v := 3) hx hb dX12_slipsAs_1 (by decide) ?_
  refine lv_icmp_eq (tgt := 10) hx hb dX12_slipsAs_2 (by decide) (fun c => absurd c (by decide)) (fun c => ?_)
  refine lv_iload_n hx hb dX12_slipsAs_5 rfl (lv_at hl 1 rfl) ?_
  refine lv_iconst (v := 5) hx hb dX12_slipsAs_6 (by decide) ?_
  refine lv_icmp_ne (tgt := 25) hx hb dX12_slipsAs_7 (by decide) (fun c => ?_) (fun c => absurd c (by decide))
  refine lv_iload_n hx hb dX12_slipsAs_25 rfl (lv_at hl 1 rfl) ?_
  refine lv_iconst (v := 4) hx hb dX12_slipsAs_26 (by decide) ?_
  refine lv_icmp_eq (tgt := 36) hx hb dX12_slipsAs_27 (by decide) (fun c => absurd c (by decide)) (fun c => ?_)
  refine lv_iload_n hx hb dX12_slipsAs_30 rfl (lv_at hl 1 rfl) ?_
  refine lv_bipush (v := 7) hx hb dX12_slipsAs_31 (by decide) ?_
  refine lv_icmp_ne (tgt := 61) hx hb dX12_slipsAs_33 (by decide) (fun c => ?_) (fun c => absurd c (by decide))
  refine lv_aload_n hx hb dX12_slipsAs_61 rfl (lv_at hl 0 rfl) ?_
  refine lv_bipush (v := 11) hx hb dX12_slipsAs_62 (by decide) ?_
  have q_2 : (f 0 48).toInt = 6 := (congrArg Int32.toInt (show f 0 48 = 6 from hf_0_48)).trans (by decide)
  have q_3 : (f 0 48).toInt = 6 := (congrArg Int32.toInt (show f 0 48 = 6 from hf_0_48)).trans (by decide)
  refine sg_callv (va_runV (As := [.int 11]) (rest := []) ⟨hx, hb, hml, hown, hts⟩ (kX12_begins_11_f6 l D ca za h hh f L Q hI hf_0_48 (by have k0 : (11 : Int32).toInt = 11 := (by decide); omega) H.size) (cwV 1 hts (gw_V (fun _ h => List.mem_cons_of_mem _ h) mw_734 mw_735 mw_736 mw_619 mw_733) rfl rfl rfl (by decide +kernel) ⟨Nat.le_of_ble_eq_true rfl, Nat.le_of_ble_eq_true rfl⟩) (sg_preV (ci := 12) (C := RX12) (T := TX12) (N := 55) hA hK hP hS hZ 0 (by decide) rfl rfl) rfl rfl hl.1 rfl (lv_room (Nat.le_of_ble_eq_true rfl)) dX12_slipsAs_64 ⟨Nat.le_refl _, Nat.le_refl _⟩) hA hS (fun f_4 L_5 Q_6 H locs hq hP hS => ?_)
  obtain ⟨⟨hI, hk_f_4, eL9, eQ9⟩, p_7⟩ := hq
  rw [eL9, eQ9] at hP; clear eL9 eQ9
  have hF : sgK WkX12_slipsAs_2_f6_f3 f f_4 := sgK.tr hF hk_f_4 (by decide)
  obtain ⟨v_8, ev_8⟩ : ∃ z : Int32, z = f_4 0 48 := ⟨_, rfl⟩
  have q_9 : 0 ≤ v_8.toInt ∧ v_8.toInt ≤ 19 := by rw [ev_8]; exact hI 0 48
  have q_10 : (f_4 0 48).toInt = v_8.toInt := (congrArg Int32.toInt (show f_4 0 48 = v_8 from ev_8.symm))
  have q_11 : (f_4 0 48).toInt = v_8.toInt := (congrArg Int32.toInt (show f_4 0 48 = v_8 from ev_8.symm))
  refine lv_iload_n hx hb dX12_slipsAs_67 rfl (lv_at hl 2 rfl) ?_
  refine lv_aload_n hx hb dX12_slipsAs_68 rfl (lv_at hl 0 rfl) ?_
  refine sg_get (ci := 12) (v := .int (f_4 0 50)) (C := RX12) (T := TX12) (N := 55) hx hb hts (fun w h => List.mem_cons_of_mem _ (gx_12 w h)) hown hK hP 0 (by decide) rfl rfl 50 (by decide) (hts _ (List.mem_cons_of_mem _ mw_680)) (fun _ h9 => h9) rfl dX12_slipsAs_69 ?_
  refine lv_topi (fun v_12 ev_12 => ?_)
  have q_13 : 0 ≤ v_12.toInt ∧ v_12.toInt ≤ 49 := by rw [ev_12]; exact hI 0 50
  refine lv_ixor hx hb dX12_slipsAs_72 ?_
  refine lv_topi (fun v_14 ev_14 => ?_)
  have q_15 : (f_4 0 48).toInt = v_8.toInt := (congrArg Int32.toInt (show f_4 0 48 = v_8 from ev_8.symm))
  have q_16 : (f_4 0 48).toInt = v_8.toInt := (congrArg Int32.toInt (show f_4 0 48 = v_8 from ev_8.symm))
  exact hret _ _ _ _ (v_14) f_4 L Q dX12_slipsAs_73 hP hS ⟨⟨hI, hF, rfl, rfl⟩, trivial, (by omega)⟩

abbrev WkX12_slipsAs_3_f5_f3 : List (Nat × Nat × Option Nat) := [(0, 0, some 48), (21, 21, none)]
set_option maxHeartbeats 4000000 in
set_option maxRecDepth 100000 in
theorem kX12_slipsAs_3_f5_f3 (l : Launch) (D : va_G) (ca : Nat → ClassId) (za h : Nat → Nat) (hh : sgH 26 h) (f : sg_F) (L : sg_L) (Q : sg_Q) (hI : sgI loM hiM f) (x1 : Int32) (hf_0_48 : f 0 48 = 5) (hf_0_49 : f 0 49 = 3) (b1 : 1 ≤ x1.toInt ∧ x1.toInt ≤ 1) (p0 : 5 ≤ (f 0 48).toInt ∧ (f 0 48).toInt ≤ 5) (sz : Nat) : Met l yX12_slipsAs gwX12_slipsAs { frames := 2, cells := 0, slots := 0, locals := 44 } (sgP D vwCl (tyX ca) 26 h (eM ca h) zcM za f L Q sz [.ref (h 0), .int 3, .int x1]) (sgQi D vwCl 26 h (eM ca h) sz (fun r f1 L1 Q1 => ((sgI loM hiM f1 ∧ sgK WkX12_slipsAs_3_f5_f3 f f1 ∧ L1 = L ∧ Q1 = Q) ∧ True ∧ (7 ≤ (f1 0 48).toInt ∧ (f1 0 48).toInt ≤ 7)))) 0 0 (sgA 26 h sz) := by
  refine sg_ofWi (cc := cX12_slipsAs) (maxL := 4) RX12 (by decide) rfl rfl (Nat.le_of_ble_eq_true rfl) ?_
  intro p e s m below meth cd Qz ls hx hb hml hown hts hK hZ hP hS hl hret
  have hA := sgY.self (n := 26) (h := h) (sz := s.heap.size)
  have hl : lv_has ls 4 [(0, .ref (h 0)), (1, .int 3), (2, .int x1)] := hl
  obtain ⟨H, hH⟩ : ∃ z : Heap, z = s.heap := ⟨_, rfl⟩
  obtain ⟨locs, hlo⟩ : ∃ z : List Loc, z = [] := ⟨_, rfl⟩
  have hP : va_P D vwCl (sgw 26 h (eM ca h) f L Q) H := by rw [hH]; exact hP
  have hS : va_S (sgA 26 h s.heap.size) s.heap H locs := by rw [hH, hlo]; exact hS
  suffices hgo : W p l e ({ frames := 2, cells := 0, slots := 0, locals := 44 }) s m ([.ref (h 0), .int 3, .int x1] : List Value).toArray below meth cd H locs 0 0 Qz (F0 m 0 ls []) by rw [hH, hlo] at hgo; exact hgo
  clear hH hlo
  have o_1 : (f 0 48).toInt = 5 := (congrArg Int32.toInt (show f 0 48 = 5 from hf_0_48)).trans (by decide)
  have hF : sgK WkX12_slipsAs_3_f5_f3 f f := sgK.rf
  have blk_10 : ∀ (fp_10 : sg_F) (H : Heap) (locs : List Loc) (ls : Array Slot), 5 ≤ (fp_10 0 48).toInt ∧ (fp_10 0 48).toInt ≤ 5 → 3 ≤ (fp_10 0 49).toInt ∧ (fp_10 0 49).toInt ≤ 3 → sgI loM hiM fp_10 → sgK WkX12_slipsAs_3_f5_f3 f fp_10 → va_P D vwCl (sgw 26 h (eM ca h) fp_10 L Q) H → va_S (sgA 26 h s.heap.size) s.heap H locs → lv_has ls 4 [(0, .ref (h 0)), (2, .int x1)] → W p l e ({ frames := 2, cells := 0, slots := 0, locals := 44 }) s m ([.ref (h 0), .int 3, .int x1] : List Value).toArray below meth cd H locs 0 0 Qz (F0 m 10 ls []) := by
    intro fp_10 H locs ls hy0_10 hy1_10 hI hF hP hS hl
    obtain ⟨v_2, ev_2⟩ : ∃ z : Int32, z = fp_10 0 48 := ⟨_, rfl⟩
    have q_3 : 0 ≤ v_2.toInt ∧ v_2.toInt ≤ 19 := by rw [ev_2]; exact hI 0 48
    have q_4 : (fp_10 0 48).toInt = v_2.toInt := by rw [ev_2]
    obtain ⟨v_5, ev_5⟩ : ∃ z : Int32, z = fp_10 0 49 := ⟨_, rfl⟩
    have q_6 : 0 ≤ v_5.toInt ∧ v_5.toInt ≤ 7 := by rw [ev_5]; exact hI 0 49
    have q_7 : (fp_10 0 49).toInt = v_5.toInt := by rw [ev_5]
    have m_8 : fp_10 0 49 = 3 := (hF 0 49 (by decide)).trans hf_0_49
    refine lv_aload_n hx hb dX12_slipsAs_10 rfl (lv_at hl 0 rfl) ?_
    refine lv_bipush (v := 40) hx hb dX12_slipsAs_11 (by decide) ?_
    have c_9 : v_2 = 5 := Int32.toInt_inj.mp (by have k9 : (5 : Int32).toInt = 5 := (by decide); omega)
    have q_10 : (fp_10 0 48).toInt = 5 := (congrArg Int32.toInt (show fp_10 0 48 = 5 from (Eq.trans ev_2.symm c_9))).trans (by decide)
    have q_11 : (fp_10 0 48).toInt = 5 := (congrArg Int32.toInt (show fp_10 0 48 = 5 from (Eq.trans ev_2.symm c_9))).trans (by decide)
    refine sg_callv (va_runV (As := [.int 40]) (rest := []) ⟨hx, hb, hml, hown, hts⟩ (kX12_begins_40_f5 l D ca za h hh fp_10 L Q hI (Eq.trans ev_2.symm c_9) (by have k0 : (40 : Int32).toInt = 40 := (by decide); omega) H.size) (cwV 1 hts (gw_V (fun _ h => List.mem_cons_of_mem _ h) mw_734 mw_735 mw_736 mw_619 mw_733) rfl rfl rfl (by decide +kernel) ⟨Nat.le_of_ble_eq_true rfl, Nat.le_of_ble_eq_true rfl⟩) (sg_preV (ci := 12) (C := RX12) (T := TX12) (N := 55) hA hK hP hS hZ 0 (by decide) rfl rfl) rfl rfl hl.1 rfl (lv_room (Nat.le_of_ble_eq_true rfl)) dX12_slipsAs_13 ⟨Nat.le_refl _, Nat.le_refl _⟩) hA hS (fun f_12 L_13 Q_14 H locs hq hP hS => ?_)
    obtain ⟨⟨hI, hk_f_12, eL9, eQ9⟩, p_15⟩ := hq
    rw [eL9, eQ9] at hP; clear eL9 eQ9
    have hF : sgK WkX12_slipsAs_3_f5_f3 f f_12 := sgK.tr hF hk_f_12 (by decide)
    obtain ⟨v_16, ev_16⟩ : ∃ z : Int32, z = f_12 0 48 := ⟨_, rfl⟩
    have q_17 : 0 ≤ v_16.toInt ∧ v_16.toInt ≤ 19 := by rw [ev_16]; exact hI 0 48
    have q_18 : (f_12 0 48).toInt = v_16.toInt := (congrArg Int32.toInt (show f_12 0 48 = v_16 from ev_16.symm))
    have q_19 : (f_12 0 48).toInt = v_16.toInt := (congrArg Int32.toInt (show f_12 0 48 = v_16 from ev_16.symm))
    refine lv_aload_n hx hb dX12_slipsAs_16 rfl (lv_at hl 0 rfl) ?_
    refine lv_iconst (v := 2) hx hb dX12_slipsAs_17 (by decide) ?_
    refine lv_iload_n hx hb dX12_slipsAs_18 rfl (lv_at hl 1 rfl) ?_
    have c_20 : v_16 = 6 := Int32.toInt_inj.mp (by have k9 : (6 : Int32).toInt = 6 := (by decide); omega)
    have q_21 : (f_12 0 48).toInt = 6 := (congrArg Int32.toInt (show f_12 0 48 = 6 from (Eq.trans ev_16.symm c_20))).trans (by decide)
    have q_22 : (f_12 0 48).toInt = 6 := (congrArg Int32.toInt (show f_12 0 48 = 6 from (Eq.trans ev_16.symm c_20))).trans (by decide)
    refine sg_calli (va_runV (As := [.int 2, .int x1]) (rest := []) ⟨hx, hb, hml, hown, hts⟩ (kX12_slipsAs_2_f6_f3 l D ca za h hh f_12 L Q hI x1 (Eq.trans ev_16.symm c_20) ((hk_f_12 0 49 (by decide)).trans m_8) (by omega) (by have k0 : (2 : Int32).toInt = 2 := (by decide); omega) H.size) (cwV 2 hts (gw_V (fun _ h => List.mem_cons_of_mem _ h) mw_748 mw_749 mw_750 mw_619 mw_747) rfl rfl rfl (by decide +kernel) ⟨Nat.le_of_ble_eq_true rfl, Nat.le_of_ble_eq_true rfl⟩) (sg_preV (ci := 12) (C := RX12) (T := TX12) (N := 55) hA hK hP hS hZ 0 (by decide) rfl rfl) rfl rfl hl.1 rfl (lv_room (Nat.le_of_ble_eq_true rfl)) dX12_slipsAs_19 ⟨Nat.le_refl _, Nat.le_refl _⟩) hA hS (fun r_26 f_23 L_24 Q_25 H locs hq hP hS => ?_)
    obtain ⟨⟨hI, hk_f_23, eL9, eQ9⟩, hq, p_27⟩ := hq
    rw [eL9, eQ9] at hP; clear eL9 eQ9
    have hF : sgK WkX12_slipsAs_3_f5_f3 f f_23 := sgK.tr hF hk_f_23 (by decide)
    obtain ⟨v_28, ev_28⟩ : ∃ z : Int32, z = f_23 0 48 := ⟨_, rfl⟩
    have q_29 : 0 ≤ v_28.toInt ∧ v_28.toInt ≤ 19 := by rw [ev_28]; exact hI 0 48
    have q_30 : (f_23 0 48).toInt = v_28.toInt := (congrArg Int32.toInt (show f_23 0 48 = v_28 from ev_28.symm))
    have q_31 : (f_23 0 48).toInt = v_28.toInt := (congrArg Int32.toInt (show f_23 0 48 = v_28 from ev_28.symm))
    have k_32 : (2 : Int32).toInt = 2 := by decide
    refine lv_iconst (v := 3) hx hb dX12_slipsAs_22 (by decide) ?_
    refine lv_imul hx hb dX12_slipsAs_23 ?_
    refine lv_topi (fun v_33 ev_33 => ?_)
    have q_34 : (f_23 0 48).toInt = v_28.toInt := (congrArg Int32.toInt (show f_23 0 48 = v_28 from ev_28.symm))
    have q_35 : (f_23 0 48).toInt = v_28.toInt := (congrArg Int32.toInt (show f_23 0 48 = v_28 from ev_28.symm))
    exact hret _ _ _ _ (v_33) f_23 L Q dX12_slipsAs_24 hP hS ⟨⟨hI, hF, rfl, rfl⟩, trivial, (by omega)⟩
  refine lv_iload_n hx hb dX12_slipsAs_0 rfl (lv_at hl 1 rfl) ?_
  refine lv_iconst (v := 3) hx hb dX12_slipsAs_1 (by decide) ?_
  refine lv_icmp_eq (tgt := 10) hx hb dX12_slipsAs_2 (by decide) (fun c => ?_) (fun c => absurd c (by decide))
  exact blk_10 f _ _ _ (by have zz0_48 : (f 0 48).toInt = 5 := (congrArg Int32.toInt (show f 0 48 = 5 from hf_0_48)).trans (by decide); omega) (by have zz0_49 : (f 0 49).toInt = 3 := (congrArg Int32.toInt (show f 0 49 = 3 from hf_0_49)).trans (by decide); omega) hI hF hP hS (lv_sub hl [0, 2] rfl)

abbrev WkX12_tellsAs_3_f0_f3 : List (Nat × Nat × Option Nat) := [(0, 0, some 48), (21, 21, none)]
set_option maxHeartbeats 4000000 in
set_option maxRecDepth 100000 in
theorem kX12_tellsAs_3_f0_f3 (l : Launch) (D : va_G) (ca : Nat → ClassId) (za h : Nat → Nat) (hh : sgH 26 h) (f : sg_F) (L : sg_L) (Q : sg_Q) (hI : sgI loM hiM f) (x1 : Int32) (hf_0_48 : f 0 48 = 0) (hf_0_49 : f 0 49 = 3) (p0 : 0 ≤ (f 0 48).toInt ∧ (f 0 48).toInt ≤ 0) (sz : Nat) : Met l yX12_tellsAs gwX12_tellsAs { frames := 5, cells := 0, slots := 0, locals := 112 } (sgP D vwCl (tyX ca) 26 h (eM ca h) zcM za f L Q sz [.ref (h 0), .int 3, .int x1]) (sgQi D vwCl 26 h (eM ca h) sz (fun r f1 L1 Q1 => ((sgI loM hiM f1 ∧ sgK WkX12_tellsAs_3_f0_f3 f f1 ∧ L1 = L ∧ Q1 = Q) ∧ True ∧ (7 ≤ (f1 0 48).toInt ∧ (f1 0 48).toInt ≤ 7)))) 0 0 (sgA 26 h sz) := by
  refine sg_ofWi (cc := cX12_tellsAs) (maxL := 4) RX12 (by decide) rfl rfl (Nat.le_of_ble_eq_true rfl) ?_
  intro p e s m below meth cd Qz ls hx hb hml hown hts hK hZ hP hS hl hret
  have hA := sgY.self (n := 26) (h := h) (sz := s.heap.size)
  have hl : lv_has ls 4 [(0, .ref (h 0)), (1, .int 3), (2, .int x1)] := hl
  obtain ⟨H, hH⟩ : ∃ z : Heap, z = s.heap := ⟨_, rfl⟩
  obtain ⟨locs, hlo⟩ : ∃ z : List Loc, z = [] := ⟨_, rfl⟩
  have hP : va_P D vwCl (sgw 26 h (eM ca h) f L Q) H := by rw [hH]; exact hP
  have hS : va_S (sgA 26 h s.heap.size) s.heap H locs := by rw [hH, hlo]; exact hS
  suffices hgo : W p l e ({ frames := 5, cells := 0, slots := 0, locals := 112 }) s m ([.ref (h 0), .int 3, .int x1] : List Value).toArray below meth cd H locs 0 0 Qz (F0 m 0 ls []) by rw [hH, hlo] at hgo; exact hgo
  clear hH hlo
  have o_1 : (f 0 48).toInt = 0 := (congrArg Int32.toInt (show f 0 48 = 0 from hf_0_48)).trans (by decide)
  have hF : sgK WkX12_tellsAs_3_f0_f3 f f := sgK.rf
  refine lv_iload_n hx hb dX12_tellsAs_0 rfl (lv_at hl 1 rfl) ?_
  refine lv_iconst (v := 5) hx hb dX12_tellsAs_1 (by decide) ?_
  refine lv_icmp_ne (tgt := 20) hx hb dX12_tellsAs_2 (by decide) (fun c => ?_) (fun c => absurd c (by decide))
  refine lv_iload_n hx hb dX12_tellsAs_20 rfl (lv_at hl 1 rfl) ?_
  refine lv_bipush (v := 7) hx hb dX12_tellsAs_21 (by decide) ?_
  refine lv_icmp_ne (tgt := 41) hx hb dX12_tellsAs_23 (by decide) (fun c => ?_) (fun c => absurd c (by decide))
  refine lv_aload_n hx hb dX12_tellsAs_41 rfl (lv_at hl 0 rfl) ?_
  refine lv_iconst (v := 2) hx hb dX12_tellsAs_42 (by decide) ?_
  have q_2 : (f 0 48).toInt = 0 := (congrArg Int32.toInt (show f 0 48 = 0 from hf_0_48)).trans (by decide)
  have q_3 : (f 0 48).toInt = 0 := (congrArg Int32.toInt (show f 0 48 = 0 from hf_0_48)).trans (by decide)
  refine sg_callv (va_runV (As := [.int 2]) (rest := []) ⟨hx, hb, hml, hown, hts⟩ (kX12_begins_2_f0 l D ca za h hh f L Q hI hf_0_48 (by have k0 : (2 : Int32).toInt = 2 := (by decide); omega) H.size) (cwV 1 hts (gw_V (fun _ h => List.mem_cons_of_mem _ h) mw_734 mw_735 mw_736 mw_619 mw_733) rfl rfl rfl (by decide +kernel) ⟨Nat.le_of_ble_eq_true rfl, Nat.le_of_ble_eq_true rfl⟩) (sg_preV (ci := 12) (C := RX12) (T := TX12) (N := 55) hA hK hP hS hZ 0 (by decide) rfl rfl) rfl rfl hl.1 rfl (lv_room (Nat.le_of_ble_eq_true rfl)) dX12_tellsAs_43 ⟨Nat.le_refl _, Nat.le_refl _⟩) hA hS (fun f_4 L_5 Q_6 H locs hq hP hS => ?_)
  obtain ⟨⟨hI, hk_f_4, eL9, eQ9⟩, p_7⟩ := hq
  rw [eL9, eQ9] at hP; clear eL9 eQ9
  have hF : sgK WkX12_tellsAs_3_f0_f3 f f_4 := sgK.tr hF hk_f_4 (by decide)
  obtain ⟨v_8, ev_8⟩ : ∃ z : Int32, z = f_4 0 48 := ⟨_, rfl⟩
  have q_9 : 0 ≤ v_8.toInt ∧ v_8.toInt ≤ 19 := by rw [ev_8]; exact hI 0 48
  have q_10 : (f_4 0 48).toInt = v_8.toInt := (congrArg Int32.toInt (show f_4 0 48 = v_8 from ev_8.symm))
  have q_11 : (f_4 0 48).toInt = v_8.toInt := (congrArg Int32.toInt (show f_4 0 48 = v_8 from ev_8.symm))
  refine lv_aload_n hx hb dX12_tellsAs_46 rfl (lv_at hl 0 rfl) ?_
  refine lv_aload_n hx hb dX12_tellsAs_47 rfl (lv_at hl 0 rfl) ?_
  refine sg_get (ci := 12) (v := .int 3) (C := RX12) (T := TX12) (N := 55) hx hb hts (fun w h => List.mem_cons_of_mem _ (gx_12 w h)) hown hK hP 0 (by decide) rfl rfl 49 (by decide) (hts _ (List.mem_cons_of_mem _ mw_679)) (fun _ h9 => h9) (congrArg (fun z => some (Value.int z)) (show f_4 0 49 = 3 from ((hk_f_4 0 49 (by decide)).trans hf_0_49))) dX12_tellsAs_48 ?_
  refine lv_iload_n hx hb dX12_tellsAs_51 rfl (lv_at hl 2 rfl) ?_
  have c_12 : v_8 = 1 := Int32.toInt_inj.mp (by have k9 : (1 : Int32).toInt = 1 := (by decide); omega)
  have q_13 : (f_4 0 48).toInt = 1 := (congrArg Int32.toInt (show f_4 0 48 = 1 from (Eq.trans ev_8.symm c_12))).trans (by decide)
  have q_14 : (f_4 0 48).toInt = 1 := (congrArg Int32.toInt (show f_4 0 48 = 1 from (Eq.trans ev_8.symm c_12))).trans (by decide)
  refine sg_calli (va_runV (As := [.int 3, .int x1]) (rest := []) ⟨hx, hb, hml, hown, hts⟩ (kX12_sitsAs_3_f1_f3 l D ca za h hh f_4 L Q hI x1 (Eq.trans ev_8.symm c_12) ((hk_f_4 0 49 (by decide)).trans hf_0_49) (by have k0 : (3 : Int32).toInt = 3 := (by decide); omega) H.size) (cwV 2 hts (gw_V (fun _ h => List.mem_cons_of_mem _ h) mw_801 mw_802 mw_803 mw_619 mw_800) rfl rfl rfl (by decide +kernel) ⟨Nat.le_of_ble_eq_true rfl, Nat.le_of_ble_eq_true rfl⟩) (sg_preV (ci := 12) (C := RX12) (T := TX12) (N := 55) hA hK hP hS hZ 0 (by decide) rfl rfl) rfl rfl hl.1 rfl (lv_room (Nat.le_of_ble_eq_true rfl)) dX12_tellsAs_52 ⟨Nat.le_refl _, Nat.le_refl _⟩) hA hS (fun r_18 f_15 L_16 Q_17 H locs hq hP hS => ?_)
  obtain ⟨⟨hI, hk_f_15, eL9, eQ9⟩, hq, p_19⟩ := hq
  rw [eL9, eQ9] at hP; clear eL9 eQ9
  have hF : sgK WkX12_tellsAs_3_f0_f3 f f_15 := sgK.tr hF hk_f_15 (by decide)
  obtain ⟨v_20, ev_20⟩ : ∃ z : Int32, z = f_15 0 48 := ⟨_, rfl⟩
  have q_21 : 0 ≤ v_20.toInt ∧ v_20.toInt ≤ 19 := by rw [ev_20]; exact hI 0 48
  have q_22 : (f_15 0 48).toInt = v_20.toInt := (congrArg Int32.toInt (show f_15 0 48 = v_20 from ev_20.symm))
  have q_23 : (f_15 0 48).toInt = v_20.toInt := (congrArg Int32.toInt (show f_15 0 48 = v_20 from ev_20.symm))
  have k_24 : (3 : Int32).toInt = 3 := by decide
  refine lv_istore_n (lv' := [(3, .int r_18), (0, .ref (h 0)), (1, .int 3), (2, .int x1)]) hx hb dX12_tellsAs_55 rfl hl (by decide) rfl (fun ls hl => ?_)
  refine lv_iload_n hx hb dX12_tellsAs_56 rfl (lv_at hl 0 rfl) ?_
  refine lv_aload_n hx hb dX12_tellsAs_57 rfl (lv_at hl 1 rfl) ?_
  refine lv_aload_n hx hb dX12_tellsAs_58 rfl (lv_at hl 1 rfl) ?_
  refine sg_get (ci := 12) (v := .int 3) (C := RX12) (T := TX12) (N := 55) hx hb hts (fun w h => List.mem_cons_of_mem _ (gx_12 w h)) hown hK hP 0 (by decide) rfl rfl 49 (by decide) (hts _ (List.mem_cons_of_mem _ mw_679)) (fun _ h9 => h9) (congrArg (fun z => some (Value.int z)) (show f_15 0 49 = 3 from ((hk_f_15 0 49 (by decide)).trans ((hk_f_4 0 49 (by decide)).trans hf_0_49)))) dX12_tellsAs_59 ?_
  refine lv_iconst (v := 1) hx hb dX12_tellsAs_62 (by decide) ?_
  have c_25 : v_20 = 5 := Int32.toInt_inj.mp (by have k9 : (5 : Int32).toInt = 5 := (by decide); omega)
  have q_26 : (f_15 0 48).toInt = 5 := (congrArg Int32.toInt (show f_15 0 48 = 5 from (Eq.trans ev_20.symm c_25))).trans (by decide)
  have q_27 : (f_15 0 48).toInt = 5 := (congrArg Int32.toInt (show f_15 0 48 = 5 from (Eq.trans ev_20.symm c_25))).trans (by decide)
  refine sg_calli (va_runV (As := [.int 3, .int 1]) (rest := [.int r_18]) ⟨hx, hb, hml, hown, hts⟩ (kX12_slipsAs_3_f5_f3 l D ca za h hh f_15 L Q hI 1 (Eq.trans ev_20.symm c_25) ((hk_f_15 0 49 (by decide)).trans ((hk_f_4 0 49 (by decide)).trans hf_0_49)) (by decide) (by have k0 : (3 : Int32).toInt = 3 := (by decide); have k1 : (1 : Int32).toInt = 1 := (by decide); omega) H.size) (cwV 2 hts (gw_V (fun _ h => List.mem_cons_of_mem _ h) mw_748 mw_749 mw_750 mw_619 mw_747) rfl rfl rfl (by decide +kernel) ⟨Nat.le_of_ble_eq_true rfl, Nat.le_of_ble_eq_true rfl⟩) (sg_preV (ci := 12) (C := RX12) (T := TX12) (N := 55) hA hK hP hS hZ 0 (by decide) rfl rfl) rfl rfl hl.1 rfl (lv_room (Nat.le_of_ble_eq_true rfl)) dX12_tellsAs_63 ⟨Nat.le_refl _, Nat.le_refl _⟩) hA hS (fun r_31 f_28 L_29 Q_30 H locs hq hP hS => ?_)
  obtain ⟨⟨hI, hk_f_28, eL9, eQ9⟩, hq, p_32⟩ := hq
  rw [eL9, eQ9] at hP; clear eL9 eQ9
  have hF : sgK WkX12_tellsAs_3_f0_f3 f f_28 := sgK.tr hF hk_f_28 (by decide)
  obtain ⟨v_33, ev_33⟩ : ∃ z : Int32, z = f_28 0 48 := ⟨_, rfl⟩
  have q_34 : 0 ≤ v_33.toInt ∧ v_33.toInt ≤ 19 := by rw [ev_33]; exact hI 0 48
  have q_35 : (f_28 0 48).toInt = v_33.toInt := (congrArg Int32.toInt (show f_28 0 48 = v_33 from ev_33.symm))
  have q_36 : (f_28 0 48).toInt = v_33.toInt := (congrArg Int32.toInt (show f_28 0 48 = v_33 from ev_33.symm))
  have k_37 : (3 : Int32).toInt = 3 := by decide
  have k_38 : (1 : Int32).toInt = 1 := by decide
  refine lv_isub hx hb dX12_tellsAs_66 ?_
  refine lv_topi (fun v_39 ev_39 => ?_)
  have q_40 : (f_28 0 48).toInt = v_33.toInt := (congrArg Int32.toInt (show f_28 0 48 = v_33 from ev_33.symm))
  have q_41 : (f_28 0 48).toInt = v_33.toInt := (congrArg Int32.toInt (show f_28 0 48 = v_33 from ev_33.symm))
  exact hret _ _ _ _ (v_39) f_28 L Q dX12_tellsAs_67 hP hS ⟨⟨hI, hF, rfl, rfl⟩, trivial, (by omega)⟩

abbrev WkX12_sitsAs_4_f1_f4 : List (Nat × Nat × Option Nat) := [(0, 0, some 48), (21, 21, none)]
set_option maxHeartbeats 4000000 in
set_option maxRecDepth 100000 in
theorem kX12_sitsAs_4_f1_f4 (l : Launch) (D : va_G) (ca : Nat → ClassId) (za h : Nat → Nat) (hh : sgH 26 h) (f : sg_F) (L : sg_L) (Q : sg_Q) (hI : sgI loM hiM f) (x1 : Int32) (hf_0_48 : f 0 48 = 1) (hf_0_49 : f 0 49 = 4) (p0 : 1 ≤ (f 0 48).toInt ∧ (f 0 48).toInt ≤ 1) (sz : Nat) : Met l yX12_sitsAs gwX12_sitsAs { frames := 3, cells := 0, slots := 0, locals := 65 } (sgP D vwCl (tyX ca) 26 h (eM ca h) zcM za f L Q sz [.ref (h 0), .int 4, .int x1]) (sgQi D vwCl 26 h (eM ca h) sz (fun r f1 L1 Q1 => ((sgI loM hiM f1 ∧ sgK WkX12_sitsAs_4_f1_f4 f f1 ∧ L1 = L ∧ Q1 = Q) ∧ True ∧ (4 ≤ (f1 0 48).toInt ∧ (f1 0 48).toInt ≤ 4)))) 0 0 (sgA 26 h sz) := by
  refine sg_ofWi (cc := cX12_sitsAs) (maxL := 4) RX12 (by decide) rfl rfl (Nat.le_of_ble_eq_true rfl) ?_
  intro p e s m below meth cd Qz ls hx hb hml hown hts hK hZ hP hS hl hret
  have hA := sgY.self (n := 26) (h := h) (sz := s.heap.size)
  have hl : lv_has ls 4 [(0, .ref (h 0)), (1, .int 4), (2, .int x1)] := hl
  obtain ⟨H, hH⟩ : ∃ z : Heap, z = s.heap := ⟨_, rfl⟩
  obtain ⟨locs, hlo⟩ : ∃ z : List Loc, z = [] := ⟨_, rfl⟩
  have hP : va_P D vwCl (sgw 26 h (eM ca h) f L Q) H := by rw [hH]; exact hP
  have hS : va_S (sgA 26 h s.heap.size) s.heap H locs := by rw [hH, hlo]; exact hS
  suffices hgo : W p l e ({ frames := 3, cells := 0, slots := 0, locals := 65 }) s m ([.ref (h 0), .int 4, .int x1] : List Value).toArray below meth cd H locs 0 0 Qz (F0 m 0 ls []) by rw [hH, hlo] at hgo; exact hgo
  clear hH hlo
  have o_1 : (f 0 48).toInt = 1 := (congrArg Int32.toInt (show f 0 48 = 1 from hf_0_48)).trans (by decide)
  have hF : sgK WkX12_sitsAs_4_f1_f4 f f := sgK.rf
  refine lv_iload_n hx hb dX12_sitsAs_0 rfl (lv_at hl 1 rfl) ?_
  refine lv_iconst (v := 3) hx hb dX12_sitsAs_1 (by decide) ?_
  refine lv_icmp_eq (tgt := 10) hx hb dX12_sitsAs_2 (by decide) (fun c => absurd c (by decide)) (fun c => ?_)
  refine lv_iload_n hx hb dX12_sitsAs_5 rfl (lv_at hl 1 rfl) ?_
  refine lv_iconst (v := 5) hx hb dX12_sitsAs_6 (by decide) ?_
  refine lv_icmp_ne (tgt := 25) hx hb dX12_sitsAs_7 (by decide) (fun c => ?_) (fun c => absurd c (by decide))
  refine lv_iload_n hx hb dX12_sitsAs_25 rfl (lv_at hl 1 rfl) ?_
  refine lv_iconst (v := 2) hx hb dX12_sitsAs_26 (by decide) ?_
  refine lv_icmp_ne (tgt := 44) hx hb dX12_sitsAs_27 (by decide) (fun c => ?_) (fun c => absurd c (by decide))
  refine lv_iload_n hx hb dX12_sitsAs_44 rfl (lv_at hl 1 rfl) ?_
  refine lv_bipush (v := 7) hx hb dX12_sitsAs_45 (by decide) ?_
  refine lv_icmp_ne (tgt := 75) hx hb dX12_sitsAs_47 (by decide) (fun c => ?_) (fun c => absurd c (by decide))
  refine lv_aload_n hx hb dX12_sitsAs_75 rfl (lv_at hl 0 rfl) ?_
  refine lv_bipush (v := 10) hx hb dX12_sitsAs_76 (by decide) ?_
  have q_2 : (f 0 48).toInt = 1 := (congrArg Int32.toInt (show f 0 48 = 1 from hf_0_48)).trans (by decide)
  have q_3 : (f 0 48).toInt = 1 := (congrArg Int32.toInt (show f 0 48 = 1 from hf_0_48)).trans (by decide)
  refine sg_callv (va_runV (As := [.int 10]) (rest := []) ⟨hx, hb, hml, hown, hts⟩ (kX12_begins_10_f1 l D ca za h hh f L Q hI hf_0_48 (by have k0 : (10 : Int32).toInt = 10 := (by decide); omega) H.size) (cwV 1 hts (gw_V (fun _ h => List.mem_cons_of_mem _ h) mw_734 mw_735 mw_736 mw_619 mw_733) rfl rfl rfl (by decide +kernel) ⟨Nat.le_of_ble_eq_true rfl, Nat.le_of_ble_eq_true rfl⟩) (sg_preV (ci := 12) (C := RX12) (T := TX12) (N := 55) hA hK hP hS hZ 0 (by decide) rfl rfl) rfl rfl hl.1 rfl (lv_room (Nat.le_of_ble_eq_true rfl)) dX12_sitsAs_78 ⟨Nat.le_refl _, Nat.le_refl _⟩) hA hS (fun f_4 L_5 Q_6 H locs hq hP hS => ?_)
  obtain ⟨⟨hI, hk_f_4, eL9, eQ9⟩, p_7⟩ := hq
  rw [eL9, eQ9] at hP; clear eL9 eQ9
  have hF : sgK WkX12_sitsAs_4_f1_f4 f f_4 := sgK.tr hF hk_f_4 (by decide)
  obtain ⟨v_8, ev_8⟩ : ∃ z : Int32, z = f_4 0 48 := ⟨_, rfl⟩
  have q_9 : 0 ≤ v_8.toInt ∧ v_8.toInt ≤ 19 := by rw [ev_8]; exact hI 0 48
  have q_10 : (f_4 0 48).toInt = v_8.toInt := (congrArg Int32.toInt (show f_4 0 48 = v_8 from ev_8.symm))
  have q_11 : (f_4 0 48).toInt = v_8.toInt := (congrArg Int32.toInt (show f_4 0 48 = v_8 from ev_8.symm))
  refine lv_aload_n hx hb dX12_sitsAs_81 rfl (lv_at hl 0 rfl) ?_
  refine lv_aload_n hx hb dX12_sitsAs_82 rfl (lv_at hl 0 rfl) ?_
  refine sg_get (ci := 12) (v := .int 4) (C := RX12) (T := TX12) (N := 55) hx hb hts (fun w h => List.mem_cons_of_mem _ (gx_12 w h)) hown hK hP 0 (by decide) rfl rfl 49 (by decide) (hts _ (List.mem_cons_of_mem _ mw_679)) (fun _ h9 => h9) (congrArg (fun z => some (Value.int z)) (show f_4 0 49 = 4 from ((hk_f_4 0 49 (by decide)).trans hf_0_49))) dX12_sitsAs_83 ?_
  refine lv_iload_n hx hb dX12_sitsAs_86 rfl (lv_at hl 2 rfl) ?_
  have c_12 : v_8 = 2 := Int32.toInt_inj.mp (by have k9 : (2 : Int32).toInt = 2 := (by decide); omega)
  have q_13 : (f_4 0 48).toInt = 2 := (congrArg Int32.toInt (show f_4 0 48 = 2 from (Eq.trans ev_8.symm c_12))).trans (by decide)
  have q_14 : (f_4 0 48).toInt = 2 := (congrArg Int32.toInt (show f_4 0 48 = 2 from (Eq.trans ev_8.symm c_12))).trans (by decide)
  refine sg_calli (va_runV (As := [.int 4, .int x1]) (rest := []) ⟨hx, hb, hml, hown, hts⟩ (kX12_setsAs_4_f2_f4 l D ca za h hh f_4 L Q hI x1 (Eq.trans ev_8.symm c_12) ((hk_f_4 0 49 (by decide)).trans hf_0_49) (by have k0 : (4 : Int32).toInt = 4 := (by decide); omega) H.size) (cwV 2 hts (gw_V (fun _ h => List.mem_cons_of_mem _ h) mw_744 mw_745 mw_746 mw_619 mw_743) rfl rfl rfl (by decide +kernel) ⟨Nat.le_of_ble_eq_true rfl, Nat.le_of_ble_eq_true rfl⟩) (sg_preV (ci := 12) (C := RX12) (T := TX12) (N := 55) hA hK hP hS hZ 0 (by decide) rfl rfl) rfl rfl hl.1 rfl (lv_room (Nat.le_of_ble_eq_true rfl)) dX12_sitsAs_87 ⟨Nat.le_refl _, Nat.le_refl _⟩) hA hS (fun r_18 f_15 L_16 Q_17 H locs hq hP hS => ?_)
  obtain ⟨⟨hI, hk_f_15, eL9, eQ9⟩, hq, p_19⟩ := hq
  rw [eL9, eQ9] at hP; clear eL9 eQ9
  have hF : sgK WkX12_sitsAs_4_f1_f4 f f_15 := sgK.tr hF hk_f_15 (by decide)
  obtain ⟨v_20, ev_20⟩ : ∃ z : Int32, z = f_15 0 48 := ⟨_, rfl⟩
  have q_21 : 0 ≤ v_20.toInt ∧ v_20.toInt ≤ 19 := by rw [ev_20]; exact hI 0 48
  have q_22 : (f_15 0 48).toInt = v_20.toInt := (congrArg Int32.toInt (show f_15 0 48 = v_20 from ev_20.symm))
  have q_23 : (f_15 0 48).toInt = v_20.toInt := (congrArg Int32.toInt (show f_15 0 48 = v_20 from ev_20.symm))
  have k_24 : (4 : Int32).toInt = 4 := by decide
  refine lv_iconst (v := 2) hx hb dX12_sitsAs_90 (by decide) ?_
  refine lv_imul hx hb dX12_sitsAs_91 ?_
  refine lv_topi (fun v_25 ev_25 => ?_)
  have q_26 : (f_15 0 48).toInt = v_20.toInt := (congrArg Int32.toInt (show f_15 0 48 = v_20 from ev_20.symm))
  have q_27 : (f_15 0 48).toInt = v_20.toInt := (congrArg Int32.toInt (show f_15 0 48 = v_20 from ev_20.symm))
  exact hret _ _ _ _ (v_25) f_15 L Q dX12_sitsAs_92 hP hS ⟨⟨hI, hF, rfl, rfl⟩, trivial, (by omega)⟩

abbrev WkX12_slipsAs_1_f5_f4 : List (Nat × Nat × Option Nat) := [(0, 0, some 48), (21, 21, none)]
set_option maxHeartbeats 4000000 in
set_option maxRecDepth 100000 in
theorem kX12_slipsAs_1_f5_f4 (l : Launch) (D : va_G) (ca : Nat → ClassId) (za h : Nat → Nat) (hh : sgH 26 h) (f : sg_F) (L : sg_L) (Q : sg_Q) (hI : sgI loM hiM f) (x1 : Int32) (hf_0_48 : f 0 48 = 5) (hf_0_49 : f 0 49 = 4) (b1 : 1 ≤ x1.toInt ∧ x1.toInt ≤ 1) (p0 : 5 ≤ (f 0 48).toInt ∧ (f 0 48).toInt ≤ 5) (sz : Nat) : Met l yX12_slipsAs gwX12_slipsAs { frames := 1, cells := 0, slots := 0, locals := 21 } (sgP D vwCl (tyX ca) 26 h (eM ca h) zcM za f L Q sz [.ref (h 0), .int 1, .int x1]) (sgQi D vwCl 26 h (eM ca h) sz (fun r f1 L1 Q1 => ((sgI loM hiM f1 ∧ sgK WkX12_slipsAs_1_f5_f4 f f1 ∧ L1 = L ∧ Q1 = Q) ∧ True ∧ (6 ≤ (f1 0 48).toInt ∧ (f1 0 48).toInt ≤ 6)))) 0 0 (sgA 26 h sz) := by
  refine sg_ofWi (cc := cX12_slipsAs) (maxL := 4) RX12 (by decide) rfl rfl (Nat.le_of_ble_eq_true rfl) ?_
  intro p e s m below meth cd Qz ls hx hb hml hown hts hK hZ hP hS hl hret
  have hA := sgY.self (n := 26) (h := h) (sz := s.heap.size)
  have hl : lv_has ls 4 [(0, .ref (h 0)), (1, .int 1), (2, .int x1)] := hl
  obtain ⟨H, hH⟩ : ∃ z : Heap, z = s.heap := ⟨_, rfl⟩
  obtain ⟨locs, hlo⟩ : ∃ z : List Loc, z = [] := ⟨_, rfl⟩
  have hP : va_P D vwCl (sgw 26 h (eM ca h) f L Q) H := by rw [hH]; exact hP
  have hS : va_S (sgA 26 h s.heap.size) s.heap H locs := by rw [hH, hlo]; exact hS
  suffices hgo : W p l e ({ frames := 1, cells := 0, slots := 0, locals := 21 }) s m ([.ref (h 0), .int 1, .int x1] : List Value).toArray below meth cd H locs 0 0 Qz (F0 m 0 ls []) by rw [hH, hlo] at hgo; exact hgo
  clear hH hlo
  have o_1 : (f 0 48).toInt = 5 := (congrArg Int32.toInt (show f 0 48 = 5 from hf_0_48)).trans (by decide)
  have hF : sgK WkX12_slipsAs_1_f5_f4 f f := sgK.rf
  refine lv_iload_n hx hb dX12_slipsAs_0 rfl (lv_at hl 1 rfl) ?_
  refine lv_iconst (v := 3) hx hb dX12_slipsAs_1 (by decide) ?_
  refine lv_icmp_eq (tgt := 10) hx hb dX12_slipsAs_2 (by decide) (fun c => absurd c (by decide)) (fun c => ?_)
  refine lv_iload_n hx hb dX12_slipsAs_5 rfl (lv_at hl 1 rfl) ?_
  refine lv_iconst (v := 5) hx hb dX12_slipsAs_6 (by decide) ?_
  refine lv_icmp_ne (tgt := 25) hx hb dX12_slipsAs_7 (by decide) (fun c => ?_) (fun c => absurd c (by decide))
  refine lv_iload_n hx hb dX12_slipsAs_25 rfl (lv_at hl 1 rfl) ?_
  refine lv_iconst (v := 4) hx hb dX12_slipsAs_26 (by decide) ?_
  refine lv_icmp_eq (tgt := 36) hx hb dX12_slipsAs_27 (by decide) (fun c => absurd c (by decide)) (fun c => ?_)
  refine lv_iload_n hx hb dX12_slipsAs_30 rfl (lv_at hl 1 rfl) ?_
  refine lv_bipush (v := 7) hx hb dX12_slipsAs_31 (by decide) ?_
  refine lv_icmp_ne (tgt := 61) hx hb dX12_slipsAs_33 (by decide) (fun c => ?_) (fun c => absurd c (by decide))
  refine lv_aload_n hx hb dX12_slipsAs_61 rfl (lv_at hl 0 rfl) ?_
  refine lv_bipush (v := 11) hx hb dX12_slipsAs_62 (by decide) ?_
  have q_2 : (f 0 48).toInt = 5 := (congrArg Int32.toInt (show f 0 48 = 5 from hf_0_48)).trans (by decide)
  have q_3 : (f 0 48).toInt = 5 := (congrArg Int32.toInt (show f 0 48 = 5 from hf_0_48)).trans (by decide)
  refine sg_callv (va_runV (As := [.int 11]) (rest := []) ⟨hx, hb, hml, hown, hts⟩ (kX12_begins_11_f5 l D ca za h hh f L Q hI hf_0_48 (by have k0 : (11 : Int32).toInt = 11 := (by decide); omega) H.size) (cwV 1 hts (gw_V (fun _ h => List.mem_cons_of_mem _ h) mw_734 mw_735 mw_736 mw_619 mw_733) rfl rfl rfl (by decide +kernel) ⟨Nat.le_of_ble_eq_true rfl, Nat.le_of_ble_eq_true rfl⟩) (sg_preV (ci := 12) (C := RX12) (T := TX12) (N := 55) hA hK hP hS hZ 0 (by decide) rfl rfl) rfl rfl hl.1 rfl (lv_room (Nat.le_of_ble_eq_true rfl)) dX12_slipsAs_64 ⟨Nat.le_refl _, Nat.le_refl _⟩) hA hS (fun f_4 L_5 Q_6 H locs hq hP hS => ?_)
  obtain ⟨⟨hI, hk_f_4, eL9, eQ9⟩, p_7⟩ := hq
  rw [eL9, eQ9] at hP; clear eL9 eQ9
  have hF : sgK WkX12_slipsAs_1_f5_f4 f f_4 := sgK.tr hF hk_f_4 (by decide)
  obtain ⟨v_8, ev_8⟩ : ∃ z : Int32, z = f_4 0 48 := ⟨_, rfl⟩
  have q_9 : 0 ≤ v_8.toInt ∧ v_8.toInt ≤ 19 := by rw [ev_8]; exact hI 0 48
  have q_10 : (f_4 0 48).toInt = v_8.toInt := (congrArg Int32.toInt (show f_4 0 48 = v_8 from ev_8.symm))
  have q_11 : (f_4 0 48).toInt = v_8.toInt := (congrArg Int32.toInt (show f_4 0 48 = v_8 from ev_8.symm))
  refine lv_iload_n hx hb dX12_slipsAs_67 rfl (lv_at hl 2 rfl) ?_
  refine lv_aload_n hx hb dX12_slipsAs_68 rfl (lv_at hl 0 rfl) ?_
  refine sg_get (ci := 12) (v := .int (f_4 0 50)) (C := RX12) (T := TX12) (N := 55) hx hb hts (fun w h => List.mem_cons_of_mem _ (gx_12 w h)) hown hK hP 0 (by decide) rfl rfl 50 (by decide) (hts _ (List.mem_cons_of_mem _ mw_680)) (fun _ h9 => h9) rfl dX12_slipsAs_69 ?_
  refine lv_topi (fun v_12 ev_12 => ?_)
  have q_13 : 0 ≤ v_12.toInt ∧ v_12.toInt ≤ 49 := by rw [ev_12]; exact hI 0 50
  refine lv_ixor hx hb dX12_slipsAs_72 ?_
  refine lv_topi (fun v_14 ev_14 => ?_)
  have q_15 : (f_4 0 48).toInt = v_8.toInt := (congrArg Int32.toInt (show f_4 0 48 = v_8 from ev_8.symm))
  have q_16 : (f_4 0 48).toInt = v_8.toInt := (congrArg Int32.toInt (show f_4 0 48 = v_8 from ev_8.symm))
  exact hret _ _ _ _ (v_14) f_4 L Q dX12_slipsAs_73 hP hS ⟨⟨hI, hF, rfl, rfl⟩, trivial, (by omega)⟩

abbrev WkX12_setsAs_0_f7_f4 : List (Nat × Nat × Option Nat) := [(0, 0, some 48), (21, 21, none)]
set_option maxHeartbeats 4000000 in
set_option maxRecDepth 100000 in
theorem kX12_setsAs_0_f7_f4 (l : Launch) (D : va_G) (ca : Nat → ClassId) (za h : Nat → Nat) (hh : sgH 26 h) (f : sg_F) (L : sg_L) (Q : sg_Q) (hI : sgI loM hiM f) (x1 : Int32) (hf_0_48 : f 0 48 = 7) (hf_0_49 : f 0 49 = 4) (b1 : 2 ≤ x1.toInt ∧ x1.toInt ≤ 2) (p0 : 7 ≤ (f 0 48).toInt ∧ (f 0 48).toInt ≤ 7) (sz : Nat) : Met l yX12_setsAs gwX12_setsAs { frames := 1, cells := 0, slots := 0, locals := 21 } (sgP D vwCl (tyX ca) 26 h (eM ca h) zcM za f L Q sz [.ref (h 0), .int 0, .int x1]) (sgQi D vwCl 26 h (eM ca h) sz (fun r f1 L1 Q1 => ((sgI loM hiM f1 ∧ sgK WkX12_setsAs_0_f7_f4 f f1 ∧ L1 = L ∧ Q1 = Q) ∧ (2 ≤ r.toInt ∧ r.toInt ≤ 51) ∧ (8 ≤ (f1 0 48).toInt ∧ (f1 0 48).toInt ≤ 8)))) 0 0 (sgA 26 h sz) := by
  refine sg_ofWi (cc := cX12_setsAs) (maxL := 3) RX12 (by decide) rfl rfl (Nat.le_of_ble_eq_true rfl) ?_
  intro p e s m below meth cd Qz ls hx hb hml hown hts hK hZ hP hS hl hret
  have hA := sgY.self (n := 26) (h := h) (sz := s.heap.size)
  have hl : lv_has ls 3 [(0, .ref (h 0)), (1, .int 0), (2, .int x1)] := hl
  obtain ⟨H, hH⟩ : ∃ z : Heap, z = s.heap := ⟨_, rfl⟩
  obtain ⟨locs, hlo⟩ : ∃ z : List Loc, z = [] := ⟨_, rfl⟩
  have hP : va_P D vwCl (sgw 26 h (eM ca h) f L Q) H := by rw [hH]; exact hP
  have hS : va_S (sgA 26 h s.heap.size) s.heap H locs := by rw [hH, hlo]; exact hS
  suffices hgo : W p l e ({ frames := 1, cells := 0, slots := 0, locals := 21 }) s m ([.ref (h 0), .int 0, .int x1] : List Value).toArray below meth cd H locs 0 0 Qz (F0 m 0 ls []) by rw [hH, hlo] at hgo; exact hgo
  clear hH hlo
  have o_1 : (f 0 48).toInt = 7 := (congrArg Int32.toInt (show f 0 48 = 7 from hf_0_48)).trans (by decide)
  have hF : sgK WkX12_setsAs_0_f7_f4 f f := sgK.rf
  refine lv_iload_n hx hb dX12_setsAs_0 rfl (lv_at hl 1 rfl) ?_
  refine lv_iconst (v := 1) hx hb dX12_setsAs_1 (by decide) ?_
  refine lv_icmp_eq (tgt := 16) hx hb dX12_setsAs_2 (by decide) (fun c => absurd c (by decide)) (fun c => ?_)
  refine lv_iload_n hx hb dX12_setsAs_5 rfl (lv_at hl 1 rfl) ?_
  refine lv_iconst (v := 4) hx hb dX12_setsAs_6 (by decide) ?_
  refine lv_icmp_eq (tgt := 16) hx hb dX12_setsAs_7 (by decide) (fun c => absurd c (by decide)) (fun c => ?_)
  refine lv_iload_n hx hb dX12_setsAs_10 rfl (lv_at hl 1 rfl) ?_
  refine lv_bipush (v := 7) hx hb dX12_setsAs_11 (by decide) ?_
  refine lv_icmp_ne (tgt := 31) hx hb dX12_setsAs_13 (by decide) (fun c => ?_) (fun c => absurd c (by decide))
  refine lv_iload_n hx hb dX12_setsAs_31 rfl (lv_at hl 1 rfl) ?_
  refine lv_bipush (v := 6) hx hb dX12_setsAs_32 (by decide) ?_
  refine lv_icmp_ne (tgt := 52) hx hb dX12_setsAs_34 (by decide) (fun c => ?_) (fun c => absurd c (by decide))
  refine lv_aload_n hx hb dX12_setsAs_52 rfl (lv_at hl 0 rfl) ?_
  refine lv_iconst (v := 1) hx hb dX12_setsAs_53 (by decide) ?_
  have q_2 : (f 0 48).toInt = 7 := (congrArg Int32.toInt (show f 0 48 = 7 from hf_0_48)).trans (by decide)
  have q_3 : (f 0 48).toInt = 7 := (congrArg Int32.toInt (show f 0 48 = 7 from hf_0_48)).trans (by decide)
  refine sg_callv (va_runV (As := [.int 1]) (rest := []) ⟨hx, hb, hml, hown, hts⟩ (kX12_begins_1_f7 l D ca za h hh f L Q hI hf_0_48 (by have k0 : (1 : Int32).toInt = 1 := (by decide); omega) H.size) (cwV 1 hts (gw_V (fun _ h => List.mem_cons_of_mem _ h) mw_734 mw_735 mw_736 mw_619 mw_733) rfl rfl rfl (by decide +kernel) ⟨Nat.le_of_ble_eq_true rfl, Nat.le_of_ble_eq_true rfl⟩) (sg_preV (ci := 12) (C := RX12) (T := TX12) (N := 55) hA hK hP hS hZ 0 (by decide) rfl rfl) rfl rfl hl.1 rfl (lv_room (Nat.le_of_ble_eq_true rfl)) dX12_setsAs_54 ⟨Nat.le_refl _, Nat.le_refl _⟩) hA hS (fun f_4 L_5 Q_6 H locs hq hP hS => ?_)
  obtain ⟨⟨hI, hk_f_4, eL9, eQ9⟩, p_7⟩ := hq
  rw [eL9, eQ9] at hP; clear eL9 eQ9
  have hF : sgK WkX12_setsAs_0_f7_f4 f f_4 := sgK.tr hF hk_f_4 (by decide)
  obtain ⟨v_8, ev_8⟩ : ∃ z : Int32, z = f_4 0 48 := ⟨_, rfl⟩
  have q_9 : 0 ≤ v_8.toInt ∧ v_8.toInt ≤ 19 := by rw [ev_8]; exact hI 0 48
  have q_10 : (f_4 0 48).toInt = v_8.toInt := (congrArg Int32.toInt (show f_4 0 48 = v_8 from ev_8.symm))
  have q_11 : (f_4 0 48).toInt = v_8.toInt := (congrArg Int32.toInt (show f_4 0 48 = v_8 from ev_8.symm))
  refine lv_iload_n hx hb dX12_setsAs_57 rfl (lv_at hl 2 rfl) ?_
  refine lv_aload_n hx hb dX12_setsAs_58 rfl (lv_at hl 0 rfl) ?_
  refine sg_get (ci := 12) (v := .int (f_4 0 50)) (C := RX12) (T := TX12) (N := 55) hx hb hts (fun w h => List.mem_cons_of_mem _ (gx_12 w h)) hown hK hP 0 (by decide) rfl rfl 50 (by decide) (hts _ (List.mem_cons_of_mem _ mw_680)) (fun _ h9 => h9) rfl dX12_setsAs_59 ?_
  refine lv_topi (fun v_12 ev_12 => ?_)
  have q_13 : 0 ≤ v_12.toInt ∧ v_12.toInt ≤ 49 := by rw [ev_12]; exact hI 0 50
  refine lv_iadd hx hb dX12_setsAs_62 ?_
  refine lv_topi (fun v_14 ev_14 => ?_)
  have q_15 : v_14.toInt = x1.toInt + v_12.toInt := by rw [ev_14]; exact (bn_addI (by omega) (by omega)).trans (by omega)
  have q_16 : (f_4 0 48).toInt = v_8.toInt := (congrArg Int32.toInt (show f_4 0 48 = v_8 from ev_8.symm))
  have q_17 : (f_4 0 48).toInt = v_8.toInt := (congrArg Int32.toInt (show f_4 0 48 = v_8 from ev_8.symm))
  exact hret _ _ _ _ (v_14) f_4 L Q dX12_setsAs_63 hP hS ⟨⟨hI, hF, rfl, rfl⟩, (by omega), (by omega)⟩

abbrev WkX12_setsAs_4_f6_f4 : List (Nat × Nat × Option Nat) := [(0, 0, some 48), (21, 21, none)]
set_option maxHeartbeats 4000000 in
set_option maxRecDepth 100000 in
theorem kX12_setsAs_4_f6_f4 (l : Launch) (D : va_G) (ca : Nat → ClassId) (za h : Nat → Nat) (hh : sgH 26 h) (f : sg_F) (L : sg_L) (Q : sg_Q) (hI : sgI loM hiM f) (x1 : Int32) (hf_0_48 : f 0 48 = 6) (hf_0_49 : f 0 49 = 4) (b1 : 2 ≤ x1.toInt ∧ x1.toInt ≤ 2) (p0 : 6 ≤ (f 0 48).toInt ∧ (f 0 48).toInt ≤ 6) (sz : Nat) : Met l yX12_setsAs gwX12_setsAs { frames := 2, cells := 0, slots := 0, locals := 43 } (sgP D vwCl (tyX ca) 26 h (eM ca h) zcM za f L Q sz [.ref (h 0), .int 4, .int x1]) (sgQi D vwCl 26 h (eM ca h) sz (fun r f1 L1 Q1 => ((sgI loM hiM f1 ∧ sgK WkX12_setsAs_4_f6_f4 f f1 ∧ L1 = L ∧ Q1 = Q) ∧ (5 ≤ r.toInt ∧ r.toInt ≤ 54) ∧ (8 ≤ (f1 0 48).toInt ∧ (f1 0 48).toInt ≤ 8)))) 0 0 (sgA 26 h sz) := by
  refine sg_ofWi (cc := cX12_setsAs) (maxL := 3) RX12 (by decide) rfl rfl (Nat.le_of_ble_eq_true rfl) ?_
  intro p e s m below meth cd Qz ls hx hb hml hown hts hK hZ hP hS hl hret
  have hA := sgY.self (n := 26) (h := h) (sz := s.heap.size)
  have hl : lv_has ls 3 [(0, .ref (h 0)), (1, .int 4), (2, .int x1)] := hl
  obtain ⟨H, hH⟩ : ∃ z : Heap, z = s.heap := ⟨_, rfl⟩
  obtain ⟨locs, hlo⟩ : ∃ z : List Loc, z = [] := ⟨_, rfl⟩
  have hP : va_P D vwCl (sgw 26 h (eM ca h) f L Q) H := by rw [hH]; exact hP
  have hS : va_S (sgA 26 h s.heap.size) s.heap H locs := by rw [hH, hlo]; exact hS
  suffices hgo : W p l e ({ frames := 2, cells := 0, slots := 0, locals := 43 }) s m ([.ref (h 0), .int 4, .int x1] : List Value).toArray below meth cd H locs 0 0 Qz (F0 m 0 ls []) by rw [hH, hlo] at hgo; exact hgo
  clear hH hlo
  have o_1 : (f 0 48).toInt = 6 := (congrArg Int32.toInt (show f 0 48 = 6 from hf_0_48)).trans (by decide)
  have hF : sgK WkX12_setsAs_4_f6_f4 f f := sgK.rf
  have blk_16 : ∀ (fp_16 : sg_F) (H : Heap) (locs : List Loc) (ls : Array Slot), 6 ≤ (fp_16 0 48).toInt ∧ (fp_16 0 48).toInt ≤ 6 → 4 ≤ (fp_16 0 49).toInt ∧ (fp_16 0 49).toInt ≤ 4 → sgI loM hiM fp_16 → sgK WkX12_setsAs_4_f6_f4 f fp_16 → va_P D vwCl (sgw 26 h (eM ca h) fp_16 L Q) H → va_S (sgA 26 h s.heap.size) s.heap H locs → lv_has ls 3 [(0, .ref (h 0)), (2, .int x1)] → W p l e ({ frames := 2, cells := 0, slots := 0, locals := 43 }) s m ([.ref (h 0), .int 4, .int x1] : List Value).toArray below meth cd H locs 0 0 Qz (F0 m 16 ls []) := by
    intro fp_16 H locs ls hy0_16 hy1_16 hI hF hP hS hl
    obtain ⟨v_2, ev_2⟩ : ∃ z : Int32, z = fp_16 0 48 := ⟨_, rfl⟩
    have q_3 : 0 ≤ v_2.toInt ∧ v_2.toInt ≤ 19 := by rw [ev_2]; exact hI 0 48
    have q_4 : (fp_16 0 48).toInt = v_2.toInt := by rw [ev_2]
    obtain ⟨v_5, ev_5⟩ : ∃ z : Int32, z = fp_16 0 49 := ⟨_, rfl⟩
    have q_6 : 0 ≤ v_5.toInt ∧ v_5.toInt ≤ 7 := by rw [ev_5]; exact hI 0 49
    have q_7 : (fp_16 0 49).toInt = v_5.toInt := by rw [ev_5]
    have m_8 : fp_16 0 49 = 4 := (hF 0 49 (by decide)).trans hf_0_49
    refine lv_aload_n hx hb dX12_setsAs_16 rfl (lv_at hl 0 rfl) ?_
    refine lv_bipush (v := 20) hx hb dX12_setsAs_17 (by decide) ?_
    have c_9 : v_2 = 6 := Int32.toInt_inj.mp (by have k9 : (6 : Int32).toInt = 6 := (by decide); omega)
    have q_10 : (fp_16 0 48).toInt = 6 := (congrArg Int32.toInt (show fp_16 0 48 = 6 from (Eq.trans ev_2.symm c_9))).trans (by decide)
    have q_11 : (fp_16 0 48).toInt = 6 := (congrArg Int32.toInt (show fp_16 0 48 = 6 from (Eq.trans ev_2.symm c_9))).trans (by decide)
    refine sg_callv (va_runV (As := [.int 20]) (rest := []) ⟨hx, hb, hml, hown, hts⟩ (kX12_begins_20_f6 l D ca za h hh fp_16 L Q hI (Eq.trans ev_2.symm c_9) (by have k0 : (20 : Int32).toInt = 20 := (by decide); omega) H.size) (cwV 1 hts (gw_V (fun _ h => List.mem_cons_of_mem _ h) mw_734 mw_735 mw_736 mw_619 mw_733) rfl rfl rfl (by decide +kernel) ⟨Nat.le_of_ble_eq_true rfl, Nat.le_of_ble_eq_true rfl⟩) (sg_preV (ci := 12) (C := RX12) (T := TX12) (N := 55) hA hK hP hS hZ 0 (by decide) rfl rfl) rfl rfl hl.1 rfl (lv_room (Nat.le_of_ble_eq_true rfl)) dX12_setsAs_19 ⟨Nat.le_refl _, Nat.le_refl _⟩) hA hS (fun f_12 L_13 Q_14 H locs hq hP hS => ?_)
    obtain ⟨⟨hI, hk_f_12, eL9, eQ9⟩, p_15⟩ := hq
    rw [eL9, eQ9] at hP; clear eL9 eQ9
    have hF : sgK WkX12_setsAs_4_f6_f4 f f_12 := sgK.tr hF hk_f_12 (by decide)
    obtain ⟨v_16, ev_16⟩ : ∃ z : Int32, z = f_12 0 48 := ⟨_, rfl⟩
    have q_17 : 0 ≤ v_16.toInt ∧ v_16.toInt ≤ 19 := by rw [ev_16]; exact hI 0 48
    have q_18 : (f_12 0 48).toInt = v_16.toInt := (congrArg Int32.toInt (show f_12 0 48 = v_16 from ev_16.symm))
    have q_19 : (f_12 0 48).toInt = v_16.toInt := (congrArg Int32.toInt (show f_12 0 48 = v_16 from ev_16.symm))
    refine lv_aload_n hx hb dX12_setsAs_22 rfl (lv_at hl 0 rfl) ?_
    refine lv_iconst (v := 0) hx hb dX12_setsAs_23 (by decide) ?_
    refine lv_iload_n hx hb dX12_setsAs_24 rfl (lv_at hl 1 rfl) ?_
    have c_20 : v_16 = 7 := Int32.toInt_inj.mp (by have k9 : (7 : Int32).toInt = 7 := (by decide); omega)
    have q_21 : (f_12 0 48).toInt = 7 := (congrArg Int32.toInt (show f_12 0 48 = 7 from (Eq.trans ev_16.symm c_20))).trans (by decide)
    have q_22 : (f_12 0 48).toInt = 7 := (congrArg Int32.toInt (show f_12 0 48 = 7 from (Eq.trans ev_16.symm c_20))).trans (by decide)
    refine sg_calli (va_runV (As := [.int 0, .int x1]) (rest := []) ⟨hx, hb, hml, hown, hts⟩ (kX12_setsAs_0_f7_f4 l D ca za h hh f_12 L Q hI x1 (Eq.trans ev_16.symm c_20) ((hk_f_12 0 49 (by decide)).trans m_8) (by omega) (by have k0 : (0 : Int32).toInt = 0 := (by decide); omega) H.size) (cwV 2 hts (gw_V (fun _ h => List.mem_cons_of_mem _ h) mw_744 mw_745 mw_746 mw_619 mw_743) rfl rfl rfl (by decide +kernel) ⟨Nat.le_of_ble_eq_true rfl, Nat.le_of_ble_eq_true rfl⟩) (sg_preV (ci := 12) (C := RX12) (T := TX12) (N := 55) hA hK hP hS hZ 0 (by decide) rfl rfl) rfl rfl hl.1 rfl (lv_room (Nat.le_of_ble_eq_true rfl)) dX12_setsAs_25 ⟨Nat.le_refl _, Nat.le_refl _⟩) hA hS (fun r_26 f_23 L_24 Q_25 H locs hq hP hS => ?_)
    obtain ⟨⟨hI, hk_f_23, eL9, eQ9⟩, hq, p_27⟩ := hq
    rw [eL9, eQ9] at hP; clear eL9 eQ9
    have hF : sgK WkX12_setsAs_4_f6_f4 f f_23 := sgK.tr hF hk_f_23 (by decide)
    obtain ⟨v_28, ev_28⟩ : ∃ z : Int32, z = f_23 0 48 := ⟨_, rfl⟩
    have q_29 : 0 ≤ v_28.toInt ∧ v_28.toInt ≤ 19 := by rw [ev_28]; exact hI 0 48
    have q_30 : (f_23 0 48).toInt = v_28.toInt := (congrArg Int32.toInt (show f_23 0 48 = v_28 from ev_28.symm))
    have q_31 : (f_23 0 48).toInt = v_28.toInt := (congrArg Int32.toInt (show f_23 0 48 = v_28 from ev_28.symm))
    have k_32 : (0 : Int32).toInt = 0 := by decide
    refine lv_iconst (v := 3) hx hb dX12_setsAs_28 (by decide) ?_
    refine lv_iadd hx hb dX12_setsAs_29 ?_
    refine lv_topi (fun v_33 ev_33 => ?_)
    have q_34 : v_33.toInt = r_26.toInt + 3 := by rw [ev_33]; have k1 : (3 : Int32).toInt = 3 := (by decide); exact (bn_addI (by omega) (by omega)).trans (by omega)
    have q_35 : (f_23 0 48).toInt = v_28.toInt := (congrArg Int32.toInt (show f_23 0 48 = v_28 from ev_28.symm))
    have q_36 : (f_23 0 48).toInt = v_28.toInt := (congrArg Int32.toInt (show f_23 0 48 = v_28 from ev_28.symm))
    exact hret _ _ _ _ (v_33) f_23 L Q dX12_setsAs_30 hP hS ⟨⟨hI, hF, rfl, rfl⟩, (by omega), (by omega)⟩
  refine lv_iload_n hx hb dX12_setsAs_0 rfl (lv_at hl 1 rfl) ?_
  refine lv_iconst (v := 1) hx hb dX12_setsAs_1 (by decide) ?_
  refine lv_icmp_eq (tgt := 16) hx hb dX12_setsAs_2 (by decide) (fun c => absurd c (by decide)) (fun c => ?_)
  refine lv_iload_n hx hb dX12_setsAs_5 rfl (lv_at hl 1 rfl) ?_
  refine lv_iconst (v := 4) hx hb dX12_setsAs_6 (by decide) ?_
  refine lv_icmp_eq (tgt := 16) hx hb dX12_setsAs_7 (by decide) (fun c => ?_) (fun c => absurd c (by decide))
  exact blk_16 f _ _ _ (by have zz0_48 : (f 0 48).toInt = 6 := (congrArg Int32.toInt (show f 0 48 = 6 from hf_0_48)).trans (by decide); omega) (by have zz0_49 : (f 0 49).toInt = 4 := (congrArg Int32.toInt (show f 0 49 = 4 from hf_0_49)).trans (by decide); omega) hI hF hP hS (lv_sub hl [0, 2] rfl)

abbrev WkX12_slipsAs_4_f4_f4 : List (Nat × Nat × Option Nat) := [(0, 0, some 48), (21, 21, none)]
set_option maxHeartbeats 4000000 in
set_option maxRecDepth 100000 in
theorem kX12_slipsAs_4_f4_f4 (l : Launch) (D : va_G) (ca : Nat → ClassId) (za h : Nat → Nat) (hh : sgH 26 h) (f : sg_F) (L : sg_L) (Q : sg_Q) (hI : sgI loM hiM f) (x1 : Int32) (hf_0_48 : f 0 48 = 4) (hf_0_49 : f 0 49 = 4) (b1 : 1 ≤ x1.toInt ∧ x1.toInt ≤ 1) (p0 : 4 ≤ (f 0 48).toInt ∧ (f 0 48).toInt ≤ 4) (sz : Nat) : Met l yX12_slipsAs gwX12_slipsAs { frames := 3, cells := 0, slots := 0, locals := 65 } (sgP D vwCl (tyX ca) 26 h (eM ca h) zcM za f L Q sz [.ref (h 0), .int 4, .int x1]) (sgQi D vwCl 26 h (eM ca h) sz (fun r f1 L1 Q1 => ((sgI loM hiM f1 ∧ sgK WkX12_slipsAs_4_f4_f4 f f1 ∧ L1 = L ∧ Q1 = Q) ∧ True ∧ (8 ≤ (f1 0 48).toInt ∧ (f1 0 48).toInt ≤ 8)))) 0 0 (sgA 26 h sz) := by
  refine sg_ofWi (cc := cX12_slipsAs) (maxL := 4) RX12 (by decide) rfl rfl (Nat.le_of_ble_eq_true rfl) ?_
  intro p e s m below meth cd Qz ls hx hb hml hown hts hK hZ hP hS hl hret
  have hA := sgY.self (n := 26) (h := h) (sz := s.heap.size)
  have hl : lv_has ls 4 [(0, .ref (h 0)), (1, .int 4), (2, .int x1)] := hl
  obtain ⟨H, hH⟩ : ∃ z : Heap, z = s.heap := ⟨_, rfl⟩
  obtain ⟨locs, hlo⟩ : ∃ z : List Loc, z = [] := ⟨_, rfl⟩
  have hP : va_P D vwCl (sgw 26 h (eM ca h) f L Q) H := by rw [hH]; exact hP
  have hS : va_S (sgA 26 h s.heap.size) s.heap H locs := by rw [hH, hlo]; exact hS
  suffices hgo : W p l e ({ frames := 3, cells := 0, slots := 0, locals := 65 }) s m ([.ref (h 0), .int 4, .int x1] : List Value).toArray below meth cd H locs 0 0 Qz (F0 m 0 ls []) by rw [hH, hlo] at hgo; exact hgo
  clear hH hlo
  have o_1 : (f 0 48).toInt = 4 := (congrArg Int32.toInt (show f 0 48 = 4 from hf_0_48)).trans (by decide)
  have hF : sgK WkX12_slipsAs_4_f4_f4 f f := sgK.rf
  have blk_36 : ∀ (fp_36 : sg_F) (H : Heap) (locs : List Loc) (ls : Array Slot), 4 ≤ (fp_36 0 48).toInt ∧ (fp_36 0 48).toInt ≤ 4 → 4 ≤ (fp_36 0 49).toInt ∧ (fp_36 0 49).toInt ≤ 4 → sgI loM hiM fp_36 → sgK WkX12_slipsAs_4_f4_f4 f fp_36 → va_P D vwCl (sgw 26 h (eM ca h) fp_36 L Q) H → va_S (sgA 26 h s.heap.size) s.heap H locs → lv_has ls 4 [(0, .ref (h 0)), (2, .int x1)] → W p l e ({ frames := 3, cells := 0, slots := 0, locals := 65 }) s m ([.ref (h 0), .int 4, .int x1] : List Value).toArray below meth cd H locs 0 0 Qz (F0 m 36 ls []) := by
    intro fp_36 H locs ls hy0_36 hy1_36 hI hF hP hS hl
    obtain ⟨v_2, ev_2⟩ : ∃ z : Int32, z = fp_36 0 48 := ⟨_, rfl⟩
    have q_3 : 0 ≤ v_2.toInt ∧ v_2.toInt ≤ 19 := by rw [ev_2]; exact hI 0 48
    have q_4 : (fp_36 0 48).toInt = v_2.toInt := by rw [ev_2]
    obtain ⟨v_5, ev_5⟩ : ∃ z : Int32, z = fp_36 0 49 := ⟨_, rfl⟩
    have q_6 : 0 ≤ v_5.toInt ∧ v_5.toInt ≤ 7 := by rw [ev_5]; exact hI 0 49
    have q_7 : (fp_36 0 49).toInt = v_5.toInt := by rw [ev_5]
    have m_8 : fp_36 0 49 = 4 := (hF 0 49 (by decide)).trans hf_0_49
    refine lv_aload_n hx hb dX12_slipsAs_36 rfl (lv_at hl 0 rfl) ?_
    refine lv_bipush (v := 50) hx hb dX12_slipsAs_37 (by decide) ?_
    have c_9 : v_2 = 4 := Int32.toInt_inj.mp (by have k9 : (4 : Int32).toInt = 4 := (by decide); omega)
    have q_10 : (fp_36 0 48).toInt = 4 := (congrArg Int32.toInt (show fp_36 0 48 = 4 from (Eq.trans ev_2.symm c_9))).trans (by decide)
    have q_11 : (fp_36 0 48).toInt = 4 := (congrArg Int32.toInt (show fp_36 0 48 = 4 from (Eq.trans ev_2.symm c_9))).trans (by decide)
    refine sg_callv (va_runV (As := [.int 50]) (rest := []) ⟨hx, hb, hml, hown, hts⟩ (kX12_begins_50_f4 l D ca za h hh fp_36 L Q hI (Eq.trans ev_2.symm c_9) (by have k0 : (50 : Int32).toInt = 50 := (by decide); omega) H.size) (cwV 1 hts (gw_V (fun _ h => List.mem_cons_of_mem _ h) mw_734 mw_735 mw_736 mw_619 mw_733) rfl rfl rfl (by decide +kernel) ⟨Nat.le_of_ble_eq_true rfl, Nat.le_of_ble_eq_true rfl⟩) (sg_preV (ci := 12) (C := RX12) (T := TX12) (N := 55) hA hK hP hS hZ 0 (by decide) rfl rfl) rfl rfl hl.1 rfl (lv_room (Nat.le_of_ble_eq_true rfl)) dX12_slipsAs_39 ⟨Nat.le_refl _, Nat.le_refl _⟩) hA hS (fun f_12 L_13 Q_14 H locs hq hP hS => ?_)
    obtain ⟨⟨hI, hk_f_12, eL9, eQ9⟩, p_15⟩ := hq
    rw [eL9, eQ9] at hP; clear eL9 eQ9
    have hF : sgK WkX12_slipsAs_4_f4_f4 f f_12 := sgK.tr hF hk_f_12 (by decide)
    obtain ⟨v_16, ev_16⟩ : ∃ z : Int32, z = f_12 0 48 := ⟨_, rfl⟩
    have q_17 : 0 ≤ v_16.toInt ∧ v_16.toInt ≤ 19 := by rw [ev_16]; exact hI 0 48
    have q_18 : (f_12 0 48).toInt = v_16.toInt := (congrArg Int32.toInt (show f_12 0 48 = v_16 from ev_16.symm))
    have q_19 : (f_12 0 48).toInt = v_16.toInt := (congrArg Int32.toInt (show f_12 0 48 = v_16 from ev_16.symm))
    refine lv_aload_n hx hb dX12_slipsAs_42 rfl (lv_at hl 0 rfl) ?_
    refine lv_iconst (v := 1) hx hb dX12_slipsAs_43 (by decide) ?_
    refine lv_iload_n hx hb dX12_slipsAs_44 rfl (lv_at hl 1 rfl) ?_
    have c_20 : v_16 = 5 := Int32.toInt_inj.mp (by have k9 : (5 : Int32).toInt = 5 := (by decide); omega)
    have q_21 : (f_12 0 48).toInt = 5 := (congrArg Int32.toInt (show f_12 0 48 = 5 from (Eq.trans ev_16.symm c_20))).trans (by decide)
    have q_22 : (f_12 0 48).toInt = 5 := (congrArg Int32.toInt (show f_12 0 48 = 5 from (Eq.trans ev_16.symm c_20))).trans (by decide)
    refine sg_calli (va_runV (As := [.int 1, .int x1]) (rest := []) ⟨hx, hb, hml, hown, hts⟩ (kX12_slipsAs_1_f5_f4 l D ca za h hh f_12 L Q hI x1 (Eq.trans ev_16.symm c_20) ((hk_f_12 0 49 (by decide)).trans m_8) (by omega) (by have k0 : (1 : Int32).toInt = 1 := (by decide); omega) H.size) (cwV 2 hts (gw_V (fun _ h => List.mem_cons_of_mem _ h) mw_748 mw_749 mw_750 mw_619 mw_747) rfl rfl rfl (by decide +kernel) ⟨Nat.le_of_ble_eq_true rfl, Nat.le_of_ble_eq_true rfl⟩) (sg_preV (ci := 12) (C := RX12) (T := TX12) (N := 55) hA hK hP hS hZ 0 (by decide) rfl rfl) rfl rfl hl.1 rfl (lv_room (Nat.le_of_ble_eq_true rfl)) dX12_slipsAs_45 ⟨Nat.le_refl _, Nat.le_refl _⟩) hA hS (fun r_26 f_23 L_24 Q_25 H locs hq hP hS => ?_)
    obtain ⟨⟨hI, hk_f_23, eL9, eQ9⟩, hq, p_27⟩ := hq
    rw [eL9, eQ9] at hP; clear eL9 eQ9
    have hF : sgK WkX12_slipsAs_4_f4_f4 f f_23 := sgK.tr hF hk_f_23 (by decide)
    obtain ⟨v_28, ev_28⟩ : ∃ z : Int32, z = f_23 0 48 := ⟨_, rfl⟩
    have q_29 : 0 ≤ v_28.toInt ∧ v_28.toInt ≤ 19 := by rw [ev_28]; exact hI 0 48
    have q_30 : (f_23 0 48).toInt = v_28.toInt := (congrArg Int32.toInt (show f_23 0 48 = v_28 from ev_28.symm))
    have q_31 : (f_23 0 48).toInt = v_28.toInt := (congrArg Int32.toInt (show f_23 0 48 = v_28 from ev_28.symm))
    have k_32 : (1 : Int32).toInt = 1 := by decide
    refine lv_istore_n (lv' := [(3, .int r_26), (0, .ref (h 0)), (2, .int x1)]) hx hb dX12_slipsAs_48 rfl hl (by decide) rfl (fun ls hl => ?_)
    refine lv_iload_n hx hb dX12_slipsAs_49 rfl (lv_at hl 0 rfl) ?_
    refine lv_aload_n hx hb dX12_slipsAs_50 rfl (lv_at hl 1 rfl) ?_
    refine lv_aload_n hx hb dX12_slipsAs_51 rfl (lv_at hl 1 rfl) ?_
    refine sg_get (ci := 12) (v := .int 4) (C := RX12) (T := TX12) (N := 55) hx hb hts (fun w h => List.mem_cons_of_mem _ (gx_12 w h)) hown hK hP 0 (by decide) rfl rfl 49 (by decide) (hts _ (List.mem_cons_of_mem _ mw_679)) (fun _ h9 => h9) (congrArg (fun z => some (Value.int z)) (show f_23 0 49 = 4 from ((hk_f_23 0 49 (by decide)).trans ((hk_f_12 0 49 (by decide)).trans m_8)))) dX12_slipsAs_52 ?_
    refine lv_iconst (v := 2) hx hb dX12_slipsAs_55 (by decide) ?_
    have c_33 : v_28 = 6 := Int32.toInt_inj.mp (by have k9 : (6 : Int32).toInt = 6 := (by decide); omega)
    have q_34 : (f_23 0 48).toInt = 6 := (congrArg Int32.toInt (show f_23 0 48 = 6 from (Eq.trans ev_28.symm c_33))).trans (by decide)
    have q_35 : (f_23 0 48).toInt = 6 := (congrArg Int32.toInt (show f_23 0 48 = 6 from (Eq.trans ev_28.symm c_33))).trans (by decide)
    refine sg_calli (va_runV (As := [.int 4, .int 2]) (rest := [.int r_26]) ⟨hx, hb, hml, hown, hts⟩ (kX12_setsAs_4_f6_f4 l D ca za h hh f_23 L Q hI 2 (Eq.trans ev_28.symm c_33) ((hk_f_23 0 49 (by decide)).trans ((hk_f_12 0 49 (by decide)).trans m_8)) (by decide) (by have k0 : (4 : Int32).toInt = 4 := (by decide); have k1 : (2 : Int32).toInt = 2 := (by decide); omega) H.size) (cwV 2 hts (gw_V (fun _ h => List.mem_cons_of_mem _ h) mw_744 mw_745 mw_746 mw_619 mw_743) rfl rfl rfl (by decide +kernel) ⟨Nat.le_of_ble_eq_true rfl, Nat.le_of_ble_eq_true rfl⟩) (sg_preV (ci := 12) (C := RX12) (T := TX12) (N := 55) hA hK hP hS hZ 0 (by decide) rfl rfl) rfl rfl hl.1 rfl (lv_room (Nat.le_of_ble_eq_true rfl)) dX12_slipsAs_56 ⟨Nat.le_refl _, Nat.le_refl _⟩) hA hS (fun r_39 f_36 L_37 Q_38 H locs hq hP hS => ?_)
    obtain ⟨⟨hI, hk_f_36, eL9, eQ9⟩, hq, p_40⟩ := hq
    rw [eL9, eQ9] at hP; clear eL9 eQ9
    have hF : sgK WkX12_slipsAs_4_f4_f4 f f_36 := sgK.tr hF hk_f_36 (by decide)
    obtain ⟨v_41, ev_41⟩ : ∃ z : Int32, z = f_36 0 48 := ⟨_, rfl⟩
    have q_42 : 0 ≤ v_41.toInt ∧ v_41.toInt ≤ 19 := by rw [ev_41]; exact hI 0 48
    have q_43 : (f_36 0 48).toInt = v_41.toInt := (congrArg Int32.toInt (show f_36 0 48 = v_41 from ev_41.symm))
    have q_44 : (f_36 0 48).toInt = v_41.toInt := (congrArg Int32.toInt (show f_36 0 48 = v_41 from ev_41.symm))
    have k_45 : (4 : Int32).toInt = 4 := by decide
    have k_46 : (2 : Int32).toInt = 2 := by decide
    refine lv_isub hx hb dX12_slipsAs_59 ?_
    refine lv_topi (fun v_47 ev_47 => ?_)
    have q_48 : (f_36 0 48).toInt = v_41.toInt := (congrArg Int32.toInt (show f_36 0 48 = v_41 from ev_41.symm))
    have q_49 : (f_36 0 48).toInt = v_41.toInt := (congrArg Int32.toInt (show f_36 0 48 = v_41 from ev_41.symm))
    exact hret _ _ _ _ (v_47) f_36 L Q dX12_slipsAs_60 hP hS ⟨⟨hI, hF, rfl, rfl⟩, trivial, (by omega)⟩
  refine lv_iload_n hx hb dX12_slipsAs_0 rfl (lv_at hl 1 rfl) ?_
  refine lv_iconst (v := 3) hx hb dX12_slipsAs_1 (by decide) ?_
  refine lv_icmp_eq (tgt := 10) hx hb dX12_slipsAs_2 (by decide) (fun c => absurd c (by decide)) (fun c => ?_)
  refine lv_iload_n hx hb dX12_slipsAs_5 rfl (lv_at hl 1 rfl) ?_
  refine lv_iconst (v := 5) hx hb dX12_slipsAs_6 (by decide) ?_
  refine lv_icmp_ne (tgt := 25) hx hb dX12_slipsAs_7 (by decide) (fun c => ?_) (fun c => absurd c (by decide))
  refine lv_iload_n hx hb dX12_slipsAs_25 rfl (lv_at hl 1 rfl) ?_
  refine lv_iconst (v := 4) hx hb dX12_slipsAs_26 (by decide) ?_
  refine lv_icmp_eq (tgt := 36) hx hb dX12_slipsAs_27 (by decide) (fun c => ?_) (fun c => absurd c (by decide))
  exact blk_36 f _ _ _ (by have zz0_48 : (f 0 48).toInt = 4 := (congrArg Int32.toInt (show f 0 48 = 4 from hf_0_48)).trans (by decide); omega) (by have zz0_49 : (f 0 49).toInt = 4 := (congrArg Int32.toInt (show f 0 49 = 4 from hf_0_49)).trans (by decide); omega) hI hF hP hS (lv_sub hl [0, 2] rfl)

abbrev WkX12_tellsAs_4_f0_f4 : List (Nat × Nat × Option Nat) := [(0, 0, some 48), (21, 21, none)]
set_option maxHeartbeats 4000000 in
set_option maxRecDepth 100000 in
theorem kX12_tellsAs_4_f0_f4 (l : Launch) (D : va_G) (ca : Nat → ClassId) (za h : Nat → Nat) (hh : sgH 26 h) (f : sg_F) (L : sg_L) (Q : sg_Q) (hI : sgI loM hiM f) (x1 : Int32) (hf_0_48 : f 0 48 = 0) (hf_0_49 : f 0 49 = 4) (p0 : 0 ≤ (f 0 48).toInt ∧ (f 0 48).toInt ≤ 0) (sz : Nat) : Met l yX12_tellsAs gwX12_tellsAs { frames := 4, cells := 0, slots := 0, locals := 88 } (sgP D vwCl (tyX ca) 26 h (eM ca h) zcM za f L Q sz [.ref (h 0), .int 4, .int x1]) (sgQi D vwCl 26 h (eM ca h) sz (fun r f1 L1 Q1 => ((sgI loM hiM f1 ∧ sgK WkX12_tellsAs_4_f0_f4 f f1 ∧ L1 = L ∧ Q1 = Q) ∧ True ∧ (8 ≤ (f1 0 48).toInt ∧ (f1 0 48).toInt ≤ 8)))) 0 0 (sgA 26 h sz) := by
  refine sg_ofWi (cc := cX12_tellsAs) (maxL := 4) RX12 (by decide) rfl rfl (Nat.le_of_ble_eq_true rfl) ?_
  intro p e s m below meth cd Qz ls hx hb hml hown hts hK hZ hP hS hl hret
  have hA := sgY.self (n := 26) (h := h) (sz := s.heap.size)
  have hl : lv_has ls 4 [(0, .ref (h 0)), (1, .int 4), (2, .int x1)] := hl
  obtain ⟨H, hH⟩ : ∃ z : Heap, z = s.heap := ⟨_, rfl⟩
  obtain ⟨locs, hlo⟩ : ∃ z : List Loc, z = [] := ⟨_, rfl⟩
  have hP : va_P D vwCl (sgw 26 h (eM ca h) f L Q) H := by rw [hH]; exact hP
  have hS : va_S (sgA 26 h s.heap.size) s.heap H locs := by rw [hH, hlo]; exact hS
  suffices hgo : W p l e ({ frames := 4, cells := 0, slots := 0, locals := 88 }) s m ([.ref (h 0), .int 4, .int x1] : List Value).toArray below meth cd H locs 0 0 Qz (F0 m 0 ls []) by rw [hH, hlo] at hgo; exact hgo
  clear hH hlo
  have o_1 : (f 0 48).toInt = 0 := (congrArg Int32.toInt (show f 0 48 = 0 from hf_0_48)).trans (by decide)
  have hF : sgK WkX12_tellsAs_4_f0_f4 f f := sgK.rf
  refine lv_iload_n hx hb dX12_tellsAs_0 rfl (lv_at hl 1 rfl) ?_
  refine lv_iconst (v := 5) hx hb dX12_tellsAs_1 (by decide) ?_
  refine lv_icmp_ne (tgt := 20) hx hb dX12_tellsAs_2 (by decide) (fun c => ?_) (fun c => absurd c (by decide))
  refine lv_iload_n hx hb dX12_tellsAs_20 rfl (lv_at hl 1 rfl) ?_
  refine lv_bipush (v := 7) hx hb dX12_tellsAs_21 (by decide) ?_
  refine lv_icmp_ne (tgt := 41) hx hb dX12_tellsAs_23 (by decide) (fun c => ?_) (fun c => absurd c (by decide))
  refine lv_aload_n hx hb dX12_tellsAs_41 rfl (lv_at hl 0 rfl) ?_
  refine lv_iconst (v := 2) hx hb dX12_tellsAs_42 (by decide) ?_
  have q_2 : (f 0 48).toInt = 0 := (congrArg Int32.toInt (show f 0 48 = 0 from hf_0_48)).trans (by decide)
  have q_3 : (f 0 48).toInt = 0 := (congrArg Int32.toInt (show f 0 48 = 0 from hf_0_48)).trans (by decide)
  refine sg_callv (va_runV (As := [.int 2]) (rest := []) ⟨hx, hb, hml, hown, hts⟩ (kX12_begins_2_f0 l D ca za h hh f L Q hI hf_0_48 (by have k0 : (2 : Int32).toInt = 2 := (by decide); omega) H.size) (cwV 1 hts (gw_V (fun _ h => List.mem_cons_of_mem _ h) mw_734 mw_735 mw_736 mw_619 mw_733) rfl rfl rfl (by decide +kernel) ⟨Nat.le_of_ble_eq_true rfl, Nat.le_of_ble_eq_true rfl⟩) (sg_preV (ci := 12) (C := RX12) (T := TX12) (N := 55) hA hK hP hS hZ 0 (by decide) rfl rfl) rfl rfl hl.1 rfl (lv_room (Nat.le_of_ble_eq_true rfl)) dX12_tellsAs_43 ⟨Nat.le_refl _, Nat.le_refl _⟩) hA hS (fun f_4 L_5 Q_6 H locs hq hP hS => ?_)
  obtain ⟨⟨hI, hk_f_4, eL9, eQ9⟩, p_7⟩ := hq
  rw [eL9, eQ9] at hP; clear eL9 eQ9
  have hF : sgK WkX12_tellsAs_4_f0_f4 f f_4 := sgK.tr hF hk_f_4 (by decide)
  obtain ⟨v_8, ev_8⟩ : ∃ z : Int32, z = f_4 0 48 := ⟨_, rfl⟩
  have q_9 : 0 ≤ v_8.toInt ∧ v_8.toInt ≤ 19 := by rw [ev_8]; exact hI 0 48
  have q_10 : (f_4 0 48).toInt = v_8.toInt := (congrArg Int32.toInt (show f_4 0 48 = v_8 from ev_8.symm))
  have q_11 : (f_4 0 48).toInt = v_8.toInt := (congrArg Int32.toInt (show f_4 0 48 = v_8 from ev_8.symm))
  refine lv_aload_n hx hb dX12_tellsAs_46 rfl (lv_at hl 0 rfl) ?_
  refine lv_aload_n hx hb dX12_tellsAs_47 rfl (lv_at hl 0 rfl) ?_
  refine sg_get (ci := 12) (v := .int 4) (C := RX12) (T := TX12) (N := 55) hx hb hts (fun w h => List.mem_cons_of_mem _ (gx_12 w h)) hown hK hP 0 (by decide) rfl rfl 49 (by decide) (hts _ (List.mem_cons_of_mem _ mw_679)) (fun _ h9 => h9) (congrArg (fun z => some (Value.int z)) (show f_4 0 49 = 4 from ((hk_f_4 0 49 (by decide)).trans hf_0_49))) dX12_tellsAs_48 ?_
  refine lv_iload_n hx hb dX12_tellsAs_51 rfl (lv_at hl 2 rfl) ?_
  have c_12 : v_8 = 1 := Int32.toInt_inj.mp (by have k9 : (1 : Int32).toInt = 1 := (by decide); omega)
  have q_13 : (f_4 0 48).toInt = 1 := (congrArg Int32.toInt (show f_4 0 48 = 1 from (Eq.trans ev_8.symm c_12))).trans (by decide)
  have q_14 : (f_4 0 48).toInt = 1 := (congrArg Int32.toInt (show f_4 0 48 = 1 from (Eq.trans ev_8.symm c_12))).trans (by decide)
  refine sg_calli (va_runV (As := [.int 4, .int x1]) (rest := []) ⟨hx, hb, hml, hown, hts⟩ (kX12_sitsAs_4_f1_f4 l D ca za h hh f_4 L Q hI x1 (Eq.trans ev_8.symm c_12) ((hk_f_4 0 49 (by decide)).trans hf_0_49) (by have k0 : (4 : Int32).toInt = 4 := (by decide); omega) H.size) (cwV 2 hts (gw_V (fun _ h => List.mem_cons_of_mem _ h) mw_801 mw_802 mw_803 mw_619 mw_800) rfl rfl rfl (by decide +kernel) ⟨Nat.le_of_ble_eq_true rfl, Nat.le_of_ble_eq_true rfl⟩) (sg_preV (ci := 12) (C := RX12) (T := TX12) (N := 55) hA hK hP hS hZ 0 (by decide) rfl rfl) rfl rfl hl.1 rfl (lv_room (Nat.le_of_ble_eq_true rfl)) dX12_tellsAs_52 ⟨Nat.le_refl _, Nat.le_refl _⟩) hA hS (fun r_18 f_15 L_16 Q_17 H locs hq hP hS => ?_)
  obtain ⟨⟨hI, hk_f_15, eL9, eQ9⟩, hq, p_19⟩ := hq
  rw [eL9, eQ9] at hP; clear eL9 eQ9
  have hF : sgK WkX12_tellsAs_4_f0_f4 f f_15 := sgK.tr hF hk_f_15 (by decide)
  obtain ⟨v_20, ev_20⟩ : ∃ z : Int32, z = f_15 0 48 := ⟨_, rfl⟩
  have q_21 : 0 ≤ v_20.toInt ∧ v_20.toInt ≤ 19 := by rw [ev_20]; exact hI 0 48
  have q_22 : (f_15 0 48).toInt = v_20.toInt := (congrArg Int32.toInt (show f_15 0 48 = v_20 from ev_20.symm))
  have q_23 : (f_15 0 48).toInt = v_20.toInt := (congrArg Int32.toInt (show f_15 0 48 = v_20 from ev_20.symm))
  have k_24 : (4 : Int32).toInt = 4 := by decide
  refine lv_istore_n (lv' := [(3, .int r_18), (0, .ref (h 0)), (1, .int 4), (2, .int x1)]) hx hb dX12_tellsAs_55 rfl hl (by decide) rfl (fun ls hl => ?_)
  refine lv_iload_n hx hb dX12_tellsAs_56 rfl (lv_at hl 0 rfl) ?_
  refine lv_aload_n hx hb dX12_tellsAs_57 rfl (lv_at hl 1 rfl) ?_
  refine lv_aload_n hx hb dX12_tellsAs_58 rfl (lv_at hl 1 rfl) ?_
  refine sg_get (ci := 12) (v := .int 4) (C := RX12) (T := TX12) (N := 55) hx hb hts (fun w h => List.mem_cons_of_mem _ (gx_12 w h)) hown hK hP 0 (by decide) rfl rfl 49 (by decide) (hts _ (List.mem_cons_of_mem _ mw_679)) (fun _ h9 => h9) (congrArg (fun z => some (Value.int z)) (show f_15 0 49 = 4 from ((hk_f_15 0 49 (by decide)).trans ((hk_f_4 0 49 (by decide)).trans hf_0_49)))) dX12_tellsAs_59 ?_
  refine lv_iconst (v := 1) hx hb dX12_tellsAs_62 (by decide) ?_
  have c_25 : v_20 = 4 := Int32.toInt_inj.mp (by have k9 : (4 : Int32).toInt = 4 := (by decide); omega)
  have q_26 : (f_15 0 48).toInt = 4 := (congrArg Int32.toInt (show f_15 0 48 = 4 from (Eq.trans ev_20.symm c_25))).trans (by decide)
  have q_27 : (f_15 0 48).toInt = 4 := (congrArg Int32.toInt (show f_15 0 48 = 4 from (Eq.trans ev_20.symm c_25))).trans (by decide)
  refine sg_calli (va_runV (As := [.int 4, .int 1]) (rest := [.int r_18]) ⟨hx, hb, hml, hown, hts⟩ (kX12_slipsAs_4_f4_f4 l D ca za h hh f_15 L Q hI 1 (Eq.trans ev_20.symm c_25) ((hk_f_15 0 49 (by decide)).trans ((hk_f_4 0 49 (by decide)).trans hf_0_49)) (by decide) (by have k0 : (4 : Int32).toInt = 4 := (by decide); have k1 : (1 : Int32).toInt = 1 := (by decide); omega) H.size) (cwV 2 hts (gw_V (fun _ h => List.mem_cons_of_mem _ h) mw_748 mw_749 mw_750 mw_619 mw_747) rfl rfl rfl (by decide +kernel) ⟨Nat.le_of_ble_eq_true rfl, Nat.le_of_ble_eq_true rfl⟩) (sg_preV (ci := 12) (C := RX12) (T := TX12) (N := 55) hA hK hP hS hZ 0 (by decide) rfl rfl) rfl rfl hl.1 rfl (lv_room (Nat.le_of_ble_eq_true rfl)) dX12_tellsAs_63 ⟨Nat.le_refl _, Nat.le_refl _⟩) hA hS (fun r_31 f_28 L_29 Q_30 H locs hq hP hS => ?_)
  obtain ⟨⟨hI, hk_f_28, eL9, eQ9⟩, hq, p_32⟩ := hq
  rw [eL9, eQ9] at hP; clear eL9 eQ9
  have hF : sgK WkX12_tellsAs_4_f0_f4 f f_28 := sgK.tr hF hk_f_28 (by decide)
  obtain ⟨v_33, ev_33⟩ : ∃ z : Int32, z = f_28 0 48 := ⟨_, rfl⟩
  have q_34 : 0 ≤ v_33.toInt ∧ v_33.toInt ≤ 19 := by rw [ev_33]; exact hI 0 48
  have q_35 : (f_28 0 48).toInt = v_33.toInt := (congrArg Int32.toInt (show f_28 0 48 = v_33 from ev_33.symm))
  have q_36 : (f_28 0 48).toInt = v_33.toInt := (congrArg Int32.toInt (show f_28 0 48 = v_33 from ev_33.symm))
  have k_37 : (4 : Int32).toInt = 4 := by decide
  have k_38 : (1 : Int32).toInt = 1 := by decide
  refine lv_isub hx hb dX12_tellsAs_66 ?_
  refine lv_topi (fun v_39 ev_39 => ?_)
  have q_40 : (f_28 0 48).toInt = v_33.toInt := (congrArg Int32.toInt (show f_28 0 48 = v_33 from ev_33.symm))
  have q_41 : (f_28 0 48).toInt = v_33.toInt := (congrArg Int32.toInt (show f_28 0 48 = v_33 from ev_33.symm))
  exact hret _ _ _ _ (v_39) f_28 L Q dX12_tellsAs_67 hP hS ⟨⟨hI, hF, rfl, rfl⟩, trivial, (by omega)⟩

abbrev WkX12_begins_60_f0 : List (Nat × Nat × Option Nat) := [(0, 0, some 48), (21, 21, none)]
set_option maxHeartbeats 4000000 in
set_option maxRecDepth 100000 in
theorem kX12_begins_60_f0 (l : Launch) (D : va_G) (ca : Nat → ClassId) (za h : Nat → Nat) (hh : sgH 26 h) (f : sg_F) (L : sg_L) (Q : sg_Q) (hI : sgI loM hiM f) (hf_0_48 : f 0 48 = 0) (p0 : 0 ≤ (f 0 48).toInt ∧ (f 0 48).toInt ≤ 0) (sz : Nat) : Met l yX12_begins gwX12_begins { frames := 0, cells := 0, slots := 0, locals := 0 } (sgP D vwCl (tyX ca) 26 h (eM ca h) zcM za f L Q sz [.ref (h 0), .int 60]) (sgQv D vwCl 26 h (eM ca h) sz (fun f1 L1 Q1 => ((sgI loM hiM f1 ∧ sgK WkX12_begins_60_f0 f f1 ∧ L1 = L ∧ Q1 = Q) ∧ (1 ≤ (f1 0 48).toInt ∧ (f1 0 48).toInt ≤ 1)))) 0 0 (sgA 26 h sz) := by
  refine sg_ofWv (cc := cX12_begins) (maxL := 2) RX12 (by decide) rfl rfl (Nat.le_of_ble_eq_true rfl) ?_
  intro p e s m below meth cd Qz ls hx hb hml hown hts hK hZ hP hS hl hret
  have hA := sgY.self (n := 26) (h := h) (sz := s.heap.size)
  have hl : lv_has ls 2 [(0, .ref (h 0)), (1, .int 60)] := hl
  obtain ⟨H, hH⟩ : ∃ z : Heap, z = s.heap := ⟨_, rfl⟩
  obtain ⟨locs, hlo⟩ : ∃ z : List Loc, z = [] := ⟨_, rfl⟩
  have hP : va_P D vwCl (sgw 26 h (eM ca h) f L Q) H := by rw [hH]; exact hP
  have hS : va_S (sgA 26 h s.heap.size) s.heap H locs := by rw [hH, hlo]; exact hS
  suffices hgo : W p l e ({ frames := 0, cells := 0, slots := 0, locals := 0 }) s m ([.ref (h 0), .int 60] : List Value).toArray below meth cd H locs 0 0 Qz (F0 m 0 ls []) by rw [hH, hlo] at hgo; exact hgo
  clear hH hlo
  have o_1 : (f 0 48).toInt = 0 := (congrArg Int32.toInt (show f 0 48 = 0 from hf_0_48)).trans (by decide)
  have hF : sgK WkX12_begins_60_f0 f f := sgK.rf
  have blk_19 : ∀ (fp_19 : sg_F) (H : Heap) (locs : List Loc) (ls : Array Slot), 0 ≤ (fp_19 0 48).toInt ∧ (fp_19 0 48).toInt ≤ 0 → sgI loM hiM fp_19 → sgK WkX12_begins_60_f0 f fp_19 → va_P D vwCl (sgw 26 h (eM ca h) fp_19 L Q) H → va_S (sgA 26 h s.heap.size) s.heap H locs → lv_has ls 2 [(0, .ref (h 0))] → W p l e ({ frames := 0, cells := 0, slots := 0, locals := 0 }) s m ([.ref (h 0), .int 60] : List Value).toArray below meth cd H locs 0 0 Qz (F0 m 19 ls []) := by
    intro fp_19 H locs ls hy0_19 hI hF hP hS hl
    obtain ⟨v_2, ev_2⟩ : ∃ z : Int32, z = fp_19 0 48 := ⟨_, rfl⟩
    have q_3 : 0 ≤ v_2.toInt ∧ v_2.toInt ≤ 19 := by rw [ev_2]; exact hI 0 48
    have q_4 : (fp_19 0 48).toInt = v_2.toInt := by rw [ev_2]
    refine lv_aload_n hx hb dX12_begins_19 rfl (lv_at hl 0 rfl) ?_
    refine lv_dup hx hb dX12_begins_20 rfl ?_
    refine sg_get (ci := 12) (v := .int v_2) (C := RX12) (T := TX12) (N := 55) hx hb hts (fun w h => List.mem_cons_of_mem _ (gx_12 w h)) hown hK hP 0 (by decide) rfl rfl 48 (by decide) (hts _ (List.mem_cons_of_mem _ mw_621)) (fun _ h9 => h9) (congrArg (fun z => some (Value.int z)) (show fp_19 0 48 = v_2 from ev_2.symm)) dX12_begins_21 ?_
    refine lv_iconst (v := 1) hx hb dX12_begins_24 (by decide) ?_
    refine lv_iadd hx hb dX12_begins_25 ?_
    refine lv_topi (fun v_5 ev_5 => ?_)
    have q_6 : v_5.toInt = v_2.toInt + 1 := by rw [ev_5]; have k1 : (1 : Int32).toInt = 1 := (by decide); exact (bn_addI (by omega) (by omega)).trans (by omega)
    refine sg_put (ci := 12) (x := v_5) (ty := .int) (C := RX12) (T := TX12) (N := 55) hx hb hts (fun w h => List.mem_cons_of_mem _ (gx_12 w h)) tyX12 tyX12_ok nmX12 hown hh hA hK hP hS 0 (by decide) rfl rfl 48 (by decide) (hts _ (List.mem_cons_of_mem _ mw_621)) (fun _ h9 => h9) rfl rfl (by decide +kernel) rfl rfl (Nat.le_of_ble_eq_true rfl) dX12_begins_26 (fun f_7 H locs ef_7 hP hS => ?_)
    have hI : sgI loM hiM f_7 := by rw [ef_7]; exact sgI.put hI 0 48 (show 0 ≤ (v_5 : Int32).toInt ∧ (v_5 : Int32).toInt ≤ 19 from by omega)
    have hF : sgK WkX12_begins_60_f0 f f_7 := sgK.put hF ef_7 (by rfl)
    have q_8 : (f_7 0 48).toInt = v_5.toInt := (congrArg Int32.toInt (show f_7 0 48 = v_5 from (by rw [ef_7, sg_up_s, sgu_s])))
    have q_9 : (f_7 0 48).toInt = v_5.toInt := (congrArg Int32.toInt (show f_7 0 48 = v_5 from (by rw [ef_7, sg_up_s, sgu_s])))
    exact hret _ _ _ _ f_7 L Q dX12_begins_29 hP hS ⟨⟨hI, hF, rfl, rfl⟩, (by omega)⟩
  refine lv_aload_n hx hb dX12_begins_0 rfl (lv_at hl 0 rfl) ?_
  refine sg_get (ci := 12) (v := .int 0) (C := RX12) (T := TX12) (N := 55) hx hb hts (fun w h => List.mem_cons_of_mem _ (gx_12 w h)) hown hK hP 0 (by decide) rfl rfl 48 (by decide) (hts _ (List.mem_cons_of_mem _ mw_621)) (fun _ h9 => h9) (congrArg (fun z => some (Value.int z)) (show f 0 48 = 0 from hf_0_48)) dX12_begins_1 ?_
  refine lv_bipush (v := 24) hx hb dX12_begins_4 (by decide) ?_
  refine lv_icmp_ge (tgt := 19) hx hb dX12_begins_6 (by decide) (fun c => absurd c (by decide)) (fun c => ?_)
  refine lv_aload_n hx hb dX12_begins_9 rfl (lv_at hl 0 rfl) ?_
  refine sg_get (ci := 12) (v := .ref (h 21)) (C := RX12) (T := TX12) (N := 55) hx hb hts (fun w h => List.mem_cons_of_mem _ (gx_12 w h)) hown hK hP 0 (by decide) rfl rfl 47 (by decide) (hts _ (List.mem_cons_of_mem _ mw_718)) (fun _ h9 => h9) rfl dX12_begins_10 ?_
  refine lv_aload_n hx hb dX12_begins_13 rfl (lv_at hl 0 rfl) ?_
  refine sg_get (ci := 12) (v := .int 0) (C := RX12) (T := TX12) (N := 55) hx hb hts (fun w h => List.mem_cons_of_mem _ (gx_12 w h)) hown hK hP 0 (by decide) rfl rfl 48 (by decide) (hts _ (List.mem_cons_of_mem _ mw_621)) (fun _ h9 => h9) (congrArg (fun z => some (Value.int z)) (show f 0 48 = 0 from hf_0_48)) dX12_begins_14 ?_
  refine lv_iload_n hx hb dX12_begins_17 rfl (lv_at hl 1 rfl) ?_
  refine sg_iast hx hb hh hA hK hP hS 21 (by decide) 0 (fun _ => rfl) rfl (i := 0) (x := 60) (vp_in_iff.mpr (by decide)) dX12_begins_18 (fun f_10 H locs ef_10 hP hS => ?_)
  have hI : sgI loM hiM f_10 := by rw [ef_10]; exact sgI.put hI 21 (Int32.toNatClampNeg 0) (show 0 ≤ (60 : Int32).toInt ∧ (60 : Int32).toInt ≤ 81 from by decide)
  have hF : sgK WkX12_begins_60_f0 f f_10 := sgK.put hF ef_10 (by rfl)
  exact blk_19 f_10 _ _ _ (by have zz0_48 : (f_10 0 48).toInt = 0 := (congrArg Int32.toInt (show f_10 0 48 = 0 from (by rw [ef_10, sg_up_n (by decide)]; exact hf_0_48))).trans (by decide); omega) hI hF hP hS (lv_sub hl [0] rfl)

abbrev WkX12_begins_2_f1 : List (Nat × Nat × Option Nat) := [(0, 0, some 48), (21, 21, none)]
set_option maxHeartbeats 4000000 in
set_option maxRecDepth 100000 in
theorem kX12_begins_2_f1 (l : Launch) (D : va_G) (ca : Nat → ClassId) (za h : Nat → Nat) (hh : sgH 26 h) (f : sg_F) (L : sg_L) (Q : sg_Q) (hI : sgI loM hiM f) (hf_0_48 : f 0 48 = 1) (p0 : 1 ≤ (f 0 48).toInt ∧ (f 0 48).toInt ≤ 1) (sz : Nat) : Met l yX12_begins gwX12_begins { frames := 0, cells := 0, slots := 0, locals := 0 } (sgP D vwCl (tyX ca) 26 h (eM ca h) zcM za f L Q sz [.ref (h 0), .int 2]) (sgQv D vwCl 26 h (eM ca h) sz (fun f1 L1 Q1 => ((sgI loM hiM f1 ∧ sgK WkX12_begins_2_f1 f f1 ∧ L1 = L ∧ Q1 = Q) ∧ (2 ≤ (f1 0 48).toInt ∧ (f1 0 48).toInt ≤ 2)))) 0 0 (sgA 26 h sz) := by
  refine sg_ofWv (cc := cX12_begins) (maxL := 2) RX12 (by decide) rfl rfl (Nat.le_of_ble_eq_true rfl) ?_
  intro p e s m below meth cd Qz ls hx hb hml hown hts hK hZ hP hS hl hret
  have hA := sgY.self (n := 26) (h := h) (sz := s.heap.size)
  have hl : lv_has ls 2 [(0, .ref (h 0)), (1, .int 2)] := hl
  obtain ⟨H, hH⟩ : ∃ z : Heap, z = s.heap := ⟨_, rfl⟩
  obtain ⟨locs, hlo⟩ : ∃ z : List Loc, z = [] := ⟨_, rfl⟩
  have hP : va_P D vwCl (sgw 26 h (eM ca h) f L Q) H := by rw [hH]; exact hP
  have hS : va_S (sgA 26 h s.heap.size) s.heap H locs := by rw [hH, hlo]; exact hS
  suffices hgo : W p l e ({ frames := 0, cells := 0, slots := 0, locals := 0 }) s m ([.ref (h 0), .int 2] : List Value).toArray below meth cd H locs 0 0 Qz (F0 m 0 ls []) by rw [hH, hlo] at hgo; exact hgo
  clear hH hlo
  have o_1 : (f 0 48).toInt = 1 := (congrArg Int32.toInt (show f 0 48 = 1 from hf_0_48)).trans (by decide)
  have hF : sgK WkX12_begins_2_f1 f f := sgK.rf
  have blk_19 : ∀ (fp_19 : sg_F) (H : Heap) (locs : List Loc) (ls : Array Slot), 1 ≤ (fp_19 0 48).toInt ∧ (fp_19 0 48).toInt ≤ 1 → sgI loM hiM fp_19 → sgK WkX12_begins_2_f1 f fp_19 → va_P D vwCl (sgw 26 h (eM ca h) fp_19 L Q) H → va_S (sgA 26 h s.heap.size) s.heap H locs → lv_has ls 2 [(0, .ref (h 0))] → W p l e ({ frames := 0, cells := 0, slots := 0, locals := 0 }) s m ([.ref (h 0), .int 2] : List Value).toArray below meth cd H locs 0 0 Qz (F0 m 19 ls []) := by
    intro fp_19 H locs ls hy0_19 hI hF hP hS hl
    obtain ⟨v_2, ev_2⟩ : ∃ z : Int32, z = fp_19 0 48 := ⟨_, rfl⟩
    have q_3 : 0 ≤ v_2.toInt ∧ v_2.toInt ≤ 19 := by rw [ev_2]; exact hI 0 48
    have q_4 : (fp_19 0 48).toInt = v_2.toInt := by rw [ev_2]
    refine lv_aload_n hx hb dX12_begins_19 rfl (lv_at hl 0 rfl) ?_
    refine lv_dup hx hb dX12_begins_20 rfl ?_
    refine sg_get (ci := 12) (v := .int v_2) (C := RX12) (T := TX12) (N := 55) hx hb hts (fun w h => List.mem_cons_of_mem _ (gx_12 w h)) hown hK hP 0 (by decide) rfl rfl 48 (by decide) (hts _ (List.mem_cons_of_mem _ mw_621)) (fun _ h9 => h9) (congrArg (fun z => some (Value.int z)) (show fp_19 0 48 = v_2 from ev_2.symm)) dX12_begins_21 ?_
    refine lv_iconst (v := 1) hx hb dX12_begins_24 (by decide) ?_
    refine lv_iadd hx hb dX12_begins_25 ?_
    refine lv_topi (fun v_5 ev_5 => ?_)
    have q_6 : v_5.toInt = v_2.toInt + 1 := by rw [ev_5]; have k1 : (1 : Int32).toInt = 1 := (by decide); exact (bn_addI (by omega) (by omega)).trans (by omega)
    refine sg_put (ci := 12) (x := v_5) (ty := .int) (C := RX12) (T := TX12) (N := 55) hx hb hts (fun w h => List.mem_cons_of_mem _ (gx_12 w h)) tyX12 tyX12_ok nmX12 hown hh hA hK hP hS 0 (by decide) rfl rfl 48 (by decide) (hts _ (List.mem_cons_of_mem _ mw_621)) (fun _ h9 => h9) rfl rfl (by decide +kernel) rfl rfl (Nat.le_of_ble_eq_true rfl) dX12_begins_26 (fun f_7 H locs ef_7 hP hS => ?_)
    have hI : sgI loM hiM f_7 := by rw [ef_7]; exact sgI.put hI 0 48 (show 0 ≤ (v_5 : Int32).toInt ∧ (v_5 : Int32).toInt ≤ 19 from by omega)
    have hF : sgK WkX12_begins_2_f1 f f_7 := sgK.put hF ef_7 (by rfl)
    have q_8 : (f_7 0 48).toInt = v_5.toInt := (congrArg Int32.toInt (show f_7 0 48 = v_5 from (by rw [ef_7, sg_up_s, sgu_s])))
    have q_9 : (f_7 0 48).toInt = v_5.toInt := (congrArg Int32.toInt (show f_7 0 48 = v_5 from (by rw [ef_7, sg_up_s, sgu_s])))
    exact hret _ _ _ _ f_7 L Q dX12_begins_29 hP hS ⟨⟨hI, hF, rfl, rfl⟩, (by omega)⟩
  refine lv_aload_n hx hb dX12_begins_0 rfl (lv_at hl 0 rfl) ?_
  refine sg_get (ci := 12) (v := .int 1) (C := RX12) (T := TX12) (N := 55) hx hb hts (fun w h => List.mem_cons_of_mem _ (gx_12 w h)) hown hK hP 0 (by decide) rfl rfl 48 (by decide) (hts _ (List.mem_cons_of_mem _ mw_621)) (fun _ h9 => h9) (congrArg (fun z => some (Value.int z)) (show f 0 48 = 1 from hf_0_48)) dX12_begins_1 ?_
  refine lv_bipush (v := 24) hx hb dX12_begins_4 (by decide) ?_
  refine lv_icmp_ge (tgt := 19) hx hb dX12_begins_6 (by decide) (fun c => absurd c (by decide)) (fun c => ?_)
  refine lv_aload_n hx hb dX12_begins_9 rfl (lv_at hl 0 rfl) ?_
  refine sg_get (ci := 12) (v := .ref (h 21)) (C := RX12) (T := TX12) (N := 55) hx hb hts (fun w h => List.mem_cons_of_mem _ (gx_12 w h)) hown hK hP 0 (by decide) rfl rfl 47 (by decide) (hts _ (List.mem_cons_of_mem _ mw_718)) (fun _ h9 => h9) rfl dX12_begins_10 ?_
  refine lv_aload_n hx hb dX12_begins_13 rfl (lv_at hl 0 rfl) ?_
  refine sg_get (ci := 12) (v := .int 1) (C := RX12) (T := TX12) (N := 55) hx hb hts (fun w h => List.mem_cons_of_mem _ (gx_12 w h)) hown hK hP 0 (by decide) rfl rfl 48 (by decide) (hts _ (List.mem_cons_of_mem _ mw_621)) (fun _ h9 => h9) (congrArg (fun z => some (Value.int z)) (show f 0 48 = 1 from hf_0_48)) dX12_begins_14 ?_
  refine lv_iload_n hx hb dX12_begins_17 rfl (lv_at hl 1 rfl) ?_
  refine sg_iast hx hb hh hA hK hP hS 21 (by decide) 0 (fun _ => rfl) rfl (i := 1) (x := 2) (vp_in_iff.mpr (by decide)) dX12_begins_18 (fun f_10 H locs ef_10 hP hS => ?_)
  have hI : sgI loM hiM f_10 := by rw [ef_10]; exact sgI.put hI 21 (Int32.toNatClampNeg 1) (show 0 ≤ (2 : Int32).toInt ∧ (2 : Int32).toInt ≤ 81 from by decide)
  have hF : sgK WkX12_begins_2_f1 f f_10 := sgK.put hF ef_10 (by rfl)
  exact blk_19 f_10 _ _ _ (by have zz0_48 : (f_10 0 48).toInt = 1 := (congrArg Int32.toInt (show f_10 0 48 = 1 from (by rw [ef_10, sg_up_n (by decide)]; exact hf_0_48))).trans (by decide); omega) hI hF hP hS (lv_sub hl [0] rfl)

abbrev WkX12_begins_41_f2 : List (Nat × Nat × Option Nat) := [(0, 0, some 48), (21, 21, none)]
set_option maxHeartbeats 4000000 in
set_option maxRecDepth 100000 in
theorem kX12_begins_41_f2 (l : Launch) (D : va_G) (ca : Nat → ClassId) (za h : Nat → Nat) (hh : sgH 26 h) (f : sg_F) (L : sg_L) (Q : sg_Q) (hI : sgI loM hiM f) (hf_0_48 : f 0 48 = 2) (p0 : 2 ≤ (f 0 48).toInt ∧ (f 0 48).toInt ≤ 2) (sz : Nat) : Met l yX12_begins gwX12_begins { frames := 0, cells := 0, slots := 0, locals := 0 } (sgP D vwCl (tyX ca) 26 h (eM ca h) zcM za f L Q sz [.ref (h 0), .int 41]) (sgQv D vwCl 26 h (eM ca h) sz (fun f1 L1 Q1 => ((sgI loM hiM f1 ∧ sgK WkX12_begins_41_f2 f f1 ∧ L1 = L ∧ Q1 = Q) ∧ (3 ≤ (f1 0 48).toInt ∧ (f1 0 48).toInt ≤ 3)))) 0 0 (sgA 26 h sz) := by
  refine sg_ofWv (cc := cX12_begins) (maxL := 2) RX12 (by decide) rfl rfl (Nat.le_of_ble_eq_true rfl) ?_
  intro p e s m below meth cd Qz ls hx hb hml hown hts hK hZ hP hS hl hret
  have hA := sgY.self (n := 26) (h := h) (sz := s.heap.size)
  have hl : lv_has ls 2 [(0, .ref (h 0)), (1, .int 41)] := hl
  obtain ⟨H, hH⟩ : ∃ z : Heap, z = s.heap := ⟨_, rfl⟩
  obtain ⟨locs, hlo⟩ : ∃ z : List Loc, z = [] := ⟨_, rfl⟩
  have hP : va_P D vwCl (sgw 26 h (eM ca h) f L Q) H := by rw [hH]; exact hP
  have hS : va_S (sgA 26 h s.heap.size) s.heap H locs := by rw [hH, hlo]; exact hS
  suffices hgo : W p l e ({ frames := 0, cells := 0, slots := 0, locals := 0 }) s m ([.ref (h 0), .int 41] : List Value).toArray below meth cd H locs 0 0 Qz (F0 m 0 ls []) by rw [hH, hlo] at hgo; exact hgo
  clear hH hlo
  have o_1 : (f 0 48).toInt = 2 := (congrArg Int32.toInt (show f 0 48 = 2 from hf_0_48)).trans (by decide)
  have hF : sgK WkX12_begins_41_f2 f f := sgK.rf
  have blk_19 : ∀ (fp_19 : sg_F) (H : Heap) (locs : List Loc) (ls : Array Slot), 2 ≤ (fp_19 0 48).toInt ∧ (fp_19 0 48).toInt ≤ 2 → sgI loM hiM fp_19 → sgK WkX12_begins_41_f2 f fp_19 → va_P D vwCl (sgw 26 h (eM ca h) fp_19 L Q) H → va_S (sgA 26 h s.heap.size) s.heap H locs → lv_has ls 2 [(0, .ref (h 0))] → W p l e ({ frames := 0, cells := 0, slots := 0, locals := 0 }) s m ([.ref (h 0), .int 41] : List Value).toArray below meth cd H locs 0 0 Qz (F0 m 19 ls []) := by
    intro fp_19 H locs ls hy0_19 hI hF hP hS hl
    obtain ⟨v_2, ev_2⟩ : ∃ z : Int32, z = fp_19 0 48 := ⟨_, rfl⟩
    have q_3 : 0 ≤ v_2.toInt ∧ v_2.toInt ≤ 19 := by rw [ev_2]; exact hI 0 48
    have q_4 : (fp_19 0 48).toInt = v_2.toInt := by rw [ev_2]
    refine lv_aload_n hx hb dX12_begins_19 rfl (lv_at hl 0 rfl) ?_
    refine lv_dup hx hb dX12_begins_20 rfl ?_
    refine sg_get (ci := 12) (v := .int v_2) (C := RX12) (T := TX12) (N := 55) hx hb hts (fun w h => List.mem_cons_of_mem _ (gx_12 w h)) hown hK hP 0 (by decide) rfl rfl 48 (by decide) (hts _ (List.mem_cons_of_mem _ mw_621)) (fun _ h9 => h9) (congrArg (fun z => some (Value.int z)) (show fp_19 0 48 = v_2 from ev_2.symm)) dX12_begins_21 ?_
    refine lv_iconst (v := 1) hx hb dX12_begins_24 (by decide) ?_
    refine lv_iadd hx hb dX12_begins_25 ?_
    refine lv_topi (fun v_5 ev_5 => ?_)
    have q_6 : v_5.toInt = v_2.toInt + 1 := by rw [ev_5]; have k1 : (1 : Int32).toInt = 1 := (by decide); exact (bn_addI (by omega) (by omega)).trans (by omega)
    refine sg_put (ci := 12) (x := v_5) (ty := .int) (C := RX12) (T := TX12) (N := 55) hx hb hts (fun w h => List.mem_cons_of_mem _ (gx_12 w h)) tyX12 tyX12_ok nmX12 hown hh hA hK hP hS 0 (by decide) rfl rfl 48 (by decide) (hts _ (List.mem_cons_of_mem _ mw_621)) (fun _ h9 => h9) rfl rfl (by decide +kernel) rfl rfl (Nat.le_of_ble_eq_true rfl) dX12_begins_26 (fun f_7 H locs ef_7 hP hS => ?_)
    have hI : sgI loM hiM f_7 := by rw [ef_7]; exact sgI.put hI 0 48 (show 0 ≤ (v_5 : Int32).toInt ∧ (v_5 : Int32).toInt ≤ 19 from by omega)
    have hF : sgK WkX12_begins_41_f2 f f_7 := sgK.put hF ef_7 (by rfl)
    have q_8 : (f_7 0 48).toInt = v_5.toInt := (congrArg Int32.toInt (show f_7 0 48 = v_5 from (by rw [ef_7, sg_up_s, sgu_s])))
    have q_9 : (f_7 0 48).toInt = v_5.toInt := (congrArg Int32.toInt (show f_7 0 48 = v_5 from (by rw [ef_7, sg_up_s, sgu_s])))
    exact hret _ _ _ _ f_7 L Q dX12_begins_29 hP hS ⟨⟨hI, hF, rfl, rfl⟩, (by omega)⟩
  refine lv_aload_n hx hb dX12_begins_0 rfl (lv_at hl 0 rfl) ?_
  refine sg_get (ci := 12) (v := .int 2) (C := RX12) (T := TX12) (N := 55) hx hb hts (fun w h => List.mem_cons_of_mem _ (gx_12 w h)) hown hK hP 0 (by decide) rfl rfl 48 (by decide) (hts _ (List.mem_cons_of_mem _ mw_621)) (fun _ h9 => h9) (congrArg (fun z => some (Value.int z)) (show f 0 48 = 2 from hf_0_48)) dX12_begins_1 ?_
  refine lv_bipush (v := 24) hx hb dX12_begins_4 (by decide) ?_
  refine lv_icmp_ge (tgt := 19) hx hb dX12_begins_6 (by decide) (fun c => absurd c (by decide)) (fun c => ?_)
  refine lv_aload_n hx hb dX12_begins_9 rfl (lv_at hl 0 rfl) ?_
  refine sg_get (ci := 12) (v := .ref (h 21)) (C := RX12) (T := TX12) (N := 55) hx hb hts (fun w h => List.mem_cons_of_mem _ (gx_12 w h)) hown hK hP 0 (by decide) rfl rfl 47 (by decide) (hts _ (List.mem_cons_of_mem _ mw_718)) (fun _ h9 => h9) rfl dX12_begins_10 ?_
  refine lv_aload_n hx hb dX12_begins_13 rfl (lv_at hl 0 rfl) ?_
  refine sg_get (ci := 12) (v := .int 2) (C := RX12) (T := TX12) (N := 55) hx hb hts (fun w h => List.mem_cons_of_mem _ (gx_12 w h)) hown hK hP 0 (by decide) rfl rfl 48 (by decide) (hts _ (List.mem_cons_of_mem _ mw_621)) (fun _ h9 => h9) (congrArg (fun z => some (Value.int z)) (show f 0 48 = 2 from hf_0_48)) dX12_begins_14 ?_
  refine lv_iload_n hx hb dX12_begins_17 rfl (lv_at hl 1 rfl) ?_
  refine sg_iast hx hb hh hA hK hP hS 21 (by decide) 0 (fun _ => rfl) rfl (i := 2) (x := 41) (vp_in_iff.mpr (by decide)) dX12_begins_18 (fun f_10 H locs ef_10 hP hS => ?_)
  have hI : sgI loM hiM f_10 := by rw [ef_10]; exact sgI.put hI 21 (Int32.toNatClampNeg 2) (show 0 ≤ (41 : Int32).toInt ∧ (41 : Int32).toInt ≤ 81 from by decide)
  have hF : sgK WkX12_begins_41_f2 f f_10 := sgK.put hF ef_10 (by rfl)
  exact blk_19 f_10 _ _ _ (by have zz0_48 : (f_10 0 48).toInt = 2 := (congrArg Int32.toInt (show f_10 0 48 = 2 from (by rw [ef_10, sg_up_n (by decide)]; exact hf_0_48))).trans (by decide); omega) hI hF hP hS (lv_sub hl [0] rfl)

abbrev WkX12_begins_30_f3 : List (Nat × Nat × Option Nat) := [(0, 0, some 48), (21, 21, none)]
set_option maxHeartbeats 4000000 in
set_option maxRecDepth 100000 in
theorem kX12_begins_30_f3 (l : Launch) (D : va_G) (ca : Nat → ClassId) (za h : Nat → Nat) (hh : sgH 26 h) (f : sg_F) (L : sg_L) (Q : sg_Q) (hI : sgI loM hiM f) (hf_0_48 : f 0 48 = 3) (p0 : 3 ≤ (f 0 48).toInt ∧ (f 0 48).toInt ≤ 3) (sz : Nat) : Met l yX12_begins gwX12_begins { frames := 0, cells := 0, slots := 0, locals := 0 } (sgP D vwCl (tyX ca) 26 h (eM ca h) zcM za f L Q sz [.ref (h 0), .int 30]) (sgQv D vwCl 26 h (eM ca h) sz (fun f1 L1 Q1 => ((sgI loM hiM f1 ∧ sgK WkX12_begins_30_f3 f f1 ∧ L1 = L ∧ Q1 = Q) ∧ (4 ≤ (f1 0 48).toInt ∧ (f1 0 48).toInt ≤ 4)))) 0 0 (sgA 26 h sz) := by
  refine sg_ofWv (cc := cX12_begins) (maxL := 2) RX12 (by decide) rfl rfl (Nat.le_of_ble_eq_true rfl) ?_
  intro p e s m below meth cd Qz ls hx hb hml hown hts hK hZ hP hS hl hret
  have hA := sgY.self (n := 26) (h := h) (sz := s.heap.size)
  have hl : lv_has ls 2 [(0, .ref (h 0)), (1, .int 30)] := hl
  obtain ⟨H, hH⟩ : ∃ z : Heap, z = s.heap := ⟨_, rfl⟩
  obtain ⟨locs, hlo⟩ : ∃ z : List Loc, z = [] := ⟨_, rfl⟩
  have hP : va_P D vwCl (sgw 26 h (eM ca h) f L Q) H := by rw [hH]; exact hP
  have hS : va_S (sgA 26 h s.heap.size) s.heap H locs := by rw [hH, hlo]; exact hS
  suffices hgo : W p l e ({ frames := 0, cells := 0, slots := 0, locals := 0 }) s m ([.ref (h 0), .int 30] : List Value).toArray below meth cd H locs 0 0 Qz (F0 m 0 ls []) by rw [hH, hlo] at hgo; exact hgo
  clear hH hlo
  have o_1 : (f 0 48).toInt = 3 := (congrArg Int32.toInt (show f 0 48 = 3 from hf_0_48)).trans (by decide)
  have hF : sgK WkX12_begins_30_f3 f f := sgK.rf
  have blk_19 : ∀ (fp_19 : sg_F) (H : Heap) (locs : List Loc) (ls : Array Slot), 3 ≤ (fp_19 0 48).toInt ∧ (fp_19 0 48).toInt ≤ 3 → sgI loM hiM fp_19 → sgK WkX12_begins_30_f3 f fp_19 → va_P D vwCl (sgw 26 h (eM ca h) fp_19 L Q) H → va_S (sgA 26 h s.heap.size) s.heap H locs → lv_has ls 2 [(0, .ref (h 0))] → W p l e ({ frames := 0, cells := 0, slots := 0, locals := 0 }) s m ([.ref (h 0), .int 30] : List Value).toArray below meth cd H locs 0 0 Qz (F0 m 19 ls []) := by
    intro fp_19 H locs ls hy0_19 hI hF hP hS hl
    obtain ⟨v_2, ev_2⟩ : ∃ z : Int32, z = fp_19 0 48 := ⟨_, rfl⟩
    have q_3 : 0 ≤ v_2.toInt ∧ v_2.toInt ≤ 19 := by rw [ev_2]; exact hI 0 48
    have q_4 : (fp_19 0 48).toInt = v_2.toInt := by rw [ev_2]
    refine lv_aload_n hx hb dX12_begins_19 rfl (lv_at hl 0 rfl) ?_
    refine lv_dup hx hb dX12_begins_20 rfl ?_
    refine sg_get (ci := 12) (v := .int v_2) (C := RX12) (T := TX12) (N := 55) hx hb hts (fun w h => List.mem_cons_of_mem _ (gx_12 w h)) hown hK hP 0 (by decide) rfl rfl 48 (by decide) (hts _ (List.mem_cons_of_mem _ mw_621)) (fun _ h9 => h9) (congrArg (fun z => some (Value.int z)) (show fp_19 0 48 = v_2 from ev_2.symm)) dX12_begins_21 ?_
    refine lv_iconst (v := 1) hx hb dX12_begins_24 (by decide) ?_
    refine lv_iadd hx hb dX12_begins_25 ?_
    refine lv_topi (fun v_5 ev_5 => ?_)
    have q_6 : v_5.toInt = v_2.toInt + 1 := by rw [ev_5]; have k1 : (1 : Int32).toInt = 1 := (by decide); exact (bn_addI (by omega) (by omega)).trans (by omega)
    refine sg_put (ci := 12) (x := v_5) (ty := .int) (C := RX12) (T := TX12) (N := 55) hx hb hts (fun w h => List.mem_cons_of_mem _ (gx_12 w h)) tyX12 tyX12_ok nmX12 hown hh hA hK hP hS 0 (by decide) rfl rfl 48 (by decide) (hts _ (List.mem_cons_of_mem _ mw_621)) (fun _ h9 => h9) rfl rfl (by decide +kernel) rfl rfl (Nat.le_of_ble_eq_true rfl) dX12_begins_26 (fun f_7 H locs ef_7 hP hS => ?_)
    have hI : sgI loM hiM f_7 := by rw [ef_7]; exact sgI.put hI 0 48 (show 0 ≤ (v_5 : Int32).toInt ∧ (v_5 : Int32).toInt ≤ 19 from by omega)
    have hF : sgK WkX12_begins_30_f3 f f_7 := sgK.put hF ef_7 (by rfl)
    have q_8 : (f_7 0 48).toInt = v_5.toInt := (congrArg Int32.toInt (show f_7 0 48 = v_5 from (by rw [ef_7, sg_up_s, sgu_s])))
    have q_9 : (f_7 0 48).toInt = v_5.toInt := (congrArg Int32.toInt (show f_7 0 48 = v_5 from (by rw [ef_7, sg_up_s, sgu_s])))
    exact hret _ _ _ _ f_7 L Q dX12_begins_29 hP hS ⟨⟨hI, hF, rfl, rfl⟩, (by omega)⟩
  refine lv_aload_n hx hb dX12_begins_0 rfl (lv_at hl 0 rfl) ?_
  refine sg_get (ci := 12) (v := .int 3) (C := RX12) (T := TX12) (N := 55) hx hb hts (fun w h => List.mem_cons_of_mem _ (gx_12 w h)) hown hK hP 0 (by decide) rfl rfl 48 (by decide) (hts _ (List.mem_cons_of_mem _ mw_621)) (fun _ h9 => h9) (congrArg (fun z => some (Value.int z)) (show f 0 48 = 3 from hf_0_48)) dX12_begins_1 ?_
  refine lv_bipush (v := 24) hx hb dX12_begins_4 (by decide) ?_
  refine lv_icmp_ge (tgt := 19) hx hb dX12_begins_6 (by decide) (fun c => absurd c (by decide)) (fun c => ?_)
  refine lv_aload_n hx hb dX12_begins_9 rfl (lv_at hl 0 rfl) ?_
  refine sg_get (ci := 12) (v := .ref (h 21)) (C := RX12) (T := TX12) (N := 55) hx hb hts (fun w h => List.mem_cons_of_mem _ (gx_12 w h)) hown hK hP 0 (by decide) rfl rfl 47 (by decide) (hts _ (List.mem_cons_of_mem _ mw_718)) (fun _ h9 => h9) rfl dX12_begins_10 ?_
  refine lv_aload_n hx hb dX12_begins_13 rfl (lv_at hl 0 rfl) ?_
  refine sg_get (ci := 12) (v := .int 3) (C := RX12) (T := TX12) (N := 55) hx hb hts (fun w h => List.mem_cons_of_mem _ (gx_12 w h)) hown hK hP 0 (by decide) rfl rfl 48 (by decide) (hts _ (List.mem_cons_of_mem _ mw_621)) (fun _ h9 => h9) (congrArg (fun z => some (Value.int z)) (show f 0 48 = 3 from hf_0_48)) dX12_begins_14 ?_
  refine lv_iload_n hx hb dX12_begins_17 rfl (lv_at hl 1 rfl) ?_
  refine sg_iast hx hb hh hA hK hP hS 21 (by decide) 0 (fun _ => rfl) rfl (i := 3) (x := 30) (vp_in_iff.mpr (by decide)) dX12_begins_18 (fun f_10 H locs ef_10 hP hS => ?_)
  have hI : sgI loM hiM f_10 := by rw [ef_10]; exact sgI.put hI 21 (Int32.toNatClampNeg 3) (show 0 ≤ (30 : Int32).toInt ∧ (30 : Int32).toInt ≤ 81 from by decide)
  have hF : sgK WkX12_begins_30_f3 f f_10 := sgK.put hF ef_10 (by rfl)
  exact blk_19 f_10 _ _ _ (by have zz0_48 : (f_10 0 48).toInt = 3 := (congrArg Int32.toInt (show f_10 0 48 = 3 from (by rw [ef_10, sg_up_n (by decide)]; exact hf_0_48))).trans (by decide); omega) hI hF hP hS (lv_sub hl [0] rfl)

abbrev WkX12_begins_10_f4 : List (Nat × Nat × Option Nat) := [(0, 0, some 48), (21, 21, none)]
set_option maxHeartbeats 4000000 in
set_option maxRecDepth 100000 in
theorem kX12_begins_10_f4 (l : Launch) (D : va_G) (ca : Nat → ClassId) (za h : Nat → Nat) (hh : sgH 26 h) (f : sg_F) (L : sg_L) (Q : sg_Q) (hI : sgI loM hiM f) (hf_0_48 : f 0 48 = 4) (p0 : 4 ≤ (f 0 48).toInt ∧ (f 0 48).toInt ≤ 4) (sz : Nat) : Met l yX12_begins gwX12_begins { frames := 0, cells := 0, slots := 0, locals := 0 } (sgP D vwCl (tyX ca) 26 h (eM ca h) zcM za f L Q sz [.ref (h 0), .int 10]) (sgQv D vwCl 26 h (eM ca h) sz (fun f1 L1 Q1 => ((sgI loM hiM f1 ∧ sgK WkX12_begins_10_f4 f f1 ∧ L1 = L ∧ Q1 = Q) ∧ (5 ≤ (f1 0 48).toInt ∧ (f1 0 48).toInt ≤ 5)))) 0 0 (sgA 26 h sz) := by
  refine sg_ofWv (cc := cX12_begins) (maxL := 2) RX12 (by decide) rfl rfl (Nat.le_of_ble_eq_true rfl) ?_
  intro p e s m below meth cd Qz ls hx hb hml hown hts hK hZ hP hS hl hret
  have hA := sgY.self (n := 26) (h := h) (sz := s.heap.size)
  have hl : lv_has ls 2 [(0, .ref (h 0)), (1, .int 10)] := hl
  obtain ⟨H, hH⟩ : ∃ z : Heap, z = s.heap := ⟨_, rfl⟩
  obtain ⟨locs, hlo⟩ : ∃ z : List Loc, z = [] := ⟨_, rfl⟩
  have hP : va_P D vwCl (sgw 26 h (eM ca h) f L Q) H := by rw [hH]; exact hP
  have hS : va_S (sgA 26 h s.heap.size) s.heap H locs := by rw [hH, hlo]; exact hS
  suffices hgo : W p l e ({ frames := 0, cells := 0, slots := 0, locals := 0 }) s m ([.ref (h 0), .int 10] : List Value).toArray below meth cd H locs 0 0 Qz (F0 m 0 ls []) by rw [hH, hlo] at hgo; exact hgo
  clear hH hlo
  have o_1 : (f 0 48).toInt = 4 := (congrArg Int32.toInt (show f 0 48 = 4 from hf_0_48)).trans (by decide)
  have hF : sgK WkX12_begins_10_f4 f f := sgK.rf
  have blk_19 : ∀ (fp_19 : sg_F) (H : Heap) (locs : List Loc) (ls : Array Slot), 4 ≤ (fp_19 0 48).toInt ∧ (fp_19 0 48).toInt ≤ 4 → sgI loM hiM fp_19 → sgK WkX12_begins_10_f4 f fp_19 → va_P D vwCl (sgw 26 h (eM ca h) fp_19 L Q) H → va_S (sgA 26 h s.heap.size) s.heap H locs → lv_has ls 2 [(0, .ref (h 0))] → W p l e ({ frames := 0, cells := 0, slots := 0, locals := 0 }) s m ([.ref (h 0), .int 10] : List Value).toArray below meth cd H locs 0 0 Qz (F0 m 19 ls []) := by
    intro fp_19 H locs ls hy0_19 hI hF hP hS hl
    obtain ⟨v_2, ev_2⟩ : ∃ z : Int32, z = fp_19 0 48 := ⟨_, rfl⟩
    have q_3 : 0 ≤ v_2.toInt ∧ v_2.toInt ≤ 19 := by rw [ev_2]; exact hI 0 48
    have q_4 : (fp_19 0 48).toInt = v_2.toInt := by rw [ev_2]
    refine lv_aload_n hx hb dX12_begins_19 rfl (lv_at hl 0 rfl) ?_
    refine lv_dup hx hb dX12_begins_20 rfl ?_
    refine sg_get (ci := 12) (v := .int v_2) (C := RX12) (T := TX12) (N := 55) hx hb hts (fun w h => List.mem_cons_of_mem _ (gx_12 w h)) hown hK hP 0 (by decide) rfl rfl 48 (by decide) (hts _ (List.mem_cons_of_mem _ mw_621)) (fun _ h9 => h9) (congrArg (fun z => some (Value.int z)) (show fp_19 0 48 = v_2 from ev_2.symm)) dX12_begins_21 ?_
    refine lv_iconst (v := 1) hx hb dX12_begins_24 (by decide) ?_
    refine lv_iadd hx hb dX12_begins_25 ?_
    refine lv_topi (fun v_5 ev_5 => ?_)
    have q_6 : v_5.toInt = v_2.toInt + 1 := by rw [ev_5]; have k1 : (1 : Int32).toInt = 1 := (by decide); exact (bn_addI (by omega) (by omega)).trans (by omega)
    refine sg_put (ci := 12) (x := v_5) (ty := .int) (C := RX12) (T := TX12) (N := 55) hx hb hts (fun w h => List.mem_cons_of_mem _ (gx_12 w h)) tyX12 tyX12_ok nmX12 hown hh hA hK hP hS 0 (by decide) rfl rfl 48 (by decide) (hts _ (List.mem_cons_of_mem _ mw_621)) (fun _ h9 => h9) rfl rfl (by decide +kernel) rfl rfl (Nat.le_of_ble_eq_true rfl) dX12_begins_26 (fun f_7 H locs ef_7 hP hS => ?_)
    have hI : sgI loM hiM f_7 := by rw [ef_7]; exact sgI.put hI 0 48 (show 0 ≤ (v_5 : Int32).toInt ∧ (v_5 : Int32).toInt ≤ 19 from by omega)
    have hF : sgK WkX12_begins_10_f4 f f_7 := sgK.put hF ef_7 (by rfl)
    have q_8 : (f_7 0 48).toInt = v_5.toInt := (congrArg Int32.toInt (show f_7 0 48 = v_5 from (by rw [ef_7, sg_up_s, sgu_s])))
    have q_9 : (f_7 0 48).toInt = v_5.toInt := (congrArg Int32.toInt (show f_7 0 48 = v_5 from (by rw [ef_7, sg_up_s, sgu_s])))
    exact hret _ _ _ _ f_7 L Q dX12_begins_29 hP hS ⟨⟨hI, hF, rfl, rfl⟩, (by omega)⟩
  refine lv_aload_n hx hb dX12_begins_0 rfl (lv_at hl 0 rfl) ?_
  refine sg_get (ci := 12) (v := .int 4) (C := RX12) (T := TX12) (N := 55) hx hb hts (fun w h => List.mem_cons_of_mem _ (gx_12 w h)) hown hK hP 0 (by decide) rfl rfl 48 (by decide) (hts _ (List.mem_cons_of_mem _ mw_621)) (fun _ h9 => h9) (congrArg (fun z => some (Value.int z)) (show f 0 48 = 4 from hf_0_48)) dX12_begins_1 ?_
  refine lv_bipush (v := 24) hx hb dX12_begins_4 (by decide) ?_
  refine lv_icmp_ge (tgt := 19) hx hb dX12_begins_6 (by decide) (fun c => absurd c (by decide)) (fun c => ?_)
  refine lv_aload_n hx hb dX12_begins_9 rfl (lv_at hl 0 rfl) ?_
  refine sg_get (ci := 12) (v := .ref (h 21)) (C := RX12) (T := TX12) (N := 55) hx hb hts (fun w h => List.mem_cons_of_mem _ (gx_12 w h)) hown hK hP 0 (by decide) rfl rfl 47 (by decide) (hts _ (List.mem_cons_of_mem _ mw_718)) (fun _ h9 => h9) rfl dX12_begins_10 ?_
  refine lv_aload_n hx hb dX12_begins_13 rfl (lv_at hl 0 rfl) ?_
  refine sg_get (ci := 12) (v := .int 4) (C := RX12) (T := TX12) (N := 55) hx hb hts (fun w h => List.mem_cons_of_mem _ (gx_12 w h)) hown hK hP 0 (by decide) rfl rfl 48 (by decide) (hts _ (List.mem_cons_of_mem _ mw_621)) (fun _ h9 => h9) (congrArg (fun z => some (Value.int z)) (show f 0 48 = 4 from hf_0_48)) dX12_begins_14 ?_
  refine lv_iload_n hx hb dX12_begins_17 rfl (lv_at hl 1 rfl) ?_
  refine sg_iast hx hb hh hA hK hP hS 21 (by decide) 0 (fun _ => rfl) rfl (i := 4) (x := 10) (vp_in_iff.mpr (by decide)) dX12_begins_18 (fun f_10 H locs ef_10 hP hS => ?_)
  have hI : sgI loM hiM f_10 := by rw [ef_10]; exact sgI.put hI 21 (Int32.toNatClampNeg 4) (show 0 ≤ (10 : Int32).toInt ∧ (10 : Int32).toInt ≤ 81 from by decide)
  have hF : sgK WkX12_begins_10_f4 f f_10 := sgK.put hF ef_10 (by rfl)
  exact blk_19 f_10 _ _ _ (by have zz0_48 : (f_10 0 48).toInt = 4 := (congrArg Int32.toInt (show f_10 0 48 = 4 from (by rw [ef_10, sg_up_n (by decide)]; exact hf_0_48))).trans (by decide); omega) hI hF hP hS (lv_sub hl [0] rfl)

abbrev WkX12_begins_1_f5 : List (Nat × Nat × Option Nat) := [(0, 0, some 48), (21, 21, none)]
set_option maxHeartbeats 4000000 in
set_option maxRecDepth 100000 in
theorem kX12_begins_1_f5 (l : Launch) (D : va_G) (ca : Nat → ClassId) (za h : Nat → Nat) (hh : sgH 26 h) (f : sg_F) (L : sg_L) (Q : sg_Q) (hI : sgI loM hiM f) (hf_0_48 : f 0 48 = 5) (p0 : 5 ≤ (f 0 48).toInt ∧ (f 0 48).toInt ≤ 5) (sz : Nat) : Met l yX12_begins gwX12_begins { frames := 0, cells := 0, slots := 0, locals := 0 } (sgP D vwCl (tyX ca) 26 h (eM ca h) zcM za f L Q sz [.ref (h 0), .int 1]) (sgQv D vwCl 26 h (eM ca h) sz (fun f1 L1 Q1 => ((sgI loM hiM f1 ∧ sgK WkX12_begins_1_f5 f f1 ∧ L1 = L ∧ Q1 = Q) ∧ (6 ≤ (f1 0 48).toInt ∧ (f1 0 48).toInt ≤ 6)))) 0 0 (sgA 26 h sz) := by
  refine sg_ofWv (cc := cX12_begins) (maxL := 2) RX12 (by decide) rfl rfl (Nat.le_of_ble_eq_true rfl) ?_
  intro p e s m below meth cd Qz ls hx hb hml hown hts hK hZ hP hS hl hret
  have hA := sgY.self (n := 26) (h := h) (sz := s.heap.size)
  have hl : lv_has ls 2 [(0, .ref (h 0)), (1, .int 1)] := hl
  obtain ⟨H, hH⟩ : ∃ z : Heap, z = s.heap := ⟨_, rfl⟩
  obtain ⟨locs, hlo⟩ : ∃ z : List Loc, z = [] := ⟨_, rfl⟩
  have hP : va_P D vwCl (sgw 26 h (eM ca h) f L Q) H := by rw [hH]; exact hP
  have hS : va_S (sgA 26 h s.heap.size) s.heap H locs := by rw [hH, hlo]; exact hS
  suffices hgo : W p l e ({ frames := 0, cells := 0, slots := 0, locals := 0 }) s m ([.ref (h 0), .int 1] : List Value).toArray below meth cd H locs 0 0 Qz (F0 m 0 ls []) by rw [hH, hlo] at hgo; exact hgo
  clear hH hlo
  have o_1 : (f 0 48).toInt = 5 := (congrArg Int32.toInt (show f 0 48 = 5 from hf_0_48)).trans (by decide)
  have hF : sgK WkX12_begins_1_f5 f f := sgK.rf
  have blk_19 : ∀ (fp_19 : sg_F) (H : Heap) (locs : List Loc) (ls : Array Slot), 5 ≤ (fp_19 0 48).toInt ∧ (fp_19 0 48).toInt ≤ 5 → sgI loM hiM fp_19 → sgK WkX12_begins_1_f5 f fp_19 → va_P D vwCl (sgw 26 h (eM ca h) fp_19 L Q) H → va_S (sgA 26 h s.heap.size) s.heap H locs → lv_has ls 2 [(0, .ref (h 0))] → W p l e ({ frames := 0, cells := 0, slots := 0, locals := 0 }) s m ([.ref (h 0), .int 1] : List Value).toArray below meth cd H locs 0 0 Qz (F0 m 19 ls []) := by
    intro fp_19 H locs ls hy0_19 hI hF hP hS hl
    obtain ⟨v_2, ev_2⟩ : ∃ z : Int32, z = fp_19 0 48 := ⟨_, rfl⟩
    have q_3 : 0 ≤ v_2.toInt ∧ v_2.toInt ≤ 19 := by rw [ev_2]; exact hI 0 48
    have q_4 : (fp_19 0 48).toInt = v_2.toInt := by rw [ev_2]
    refine lv_aload_n hx hb dX12_begins_19 rfl (lv_at hl 0 rfl) ?_
    refine lv_dup hx hb dX12_begins_20 rfl ?_
    refine sg_get (ci := 12) (v := .int v_2) (C := RX12) (T := TX12) (N := 55) hx hb hts (fun w h => List.mem_cons_of_mem _ (gx_12 w h)) hown hK hP 0 (by decide) rfl rfl 48 (by decide) (hts _ (List.mem_cons_of_mem _ mw_621)) (fun _ h9 => h9) (congrArg (fun z => some (Value.int z)) (show fp_19 0 48 = v_2 from ev_2.symm)) dX12_begins_21 ?_
    refine lv_iconst (v := 1) hx hb dX12_begins_24 (by decide) ?_
    refine lv_iadd hx hb dX12_begins_25 ?_
    refine lv_topi (fun v_5 ev_5 => ?_)
    have q_6 : v_5.toInt = v_2.toInt + 1 := by rw [ev_5]; have k1 : (1 : Int32).toInt = 1 := (by decide); exact (bn_addI (by omega) (by omega)).trans (by omega)
    refine sg_put (ci := 12) (x := v_5) (ty := .int) (C := RX12) (T := TX12) (N := 55) hx hb hts (fun w h => List.mem_cons_of_mem _ (gx_12 w h)) tyX12 tyX12_ok nmX12 hown hh hA hK hP hS 0 (by decide) rfl rfl 48 (by decide) (hts _ (List.mem_cons_of_mem _ mw_621)) (fun _ h9 => h9) rfl rfl (by decide +kernel) rfl rfl (Nat.le_of_ble_eq_true rfl) dX12_begins_26 (fun f_7 H locs ef_7 hP hS => ?_)
    have hI : sgI loM hiM f_7 := by rw [ef_7]; exact sgI.put hI 0 48 (show 0 ≤ (v_5 : Int32).toInt ∧ (v_5 : Int32).toInt ≤ 19 from by omega)
    have hF : sgK WkX12_begins_1_f5 f f_7 := sgK.put hF ef_7 (by rfl)
    have q_8 : (f_7 0 48).toInt = v_5.toInt := (congrArg Int32.toInt (show f_7 0 48 = v_5 from (by rw [ef_7, sg_up_s, sgu_s])))
    have q_9 : (f_7 0 48).toInt = v_5.toInt := (congrArg Int32.toInt (show f_7 0 48 = v_5 from (by rw [ef_7, sg_up_s, sgu_s])))
    exact hret _ _ _ _ f_7 L Q dX12_begins_29 hP hS ⟨⟨hI, hF, rfl, rfl⟩, (by omega)⟩
  refine lv_aload_n hx hb dX12_begins_0 rfl (lv_at hl 0 rfl) ?_
  refine sg_get (ci := 12) (v := .int 5) (C := RX12) (T := TX12) (N := 55) hx hb hts (fun w h => List.mem_cons_of_mem _ (gx_12 w h)) hown hK hP 0 (by decide) rfl rfl 48 (by decide) (hts _ (List.mem_cons_of_mem _ mw_621)) (fun _ h9 => h9) (congrArg (fun z => some (Value.int z)) (show f 0 48 = 5 from hf_0_48)) dX12_begins_1 ?_
  refine lv_bipush (v := 24) hx hb dX12_begins_4 (by decide) ?_
  refine lv_icmp_ge (tgt := 19) hx hb dX12_begins_6 (by decide) (fun c => absurd c (by decide)) (fun c => ?_)
  refine lv_aload_n hx hb dX12_begins_9 rfl (lv_at hl 0 rfl) ?_
  refine sg_get (ci := 12) (v := .ref (h 21)) (C := RX12) (T := TX12) (N := 55) hx hb hts (fun w h => List.mem_cons_of_mem _ (gx_12 w h)) hown hK hP 0 (by decide) rfl rfl 47 (by decide) (hts _ (List.mem_cons_of_mem _ mw_718)) (fun _ h9 => h9) rfl dX12_begins_10 ?_
  refine lv_aload_n hx hb dX12_begins_13 rfl (lv_at hl 0 rfl) ?_
  refine sg_get (ci := 12) (v := .int 5) (C := RX12) (T := TX12) (N := 55) hx hb hts (fun w h => List.mem_cons_of_mem _ (gx_12 w h)) hown hK hP 0 (by decide) rfl rfl 48 (by decide) (hts _ (List.mem_cons_of_mem _ mw_621)) (fun _ h9 => h9) (congrArg (fun z => some (Value.int z)) (show f 0 48 = 5 from hf_0_48)) dX12_begins_14 ?_
  refine lv_iload_n hx hb dX12_begins_17 rfl (lv_at hl 1 rfl) ?_
  refine sg_iast hx hb hh hA hK hP hS 21 (by decide) 0 (fun _ => rfl) rfl (i := 5) (x := 1) (vp_in_iff.mpr (by decide)) dX12_begins_18 (fun f_10 H locs ef_10 hP hS => ?_)
  have hI : sgI loM hiM f_10 := by rw [ef_10]; exact sgI.put hI 21 (Int32.toNatClampNeg 5) (show 0 ≤ (1 : Int32).toInt ∧ (1 : Int32).toInt ≤ 81 from by decide)
  have hF : sgK WkX12_begins_1_f5 f f_10 := sgK.put hF ef_10 (by rfl)
  exact blk_19 f_10 _ _ _ (by have zz0_48 : (f_10 0 48).toInt = 5 := (congrArg Int32.toInt (show f_10 0 48 = 5 from (by rw [ef_10, sg_up_n (by decide)]; exact hf_0_48))).trans (by decide); omega) hI hF hP hS (lv_sub hl [0] rfl)

abbrev WkX12_setsAs_5_f5_f5 : List (Nat × Nat × Option Nat) := [(0, 0, some 48), (21, 21, none)]
set_option maxHeartbeats 4000000 in
set_option maxRecDepth 100000 in
theorem kX12_setsAs_5_f5_f5 (l : Launch) (D : va_G) (ca : Nat → ClassId) (za h : Nat → Nat) (hh : sgH 26 h) (f : sg_F) (L : sg_L) (Q : sg_Q) (hI : sgI loM hiM f) (x1 : Int32) (hf_0_48 : f 0 48 = 5) (hf_0_49 : f 0 49 = 5) (p0 : 5 ≤ (f 0 48).toInt ∧ (f 0 48).toInt ≤ 5) (sz : Nat) : Met l yX12_setsAs gwX12_setsAs { frames := 1, cells := 0, slots := 0, locals := 21 } (sgP D vwCl (tyX ca) 26 h (eM ca h) zcM za f L Q sz [.ref (h 0), .int 5, .int x1]) (sgQi D vwCl 26 h (eM ca h) sz (fun r f1 L1 Q1 => ((sgI loM hiM f1 ∧ sgK WkX12_setsAs_5_f5_f5 f f1 ∧ L1 = L ∧ Q1 = Q) ∧ True ∧ (6 ≤ (f1 0 48).toInt ∧ (f1 0 48).toInt ≤ 6)))) 0 0 (sgA 26 h sz) := by
  refine sg_ofWi (cc := cX12_setsAs) (maxL := 3) RX12 (by decide) rfl rfl (Nat.le_of_ble_eq_true rfl) ?_
  intro p e s m below meth cd Qz ls hx hb hml hown hts hK hZ hP hS hl hret
  have hA := sgY.self (n := 26) (h := h) (sz := s.heap.size)
  have hl : lv_has ls 3 [(0, .ref (h 0)), (1, .int 5), (2, .int x1)] := hl
  obtain ⟨H, hH⟩ : ∃ z : Heap, z = s.heap := ⟨_, rfl⟩
  obtain ⟨locs, hlo⟩ : ∃ z : List Loc, z = [] := ⟨_, rfl⟩
  have hP : va_P D vwCl (sgw 26 h (eM ca h) f L Q) H := by rw [hH]; exact hP
  have hS : va_S (sgA 26 h s.heap.size) s.heap H locs := by rw [hH, hlo]; exact hS
  suffices hgo : W p l e ({ frames := 1, cells := 0, slots := 0, locals := 21 }) s m ([.ref (h 0), .int 5, .int x1] : List Value).toArray below meth cd H locs 0 0 Qz (F0 m 0 ls []) by rw [hH, hlo] at hgo; exact hgo
  clear hH hlo
  have o_1 : (f 0 48).toInt = 5 := (congrArg Int32.toInt (show f 0 48 = 5 from hf_0_48)).trans (by decide)
  have hF : sgK WkX12_setsAs_5_f5_f5 f f := sgK.rf
  refine lv_iload_n hx hb dX12_setsAs_0 rfl (lv_at hl 1 rfl) ?_
  refine lv_iconst (v := 1) hx hb dX12_setsAs_1 (by decide) ?_
  refine lv_icmp_eq (tgt := 16) hx hb dX12_setsAs_2 (by decide) (fun c => absurd c (by decide)) (fun c => ?_)
  refine lv_iload_n hx hb dX12_setsAs_5 rfl (lv_at hl 1 rfl) ?_
  refine lv_iconst (v := 4) hx hb dX12_setsAs_6 (by decide) ?_
  refine lv_icmp_eq (tgt := 16) hx hb dX12_setsAs_7 (by decide) (fun c => absurd c (by decide)) (fun c => ?_)
  refine lv_iload_n hx hb dX12_setsAs_10 rfl (lv_at hl 1 rfl) ?_
  refine lv_bipush (v := 7) hx hb dX12_setsAs_11 (by decide) ?_
  refine lv_icmp_ne (tgt := 31) hx hb dX12_setsAs_13 (by decide) (fun c => ?_) (fun c => absurd c (by decide))
  refine lv_iload_n hx hb dX12_setsAs_31 rfl (lv_at hl 1 rfl) ?_
  refine lv_bipush (v := 6) hx hb dX12_setsAs_32 (by decide) ?_
  refine lv_icmp_ne (tgt := 52) hx hb dX12_setsAs_34 (by decide) (fun c => ?_) (fun c => absurd c (by decide))
  refine lv_aload_n hx hb dX12_setsAs_52 rfl (lv_at hl 0 rfl) ?_
  refine lv_iconst (v := 1) hx hb dX12_setsAs_53 (by decide) ?_
  have q_2 : (f 0 48).toInt = 5 := (congrArg Int32.toInt (show f 0 48 = 5 from hf_0_48)).trans (by decide)
  have q_3 : (f 0 48).toInt = 5 := (congrArg Int32.toInt (show f 0 48 = 5 from hf_0_48)).trans (by decide)
  refine sg_callv (va_runV (As := [.int 1]) (rest := []) ⟨hx, hb, hml, hown, hts⟩ (kX12_begins_1_f5 l D ca za h hh f L Q hI hf_0_48 (by have k0 : (1 : Int32).toInt = 1 := (by decide); omega) H.size) (cwV 1 hts (gw_V (fun _ h => List.mem_cons_of_mem _ h) mw_734 mw_735 mw_736 mw_619 mw_733) rfl rfl rfl (by decide +kernel) ⟨Nat.le_of_ble_eq_true rfl, Nat.le_of_ble_eq_true rfl⟩) (sg_preV (ci := 12) (C := RX12) (T := TX12) (N := 55) hA hK hP hS hZ 0 (by decide) rfl rfl) rfl rfl hl.1 rfl (lv_room (Nat.le_of_ble_eq_true rfl)) dX12_setsAs_54 ⟨Nat.le_refl _, Nat.le_refl _⟩) hA hS (fun f_4 L_5 Q_6 H locs hq hP hS => ?_)
  obtain ⟨⟨hI, hk_f_4, eL9, eQ9⟩, p_7⟩ := hq
  rw [eL9, eQ9] at hP; clear eL9 eQ9
  have hF : sgK WkX12_setsAs_5_f5_f5 f f_4 := sgK.tr hF hk_f_4 (by decide)
  obtain ⟨v_8, ev_8⟩ : ∃ z : Int32, z = f_4 0 48 := ⟨_, rfl⟩
  have q_9 : 0 ≤ v_8.toInt ∧ v_8.toInt ≤ 19 := by rw [ev_8]; exact hI 0 48
  have q_10 : (f_4 0 48).toInt = v_8.toInt := (congrArg Int32.toInt (show f_4 0 48 = v_8 from ev_8.symm))
  have q_11 : (f_4 0 48).toInt = v_8.toInt := (congrArg Int32.toInt (show f_4 0 48 = v_8 from ev_8.symm))
  refine lv_iload_n hx hb dX12_setsAs_57 rfl (lv_at hl 2 rfl) ?_
  refine lv_aload_n hx hb dX12_setsAs_58 rfl (lv_at hl 0 rfl) ?_
  refine sg_get (ci := 12) (v := .int (f_4 0 50)) (C := RX12) (T := TX12) (N := 55) hx hb hts (fun w h => List.mem_cons_of_mem _ (gx_12 w h)) hown hK hP 0 (by decide) rfl rfl 50 (by decide) (hts _ (List.mem_cons_of_mem _ mw_680)) (fun _ h9 => h9) rfl dX12_setsAs_59 ?_
  refine lv_topi (fun v_12 ev_12 => ?_)
  have q_13 : 0 ≤ v_12.toInt ∧ v_12.toInt ≤ 49 := by rw [ev_12]; exact hI 0 50
  refine lv_iadd hx hb dX12_setsAs_62 ?_
  refine lv_topi (fun v_14 ev_14 => ?_)
  have q_15 : (f_4 0 48).toInt = v_8.toInt := (congrArg Int32.toInt (show f_4 0 48 = v_8 from ev_8.symm))
  have q_16 : (f_4 0 48).toInt = v_8.toInt := (congrArg Int32.toInt (show f_4 0 48 = v_8 from ev_8.symm))
  exact hret _ _ _ _ (v_14) f_4 L Q dX12_setsAs_63 hP hS ⟨⟨hI, hF, rfl, rfl⟩, trivial, (by omega)⟩

abbrev WkX12_sitsAs_0_f4_f5 : List (Nat × Nat × Option Nat) := [(0, 0, some 48), (21, 21, none)]
set_option maxHeartbeats 4000000 in
set_option maxRecDepth 100000 in
theorem kX12_sitsAs_0_f4_f5 (l : Launch) (D : va_G) (ca : Nat → ClassId) (za h : Nat → Nat) (hh : sgH 26 h) (f : sg_F) (L : sg_L) (Q : sg_Q) (hI : sgI loM hiM f) (x1 : Int32) (hf_0_48 : f 0 48 = 4) (hf_0_49 : f 0 49 = 5) (p0 : 4 ≤ (f 0 48).toInt ∧ (f 0 48).toInt ≤ 4) (sz : Nat) : Met l yX12_sitsAs gwX12_sitsAs { frames := 2, cells := 0, slots := 0, locals := 43 } (sgP D vwCl (tyX ca) 26 h (eM ca h) zcM za f L Q sz [.ref (h 0), .int 0, .int x1]) (sgQi D vwCl 26 h (eM ca h) sz (fun r f1 L1 Q1 => ((sgI loM hiM f1 ∧ sgK WkX12_sitsAs_0_f4_f5 f f1 ∧ L1 = L ∧ Q1 = Q) ∧ True ∧ (6 ≤ (f1 0 48).toInt ∧ (f1 0 48).toInt ≤ 6)))) 0 0 (sgA 26 h sz) := by
  refine sg_ofWi (cc := cX12_sitsAs) (maxL := 4) RX12 (by decide) rfl rfl (Nat.le_of_ble_eq_true rfl) ?_
  intro p e s m below meth cd Qz ls hx hb hml hown hts hK hZ hP hS hl hret
  have hA := sgY.self (n := 26) (h := h) (sz := s.heap.size)
  have hl : lv_has ls 4 [(0, .ref (h 0)), (1, .int 0), (2, .int x1)] := hl
  obtain ⟨H, hH⟩ : ∃ z : Heap, z = s.heap := ⟨_, rfl⟩
  obtain ⟨locs, hlo⟩ : ∃ z : List Loc, z = [] := ⟨_, rfl⟩
  have hP : va_P D vwCl (sgw 26 h (eM ca h) f L Q) H := by rw [hH]; exact hP
  have hS : va_S (sgA 26 h s.heap.size) s.heap H locs := by rw [hH, hlo]; exact hS
  suffices hgo : W p l e ({ frames := 2, cells := 0, slots := 0, locals := 43 }) s m ([.ref (h 0), .int 0, .int x1] : List Value).toArray below meth cd H locs 0 0 Qz (F0 m 0 ls []) by rw [hH, hlo] at hgo; exact hgo
  clear hH hlo
  have o_1 : (f 0 48).toInt = 4 := (congrArg Int32.toInt (show f 0 48 = 4 from hf_0_48)).trans (by decide)
  have hF : sgK WkX12_sitsAs_0_f4_f5 f f := sgK.rf
  refine lv_iload_n hx hb dX12_sitsAs_0 rfl (lv_at hl 1 rfl) ?_
  refine lv_iconst (v := 3) hx hb dX12_sitsAs_1 (by decide) ?_
  refine lv_icmp_eq (tgt := 10) hx hb dX12_sitsAs_2 (by decide) (fun c => absurd c (by decide)) (fun c => ?_)
  refine lv_iload_n hx hb dX12_sitsAs_5 rfl (lv_at hl 1 rfl) ?_
  refine lv_iconst (v := 5) hx hb dX12_sitsAs_6 (by decide) ?_
  refine lv_icmp_ne (tgt := 25) hx hb dX12_sitsAs_7 (by decide) (fun c => ?_) (fun c => absurd c (by decide))
  refine lv_iload_n hx hb dX12_sitsAs_25 rfl (lv_at hl 1 rfl) ?_
  refine lv_iconst (v := 2) hx hb dX12_sitsAs_26 (by decide) ?_
  refine lv_icmp_ne (tgt := 44) hx hb dX12_sitsAs_27 (by decide) (fun c => ?_) (fun c => absurd c (by decide))
  refine lv_iload_n hx hb dX12_sitsAs_44 rfl (lv_at hl 1 rfl) ?_
  refine lv_bipush (v := 7) hx hb dX12_sitsAs_45 (by decide) ?_
  refine lv_icmp_ne (tgt := 75) hx hb dX12_sitsAs_47 (by decide) (fun c => ?_) (fun c => absurd c (by decide))
  refine lv_aload_n hx hb dX12_sitsAs_75 rfl (lv_at hl 0 rfl) ?_
  refine lv_bipush (v := 10) hx hb dX12_sitsAs_76 (by decide) ?_
  have q_2 : (f 0 48).toInt = 4 := (congrArg Int32.toInt (show f 0 48 = 4 from hf_0_48)).trans (by decide)
  have q_3 : (f 0 48).toInt = 4 := (congrArg Int32.toInt (show f 0 48 = 4 from hf_0_48)).trans (by decide)
  refine sg_callv (va_runV (As := [.int 10]) (rest := []) ⟨hx, hb, hml, hown, hts⟩ (kX12_begins_10_f4 l D ca za h hh f L Q hI hf_0_48 (by have k0 : (10 : Int32).toInt = 10 := (by decide); omega) H.size) (cwV 1 hts (gw_V (fun _ h => List.mem_cons_of_mem _ h) mw_734 mw_735 mw_736 mw_619 mw_733) rfl rfl rfl (by decide +kernel) ⟨Nat.le_of_ble_eq_true rfl, Nat.le_of_ble_eq_true rfl⟩) (sg_preV (ci := 12) (C := RX12) (T := TX12) (N := 55) hA hK hP hS hZ 0 (by decide) rfl rfl) rfl rfl hl.1 rfl (lv_room (Nat.le_of_ble_eq_true rfl)) dX12_sitsAs_78 ⟨Nat.le_refl _, Nat.le_refl _⟩) hA hS (fun f_4 L_5 Q_6 H locs hq hP hS => ?_)
  obtain ⟨⟨hI, hk_f_4, eL9, eQ9⟩, p_7⟩ := hq
  rw [eL9, eQ9] at hP; clear eL9 eQ9
  have hF : sgK WkX12_sitsAs_0_f4_f5 f f_4 := sgK.tr hF hk_f_4 (by decide)
  obtain ⟨v_8, ev_8⟩ : ∃ z : Int32, z = f_4 0 48 := ⟨_, rfl⟩
  have q_9 : 0 ≤ v_8.toInt ∧ v_8.toInt ≤ 19 := by rw [ev_8]; exact hI 0 48
  have q_10 : (f_4 0 48).toInt = v_8.toInt := (congrArg Int32.toInt (show f_4 0 48 = v_8 from ev_8.symm))
  have q_11 : (f_4 0 48).toInt = v_8.toInt := (congrArg Int32.toInt (show f_4 0 48 = v_8 from ev_8.symm))
  refine lv_aload_n hx hb dX12_sitsAs_81 rfl (lv_at hl 0 rfl) ?_
  refine lv_aload_n hx hb dX12_sitsAs_82 rfl (lv_at hl 0 rfl) ?_
  refine sg_get (ci := 12) (v := .int 5) (C := RX12) (T := TX12) (N := 55) hx hb hts (fun w h => List.mem_cons_of_mem _ (gx_12 w h)) hown hK hP 0 (by decide) rfl rfl 49 (by decide) (hts _ (List.mem_cons_of_mem _ mw_679)) (fun _ h9 => h9) (congrArg (fun z => some (Value.int z)) (show f_4 0 49 = 5 from ((hk_f_4 0 49 (by decide)).trans hf_0_49))) dX12_sitsAs_83 ?_
  refine lv_iload_n hx hb dX12_sitsAs_86 rfl (lv_at hl 2 rfl) ?_
  have c_12 : v_8 = 5 := Int32.toInt_inj.mp (by have k9 : (5 : Int32).toInt = 5 := (by decide); omega)
  have q_13 : (f_4 0 48).toInt = 5 := (congrArg Int32.toInt (show f_4 0 48 = 5 from (Eq.trans ev_8.symm c_12))).trans (by decide)
  have q_14 : (f_4 0 48).toInt = 5 := (congrArg Int32.toInt (show f_4 0 48 = 5 from (Eq.trans ev_8.symm c_12))).trans (by decide)
  refine sg_calli (va_runV (As := [.int 5, .int x1]) (rest := []) ⟨hx, hb, hml, hown, hts⟩ (kX12_setsAs_5_f5_f5 l D ca za h hh f_4 L Q hI x1 (Eq.trans ev_8.symm c_12) ((hk_f_4 0 49 (by decide)).trans hf_0_49) (by have k0 : (5 : Int32).toInt = 5 := (by decide); omega) H.size) (cwV 2 hts (gw_V (fun _ h => List.mem_cons_of_mem _ h) mw_744 mw_745 mw_746 mw_619 mw_743) rfl rfl rfl (by decide +kernel) ⟨Nat.le_of_ble_eq_true rfl, Nat.le_of_ble_eq_true rfl⟩) (sg_preV (ci := 12) (C := RX12) (T := TX12) (N := 55) hA hK hP hS hZ 0 (by decide) rfl rfl) rfl rfl hl.1 rfl (lv_room (Nat.le_of_ble_eq_true rfl)) dX12_sitsAs_87 ⟨Nat.le_refl _, Nat.le_refl _⟩) hA hS (fun r_18 f_15 L_16 Q_17 H locs hq hP hS => ?_)
  obtain ⟨⟨hI, hk_f_15, eL9, eQ9⟩, hq, p_19⟩ := hq
  rw [eL9, eQ9] at hP; clear eL9 eQ9
  have hF : sgK WkX12_sitsAs_0_f4_f5 f f_15 := sgK.tr hF hk_f_15 (by decide)
  obtain ⟨v_20, ev_20⟩ : ∃ z : Int32, z = f_15 0 48 := ⟨_, rfl⟩
  have q_21 : 0 ≤ v_20.toInt ∧ v_20.toInt ≤ 19 := by rw [ev_20]; exact hI 0 48
  have q_22 : (f_15 0 48).toInt = v_20.toInt := (congrArg Int32.toInt (show f_15 0 48 = v_20 from ev_20.symm))
  have q_23 : (f_15 0 48).toInt = v_20.toInt := (congrArg Int32.toInt (show f_15 0 48 = v_20 from ev_20.symm))
  have k_24 : (5 : Int32).toInt = 5 := by decide
  refine lv_iconst (v := 2) hx hb dX12_sitsAs_90 (by decide) ?_
  refine lv_imul hx hb dX12_sitsAs_91 ?_
  refine lv_topi (fun v_25 ev_25 => ?_)
  have q_26 : (f_15 0 48).toInt = v_20.toInt := (congrArg Int32.toInt (show f_15 0 48 = v_20 from ev_20.symm))
  have q_27 : (f_15 0 48).toInt = v_20.toInt := (congrArg Int32.toInt (show f_15 0 48 = v_20 from ev_20.symm))
  exact hret _ _ _ _ (v_25) f_15 L Q dX12_sitsAs_92 hP hS ⟨⟨hI, hF, rfl, rfl⟩, trivial, (by omega)⟩

abbrev WkX12_sitsAs_2_f3_f5 : List (Nat × Nat × Option Nat) := [(0, 0, some 48), (21, 21, none)]
set_option maxHeartbeats 4000000 in
set_option maxRecDepth 100000 in
theorem kX12_sitsAs_2_f3_f5 (l : Launch) (D : va_G) (ca : Nat → ClassId) (za h : Nat → Nat) (hh : sgH 26 h) (f : sg_F) (L : sg_L) (Q : sg_Q) (hI : sgI loM hiM f) (x1 : Int32) (hf_0_48 : f 0 48 = 3) (hf_0_49 : f 0 49 = 5) (p0 : 3 ≤ (f 0 48).toInt ∧ (f 0 48).toInt ≤ 3) (sz : Nat) : Met l yX12_sitsAs gwX12_sitsAs { frames := 3, cells := 0, slots := 0, locals := 66 } (sgP D vwCl (tyX ca) 26 h (eM ca h) zcM za f L Q sz [.ref (h 0), .int 2, .int x1]) (sgQi D vwCl 26 h (eM ca h) sz (fun r f1 L1 Q1 => ((sgI loM hiM f1 ∧ sgK WkX12_sitsAs_2_f3_f5 f f1 ∧ L1 = L ∧ Q1 = Q) ∧ True ∧ (6 ≤ (f1 0 48).toInt ∧ (f1 0 48).toInt ≤ 6)))) 0 0 (sgA 26 h sz) := by
  refine sg_ofWi (cc := cX12_sitsAs) (maxL := 4) RX12 (by decide) rfl rfl (Nat.le_of_ble_eq_true rfl) ?_
  intro p e s m below meth cd Qz ls hx hb hml hown hts hK hZ hP hS hl hret
  have hA := sgY.self (n := 26) (h := h) (sz := s.heap.size)
  have hl : lv_has ls 4 [(0, .ref (h 0)), (1, .int 2), (2, .int x1)] := hl
  obtain ⟨H, hH⟩ : ∃ z : Heap, z = s.heap := ⟨_, rfl⟩
  obtain ⟨locs, hlo⟩ : ∃ z : List Loc, z = [] := ⟨_, rfl⟩
  have hP : va_P D vwCl (sgw 26 h (eM ca h) f L Q) H := by rw [hH]; exact hP
  have hS : va_S (sgA 26 h s.heap.size) s.heap H locs := by rw [hH, hlo]; exact hS
  suffices hgo : W p l e ({ frames := 3, cells := 0, slots := 0, locals := 66 }) s m ([.ref (h 0), .int 2, .int x1] : List Value).toArray below meth cd H locs 0 0 Qz (F0 m 0 ls []) by rw [hH, hlo] at hgo; exact hgo
  clear hH hlo
  have o_1 : (f 0 48).toInt = 3 := (congrArg Int32.toInt (show f 0 48 = 3 from hf_0_48)).trans (by decide)
  have hF : sgK WkX12_sitsAs_2_f3_f5 f f := sgK.rf
  refine lv_iload_n hx hb dX12_sitsAs_0 rfl (lv_at hl 1 rfl) ?_
  refine lv_iconst (v := 3) hx hb dX12_sitsAs_1 (by decide) ?_
  refine lv_icmp_eq (tgt := 10) hx hb dX12_sitsAs_2 (by decide) (fun c => absurd c (by decide)) (fun c => ?_)
  refine lv_iload_n hx hb dX12_sitsAs_5 rfl (lv_at hl 1 rfl) ?_
  refine lv_iconst (v := 5) hx hb dX12_sitsAs_6 (by decide) ?_
  refine lv_icmp_ne (tgt := 25) hx hb dX12_sitsAs_7 (by decide) (fun c => ?_) (fun c => absurd c (by decide))
  refine lv_iload_n hx hb dX12_sitsAs_25 rfl (lv_at hl 1 rfl) ?_
  refine lv_iconst (v := 2) hx hb dX12_sitsAs_26 (by decide) ?_
  refine lv_icmp_ne (tgt := 44) hx hb dX12_sitsAs_27 (by decide) (fun c => absurd c (by decide)) (fun c => ?_)
  refine lv_aload_n hx hb dX12_sitsAs_30 rfl (lv_at hl 0 rfl) ?_
  refine lv_bipush (v := 30) hx hb dX12_sitsAs_31 (by decide) ?_
  have q_2 : (f 0 48).toInt = 3 := (congrArg Int32.toInt (show f 0 48 = 3 from hf_0_48)).trans (by decide)
  have q_3 : (f 0 48).toInt = 3 := (congrArg Int32.toInt (show f 0 48 = 3 from hf_0_48)).trans (by decide)
  refine sg_callv (va_runV (As := [.int 30]) (rest := []) ⟨hx, hb, hml, hown, hts⟩ (kX12_begins_30_f3 l D ca za h hh f L Q hI hf_0_48 (by have k0 : (30 : Int32).toInt = 30 := (by decide); omega) H.size) (cwV 1 hts (gw_V (fun _ h => List.mem_cons_of_mem _ h) mw_734 mw_735 mw_736 mw_619 mw_733) rfl rfl rfl (by decide +kernel) ⟨Nat.le_of_ble_eq_true rfl, Nat.le_of_ble_eq_true rfl⟩) (sg_preV (ci := 12) (C := RX12) (T := TX12) (N := 55) hA hK hP hS hZ 0 (by decide) rfl rfl) rfl rfl hl.1 rfl (lv_room (Nat.le_of_ble_eq_true rfl)) dX12_sitsAs_33 ⟨Nat.le_refl _, Nat.le_refl _⟩) hA hS (fun f_4 L_5 Q_6 H locs hq hP hS => ?_)
  obtain ⟨⟨hI, hk_f_4, eL9, eQ9⟩, p_7⟩ := hq
  rw [eL9, eQ9] at hP; clear eL9 eQ9
  have hF : sgK WkX12_sitsAs_2_f3_f5 f f_4 := sgK.tr hF hk_f_4 (by decide)
  obtain ⟨v_8, ev_8⟩ : ∃ z : Int32, z = f_4 0 48 := ⟨_, rfl⟩
  have q_9 : 0 ≤ v_8.toInt ∧ v_8.toInt ≤ 19 := by rw [ev_8]; exact hI 0 48
  have q_10 : (f_4 0 48).toInt = v_8.toInt := (congrArg Int32.toInt (show f_4 0 48 = v_8 from ev_8.symm))
  have q_11 : (f_4 0 48).toInt = v_8.toInt := (congrArg Int32.toInt (show f_4 0 48 = v_8 from ev_8.symm))
  refine lv_aload_n hx hb dX12_sitsAs_36 rfl (lv_at hl 0 rfl) ?_
  refine lv_iconst (v := 0) hx hb dX12_sitsAs_37 (by decide) ?_
  refine lv_iload_n hx hb dX12_sitsAs_38 rfl (lv_at hl 2 rfl) ?_
  have c_12 : v_8 = 4 := Int32.toInt_inj.mp (by have k9 : (4 : Int32).toInt = 4 := (by decide); omega)
  have q_13 : (f_4 0 48).toInt = 4 := (congrArg Int32.toInt (show f_4 0 48 = 4 from (Eq.trans ev_8.symm c_12))).trans (by decide)
  have q_14 : (f_4 0 48).toInt = 4 := (congrArg Int32.toInt (show f_4 0 48 = 4 from (Eq.trans ev_8.symm c_12))).trans (by decide)
  refine sg_calli (va_runV (As := [.int 0, .int x1]) (rest := []) ⟨hx, hb, hml, hown, hts⟩ (kX12_sitsAs_0_f4_f5 l D ca za h hh f_4 L Q hI x1 (Eq.trans ev_8.symm c_12) ((hk_f_4 0 49 (by decide)).trans hf_0_49) (by have k0 : (0 : Int32).toInt = 0 := (by decide); omega) H.size) (cwV 2 hts (gw_V (fun _ h => List.mem_cons_of_mem _ h) mw_801 mw_802 mw_803 mw_619 mw_800) rfl rfl rfl (by decide +kernel) ⟨Nat.le_of_ble_eq_true rfl, Nat.le_of_ble_eq_true rfl⟩) (sg_preV (ci := 12) (C := RX12) (T := TX12) (N := 55) hA hK hP hS hZ 0 (by decide) rfl rfl) rfl rfl hl.1 rfl (lv_room (Nat.le_of_ble_eq_true rfl)) dX12_sitsAs_39 ⟨Nat.le_refl _, Nat.le_refl _⟩) hA hS (fun r_18 f_15 L_16 Q_17 H locs hq hP hS => ?_)
  obtain ⟨⟨hI, hk_f_15, eL9, eQ9⟩, hq, p_19⟩ := hq
  rw [eL9, eQ9] at hP; clear eL9 eQ9
  have hF : sgK WkX12_sitsAs_2_f3_f5 f f_15 := sgK.tr hF hk_f_15 (by decide)
  obtain ⟨v_20, ev_20⟩ : ∃ z : Int32, z = f_15 0 48 := ⟨_, rfl⟩
  have q_21 : 0 ≤ v_20.toInt ∧ v_20.toInt ≤ 19 := by rw [ev_20]; exact hI 0 48
  have q_22 : (f_15 0 48).toInt = v_20.toInt := (congrArg Int32.toInt (show f_15 0 48 = v_20 from ev_20.symm))
  have q_23 : (f_15 0 48).toInt = v_20.toInt := (congrArg Int32.toInt (show f_15 0 48 = v_20 from ev_20.symm))
  have k_24 : (0 : Int32).toInt = 0 := by decide
  refine lv_ineg hx hb dX12_sitsAs_42 ?_
  refine lv_topi (fun v_25 ev_25 => ?_)
  have q_26 : (f_15 0 48).toInt = v_20.toInt := (congrArg Int32.toInt (show f_15 0 48 = v_20 from ev_20.symm))
  have q_27 : (f_15 0 48).toInt = v_20.toInt := (congrArg Int32.toInt (show f_15 0 48 = v_20 from ev_20.symm))
  exact hret _ _ _ _ (v_25) f_15 L Q dX12_sitsAs_43 hP hS ⟨⟨hI, hF, rfl, rfl⟩, trivial, (by omega)⟩

abbrev WkX12_sitsAs_5_f2_f5 : List (Nat × Nat × Option Nat) := [(0, 0, some 48), (21, 21, none)]
set_option maxHeartbeats 4000000 in
set_option maxRecDepth 100000 in
theorem kX12_sitsAs_5_f2_f5 (l : Launch) (D : va_G) (ca : Nat → ClassId) (za h : Nat → Nat) (hh : sgH 26 h) (f : sg_F) (L : sg_L) (Q : sg_Q) (hI : sgI loM hiM f) (x1 : Int32) (hf_0_48 : f 0 48 = 2) (hf_0_49 : f 0 49 = 5) (p0 : 2 ≤ (f 0 48).toInt ∧ (f 0 48).toInt ≤ 2) (sz : Nat) : Met l yX12_sitsAs gwX12_sitsAs { frames := 4, cells := 0, slots := 0, locals := 89 } (sgP D vwCl (tyX ca) 26 h (eM ca h) zcM za f L Q sz [.ref (h 0), .int 5, .int x1]) (sgQi D vwCl 26 h (eM ca h) sz (fun r f1 L1 Q1 => ((sgI loM hiM f1 ∧ sgK WkX12_sitsAs_5_f2_f5 f f1 ∧ L1 = L ∧ Q1 = Q) ∧ True ∧ (6 ≤ (f1 0 48).toInt ∧ (f1 0 48).toInt ≤ 6)))) 0 0 (sgA 26 h sz) := by
  refine sg_ofWi (cc := cX12_sitsAs) (maxL := 4) RX12 (by decide) rfl rfl (Nat.le_of_ble_eq_true rfl) ?_
  intro p e s m below meth cd Qz ls hx hb hml hown hts hK hZ hP hS hl hret
  have hA := sgY.self (n := 26) (h := h) (sz := s.heap.size)
  have hl : lv_has ls 4 [(0, .ref (h 0)), (1, .int 5), (2, .int x1)] := hl
  obtain ⟨H, hH⟩ : ∃ z : Heap, z = s.heap := ⟨_, rfl⟩
  obtain ⟨locs, hlo⟩ : ∃ z : List Loc, z = [] := ⟨_, rfl⟩
  have hP : va_P D vwCl (sgw 26 h (eM ca h) f L Q) H := by rw [hH]; exact hP
  have hS : va_S (sgA 26 h s.heap.size) s.heap H locs := by rw [hH, hlo]; exact hS
  suffices hgo : W p l e ({ frames := 4, cells := 0, slots := 0, locals := 89 }) s m ([.ref (h 0), .int 5, .int x1] : List Value).toArray below meth cd H locs 0 0 Qz (F0 m 0 ls []) by rw [hH, hlo] at hgo; exact hgo
  clear hH hlo
  have o_1 : (f 0 48).toInt = 2 := (congrArg Int32.toInt (show f 0 48 = 2 from hf_0_48)).trans (by decide)
  have hF : sgK WkX12_sitsAs_5_f2_f5 f f := sgK.rf
  have blk_10 : ∀ (fp_10 : sg_F) (H : Heap) (locs : List Loc) (ls : Array Slot), 2 ≤ (fp_10 0 48).toInt ∧ (fp_10 0 48).toInt ≤ 2 → 5 ≤ (fp_10 0 49).toInt ∧ (fp_10 0 49).toInt ≤ 5 → sgI loM hiM fp_10 → sgK WkX12_sitsAs_5_f2_f5 f fp_10 → va_P D vwCl (sgw 26 h (eM ca h) fp_10 L Q) H → va_S (sgA 26 h s.heap.size) s.heap H locs → lv_has ls 4 [(0, .ref (h 0)), (2, .int x1)] → W p l e ({ frames := 4, cells := 0, slots := 0, locals := 89 }) s m ([.ref (h 0), .int 5, .int x1] : List Value).toArray below meth cd H locs 0 0 Qz (F0 m 10 ls []) := by
    intro fp_10 H locs ls hy0_10 hy1_10 hI hF hP hS hl
    obtain ⟨v_2, ev_2⟩ : ∃ z : Int32, z = fp_10 0 48 := ⟨_, rfl⟩
    have q_3 : 0 ≤ v_2.toInt ∧ v_2.toInt ≤ 19 := by rw [ev_2]; exact hI 0 48
    have q_4 : (fp_10 0 48).toInt = v_2.toInt := by rw [ev_2]
    obtain ⟨v_5, ev_5⟩ : ∃ z : Int32, z = fp_10 0 49 := ⟨_, rfl⟩
    have q_6 : 0 ≤ v_5.toInt ∧ v_5.toInt ≤ 7 := by rw [ev_5]; exact hI 0 49
    have q_7 : (fp_10 0 49).toInt = v_5.toInt := by rw [ev_5]
    have m_8 : fp_10 0 49 = 5 := (hF 0 49 (by decide)).trans hf_0_49
    refine lv_aload_n hx hb dX12_sitsAs_10 rfl (lv_at hl 0 rfl) ?_
    refine lv_bipush (v := 41) hx hb dX12_sitsAs_11 (by decide) ?_
    have c_9 : v_2 = 2 := Int32.toInt_inj.mp (by have k9 : (2 : Int32).toInt = 2 := (by decide); omega)
    have q_10 : (fp_10 0 48).toInt = 2 := (congrArg Int32.toInt (show fp_10 0 48 = 2 from (Eq.trans ev_2.symm c_9))).trans (by decide)
    have q_11 : (fp_10 0 48).toInt = 2 := (congrArg Int32.toInt (show fp_10 0 48 = 2 from (Eq.trans ev_2.symm c_9))).trans (by decide)
    refine sg_callv (va_runV (As := [.int 41]) (rest := []) ⟨hx, hb, hml, hown, hts⟩ (kX12_begins_41_f2 l D ca za h hh fp_10 L Q hI (Eq.trans ev_2.symm c_9) (by have k0 : (41 : Int32).toInt = 41 := (by decide); omega) H.size) (cwV 1 hts (gw_V (fun _ h => List.mem_cons_of_mem _ h) mw_734 mw_735 mw_736 mw_619 mw_733) rfl rfl rfl (by decide +kernel) ⟨Nat.le_of_ble_eq_true rfl, Nat.le_of_ble_eq_true rfl⟩) (sg_preV (ci := 12) (C := RX12) (T := TX12) (N := 55) hA hK hP hS hZ 0 (by decide) rfl rfl) rfl rfl hl.1 rfl (lv_room (Nat.le_of_ble_eq_true rfl)) dX12_sitsAs_13 ⟨Nat.le_refl _, Nat.le_refl _⟩) hA hS (fun f_12 L_13 Q_14 H locs hq hP hS => ?_)
    obtain ⟨⟨hI, hk_f_12, eL9, eQ9⟩, p_15⟩ := hq
    rw [eL9, eQ9] at hP; clear eL9 eQ9
    have hF : sgK WkX12_sitsAs_5_f2_f5 f f_12 := sgK.tr hF hk_f_12 (by decide)
    obtain ⟨v_16, ev_16⟩ : ∃ z : Int32, z = f_12 0 48 := ⟨_, rfl⟩
    have q_17 : 0 ≤ v_16.toInt ∧ v_16.toInt ≤ 19 := by rw [ev_16]; exact hI 0 48
    have q_18 : (f_12 0 48).toInt = v_16.toInt := (congrArg Int32.toInt (show f_12 0 48 = v_16 from ev_16.symm))
    have q_19 : (f_12 0 48).toInt = v_16.toInt := (congrArg Int32.toInt (show f_12 0 48 = v_16 from ev_16.symm))
    refine lv_aload_n hx hb dX12_sitsAs_16 rfl (lv_at hl 0 rfl) ?_
    refine lv_iconst (v := 2) hx hb dX12_sitsAs_17 (by decide) ?_
    refine lv_iload_n hx hb dX12_sitsAs_18 rfl (lv_at hl 1 rfl) ?_
    refine lv_iconst (v := 1) hx hb dX12_sitsAs_19 (by decide) ?_
    refine lv_iadd hx hb dX12_sitsAs_20 ?_
    refine lv_topi (fun v_20 ev_20 => ?_)
    have c_21 : v_16 = 3 := Int32.toInt_inj.mp (by have k9 : (3 : Int32).toInt = 3 := (by decide); omega)
    have q_22 : (f_12 0 48).toInt = 3 := (congrArg Int32.toInt (show f_12 0 48 = 3 from (Eq.trans ev_16.symm c_21))).trans (by decide)
    have q_23 : (f_12 0 48).toInt = 3 := (congrArg Int32.toInt (show f_12 0 48 = 3 from (Eq.trans ev_16.symm c_21))).trans (by decide)
    refine sg_calli (va_runV (As := [.int 2, .int v_20]) (rest := []) ⟨hx, hb, hml, hown, hts⟩ (kX12_sitsAs_2_f3_f5 l D ca za h hh f_12 L Q hI v_20 (Eq.trans ev_16.symm c_21) ((hk_f_12 0 49 (by decide)).trans m_8) (by have k0 : (2 : Int32).toInt = 2 := (by decide); omega) H.size) (cwV 2 hts (gw_V (fun _ h => List.mem_cons_of_mem _ h) mw_801 mw_802 mw_803 mw_619 mw_800) rfl rfl rfl (by decide +kernel) ⟨Nat.le_of_ble_eq_true rfl, Nat.le_of_ble_eq_true rfl⟩) (sg_preV (ci := 12) (C := RX12) (T := TX12) (N := 55) hA hK hP hS hZ 0 (by decide) rfl rfl) rfl rfl hl.1 rfl (lv_room (Nat.le_of_ble_eq_true rfl)) dX12_sitsAs_21 ⟨Nat.le_refl _, Nat.le_refl _⟩) hA hS (fun r_27 f_24 L_25 Q_26 H locs hq hP hS => ?_)
    obtain ⟨⟨hI, hk_f_24, eL9, eQ9⟩, hq, p_28⟩ := hq
    rw [eL9, eQ9] at hP; clear eL9 eQ9
    have hF : sgK WkX12_sitsAs_5_f2_f5 f f_24 := sgK.tr hF hk_f_24 (by decide)
    obtain ⟨v_29, ev_29⟩ : ∃ z : Int32, z = f_24 0 48 := ⟨_, rfl⟩
    have q_30 : 0 ≤ v_29.toInt ∧ v_29.toInt ≤ 19 := by rw [ev_29]; exact hI 0 48
    have q_31 : (f_24 0 48).toInt = v_29.toInt := (congrArg Int32.toInt (show f_24 0 48 = v_29 from ev_29.symm))
    have q_32 : (f_24 0 48).toInt = v_29.toInt := (congrArg Int32.toInt (show f_24 0 48 = v_29 from ev_29.symm))
    have k_33 : (2 : Int32).toInt = 2 := by decide
    have q_34 : (f_24 0 48).toInt = v_29.toInt := (congrArg Int32.toInt (show f_24 0 48 = v_29 from ev_29.symm))
    have q_35 : (f_24 0 48).toInt = v_29.toInt := (congrArg Int32.toInt (show f_24 0 48 = v_29 from ev_29.symm))
    exact hret _ _ _ _ (r_27) f_24 L Q dX12_sitsAs_24 hP hS ⟨⟨hI, hF, rfl, rfl⟩, trivial, (by omega)⟩
  refine lv_iload_n hx hb dX12_sitsAs_0 rfl (lv_at hl 1 rfl) ?_
  refine lv_iconst (v := 3) hx hb dX12_sitsAs_1 (by decide) ?_
  refine lv_icmp_eq (tgt := 10) hx hb dX12_sitsAs_2 (by decide) (fun c => absurd c (by decide)) (fun c => ?_)
  refine lv_iload_n hx hb dX12_sitsAs_5 rfl (lv_at hl 1 rfl) ?_
  refine lv_iconst (v := 5) hx hb dX12_sitsAs_6 (by decide) ?_
  refine lv_icmp_ne (tgt := 25) hx hb dX12_sitsAs_7 (by decide) (fun c => absurd c (by decide)) (fun c => ?_)
  exact blk_10 f _ _ _ (by have zz0_48 : (f 0 48).toInt = 2 := (congrArg Int32.toInt (show f 0 48 = 2 from hf_0_48)).trans (by decide); omega) (by have zz0_49 : (f 0 49).toInt = 5 := (congrArg Int32.toInt (show f 0 49 = 5 from hf_0_49)).trans (by decide); omega) hI hF hP hS (lv_sub hl [0, 2] rfl)

abbrev WkX12_begins_40_f6 : List (Nat × Nat × Option Nat) := [(0, 0, some 48), (21, 21, none)]
set_option maxHeartbeats 4000000 in
set_option maxRecDepth 100000 in
theorem kX12_begins_40_f6 (l : Launch) (D : va_G) (ca : Nat → ClassId) (za h : Nat → Nat) (hh : sgH 26 h) (f : sg_F) (L : sg_L) (Q : sg_Q) (hI : sgI loM hiM f) (hf_0_48 : f 0 48 = 6) (p0 : 6 ≤ (f 0 48).toInt ∧ (f 0 48).toInt ≤ 6) (sz : Nat) : Met l yX12_begins gwX12_begins { frames := 0, cells := 0, slots := 0, locals := 0 } (sgP D vwCl (tyX ca) 26 h (eM ca h) zcM za f L Q sz [.ref (h 0), .int 40]) (sgQv D vwCl 26 h (eM ca h) sz (fun f1 L1 Q1 => ((sgI loM hiM f1 ∧ sgK WkX12_begins_40_f6 f f1 ∧ L1 = L ∧ Q1 = Q) ∧ (7 ≤ (f1 0 48).toInt ∧ (f1 0 48).toInt ≤ 7)))) 0 0 (sgA 26 h sz) := by
  refine sg_ofWv (cc := cX12_begins) (maxL := 2) RX12 (by decide) rfl rfl (Nat.le_of_ble_eq_true rfl) ?_
  intro p e s m below meth cd Qz ls hx hb hml hown hts hK hZ hP hS hl hret
  have hA := sgY.self (n := 26) (h := h) (sz := s.heap.size)
  have hl : lv_has ls 2 [(0, .ref (h 0)), (1, .int 40)] := hl
  obtain ⟨H, hH⟩ : ∃ z : Heap, z = s.heap := ⟨_, rfl⟩
  obtain ⟨locs, hlo⟩ : ∃ z : List Loc, z = [] := ⟨_, rfl⟩
  have hP : va_P D vwCl (sgw 26 h (eM ca h) f L Q) H := by rw [hH]; exact hP
  have hS : va_S (sgA 26 h s.heap.size) s.heap H locs := by rw [hH, hlo]; exact hS
  suffices hgo : W p l e ({ frames := 0, cells := 0, slots := 0, locals := 0 }) s m ([.ref (h 0), .int 40] : List Value).toArray below meth cd H locs 0 0 Qz (F0 m 0 ls []) by rw [hH, hlo] at hgo; exact hgo
  clear hH hlo
  have o_1 : (f 0 48).toInt = 6 := (congrArg Int32.toInt (show f 0 48 = 6 from hf_0_48)).trans (by decide)
  have hF : sgK WkX12_begins_40_f6 f f := sgK.rf
  have blk_19 : ∀ (fp_19 : sg_F) (H : Heap) (locs : List Loc) (ls : Array Slot), 6 ≤ (fp_19 0 48).toInt ∧ (fp_19 0 48).toInt ≤ 6 → sgI loM hiM fp_19 → sgK WkX12_begins_40_f6 f fp_19 → va_P D vwCl (sgw 26 h (eM ca h) fp_19 L Q) H → va_S (sgA 26 h s.heap.size) s.heap H locs → lv_has ls 2 [(0, .ref (h 0))] → W p l e ({ frames := 0, cells := 0, slots := 0, locals := 0 }) s m ([.ref (h 0), .int 40] : List Value).toArray below meth cd H locs 0 0 Qz (F0 m 19 ls []) := by
    intro fp_19 H locs ls hy0_19 hI hF hP hS hl
    obtain ⟨v_2, ev_2⟩ : ∃ z : Int32, z = fp_19 0 48 := ⟨_, rfl⟩
    have q_3 : 0 ≤ v_2.toInt ∧ v_2.toInt ≤ 19 := by rw [ev_2]; exact hI 0 48
    have q_4 : (fp_19 0 48).toInt = v_2.toInt := by rw [ev_2]
    refine lv_aload_n hx hb dX12_begins_19 rfl (lv_at hl 0 rfl) ?_
    refine lv_dup hx hb dX12_begins_20 rfl ?_
    refine sg_get (ci := 12) (v := .int v_2) (C := RX12) (T := TX12) (N := 55) hx hb hts (fun w h => List.mem_cons_of_mem _ (gx_12 w h)) hown hK hP 0 (by decide) rfl rfl 48 (by decide) (hts _ (List.mem_cons_of_mem _ mw_621)) (fun _ h9 => h9) (congrArg (fun z => some (Value.int z)) (show fp_19 0 48 = v_2 from ev_2.symm)) dX12_begins_21 ?_
    refine lv_iconst (v := 1) hx hb dX12_begins_24 (by decide) ?_
    refine lv_iadd hx hb dX12_begins_25 ?_
    refine lv_topi (fun v_5 ev_5 => ?_)
    have q_6 : v_5.toInt = v_2.toInt + 1 := by rw [ev_5]; have k1 : (1 : Int32).toInt = 1 := (by decide); exact (bn_addI (by omega) (by omega)).trans (by omega)
    refine sg_put (ci := 12) (x := v_5) (ty := .int) (C := RX12) (T := TX12) (N := 55) hx hb hts (fun w h => List.mem_cons_of_mem _ (gx_12 w h)) tyX12 tyX12_ok nmX12 hown hh hA hK hP hS 0 (by decide) rfl rfl 48 (by decide) (hts _ (List.mem_cons_of_mem _ mw_621)) (fun _ h9 => h9) rfl rfl (by decide +kernel) rfl rfl (Nat.le_of_ble_eq_true rfl) dX12_begins_26 (fun f_7 H locs ef_7 hP hS => ?_)
    have hI : sgI loM hiM f_7 := by rw [ef_7]; exact sgI.put hI 0 48 (show 0 ≤ (v_5 : Int32).toInt ∧ (v_5 : Int32).toInt ≤ 19 from by omega)
    have hF : sgK WkX12_begins_40_f6 f f_7 := sgK.put hF ef_7 (by rfl)
    have q_8 : (f_7 0 48).toInt = v_5.toInt := (congrArg Int32.toInt (show f_7 0 48 = v_5 from (by rw [ef_7, sg_up_s, sgu_s])))
    have q_9 : (f_7 0 48).toInt = v_5.toInt := (congrArg Int32.toInt (show f_7 0 48 = v_5 from (by rw [ef_7, sg_up_s, sgu_s])))
    exact hret _ _ _ _ f_7 L Q dX12_begins_29 hP hS ⟨⟨hI, hF, rfl, rfl⟩, (by omega)⟩
  refine lv_aload_n hx hb dX12_begins_0 rfl (lv_at hl 0 rfl) ?_
  refine sg_get (ci := 12) (v := .int 6) (C := RX12) (T := TX12) (N := 55) hx hb hts (fun w h => List.mem_cons_of_mem _ (gx_12 w h)) hown hK hP 0 (by decide) rfl rfl 48 (by decide) (hts _ (List.mem_cons_of_mem _ mw_621)) (fun _ h9 => h9) (congrArg (fun z => some (Value.int z)) (show f 0 48 = 6 from hf_0_48)) dX12_begins_1 ?_
  refine lv_bipush (v := 24) hx hb dX12_begins_4 (by decide) ?_
  refine lv_icmp_ge (tgt := 19) hx hb dX12_begins_6 (by decide) (fun c => absurd c (by decide)) (fun c => ?_)
  refine lv_aload_n hx hb dX12_begins_9 rfl (lv_at hl 0 rfl) ?_
  refine sg_get (ci := 12) (v := .ref (h 21)) (C := RX12) (T := TX12) (N := 55) hx hb hts (fun w h => List.mem_cons_of_mem _ (gx_12 w h)) hown hK hP 0 (by decide) rfl rfl 47 (by decide) (hts _ (List.mem_cons_of_mem _ mw_718)) (fun _ h9 => h9) rfl dX12_begins_10 ?_
  refine lv_aload_n hx hb dX12_begins_13 rfl (lv_at hl 0 rfl) ?_
  refine sg_get (ci := 12) (v := .int 6) (C := RX12) (T := TX12) (N := 55) hx hb hts (fun w h => List.mem_cons_of_mem _ (gx_12 w h)) hown hK hP 0 (by decide) rfl rfl 48 (by decide) (hts _ (List.mem_cons_of_mem _ mw_621)) (fun _ h9 => h9) (congrArg (fun z => some (Value.int z)) (show f 0 48 = 6 from hf_0_48)) dX12_begins_14 ?_
  refine lv_iload_n hx hb dX12_begins_17 rfl (lv_at hl 1 rfl) ?_
  refine sg_iast hx hb hh hA hK hP hS 21 (by decide) 0 (fun _ => rfl) rfl (i := 6) (x := 40) (vp_in_iff.mpr (by decide)) dX12_begins_18 (fun f_10 H locs ef_10 hP hS => ?_)
  have hI : sgI loM hiM f_10 := by rw [ef_10]; exact sgI.put hI 21 (Int32.toNatClampNeg 6) (show 0 ≤ (40 : Int32).toInt ∧ (40 : Int32).toInt ≤ 81 from by decide)
  have hF : sgK WkX12_begins_40_f6 f f_10 := sgK.put hF ef_10 (by rfl)
  exact blk_19 f_10 _ _ _ (by have zz0_48 : (f_10 0 48).toInt = 6 := (congrArg Int32.toInt (show f_10 0 48 = 6 from (by rw [ef_10, sg_up_n (by decide)]; exact hf_0_48))).trans (by decide); omega) hI hF hP hS (lv_sub hl [0] rfl)

abbrev WkX12_begins_11_f7 : List (Nat × Nat × Option Nat) := [(0, 0, some 48), (21, 21, none)]
set_option maxHeartbeats 4000000 in
set_option maxRecDepth 100000 in
theorem kX12_begins_11_f7 (l : Launch) (D : va_G) (ca : Nat → ClassId) (za h : Nat → Nat) (hh : sgH 26 h) (f : sg_F) (L : sg_L) (Q : sg_Q) (hI : sgI loM hiM f) (hf_0_48 : f 0 48 = 7) (p0 : 7 ≤ (f 0 48).toInt ∧ (f 0 48).toInt ≤ 7) (sz : Nat) : Met l yX12_begins gwX12_begins { frames := 0, cells := 0, slots := 0, locals := 0 } (sgP D vwCl (tyX ca) 26 h (eM ca h) zcM za f L Q sz [.ref (h 0), .int 11]) (sgQv D vwCl 26 h (eM ca h) sz (fun f1 L1 Q1 => ((sgI loM hiM f1 ∧ sgK WkX12_begins_11_f7 f f1 ∧ L1 = L ∧ Q1 = Q) ∧ (8 ≤ (f1 0 48).toInt ∧ (f1 0 48).toInt ≤ 8)))) 0 0 (sgA 26 h sz) := by
  refine sg_ofWv (cc := cX12_begins) (maxL := 2) RX12 (by decide) rfl rfl (Nat.le_of_ble_eq_true rfl) ?_
  intro p e s m below meth cd Qz ls hx hb hml hown hts hK hZ hP hS hl hret
  have hA := sgY.self (n := 26) (h := h) (sz := s.heap.size)
  have hl : lv_has ls 2 [(0, .ref (h 0)), (1, .int 11)] := hl
  obtain ⟨H, hH⟩ : ∃ z : Heap, z = s.heap := ⟨_, rfl⟩
  obtain ⟨locs, hlo⟩ : ∃ z : List Loc, z = [] := ⟨_, rfl⟩
  have hP : va_P D vwCl (sgw 26 h (eM ca h) f L Q) H := by rw [hH]; exact hP
  have hS : va_S (sgA 26 h s.heap.size) s.heap H locs := by rw [hH, hlo]; exact hS
  suffices hgo : W p l e ({ frames := 0, cells := 0, slots := 0, locals := 0 }) s m ([.ref (h 0), .int 11] : List Value).toArray below meth cd H locs 0 0 Qz (F0 m 0 ls []) by rw [hH, hlo] at hgo; exact hgo
  clear hH hlo
  have o_1 : (f 0 48).toInt = 7 := (congrArg Int32.toInt (show f 0 48 = 7 from hf_0_48)).trans (by decide)
  have hF : sgK WkX12_begins_11_f7 f f := sgK.rf
  have blk_19 : ∀ (fp_19 : sg_F) (H : Heap) (locs : List Loc) (ls : Array Slot), 7 ≤ (fp_19 0 48).toInt ∧ (fp_19 0 48).toInt ≤ 7 → sgI loM hiM fp_19 → sgK WkX12_begins_11_f7 f fp_19 → va_P D vwCl (sgw 26 h (eM ca h) fp_19 L Q) H → va_S (sgA 26 h s.heap.size) s.heap H locs → lv_has ls 2 [(0, .ref (h 0))] → W p l e ({ frames := 0, cells := 0, slots := 0, locals := 0 }) s m ([.ref (h 0), .int 11] : List Value).toArray below meth cd H locs 0 0 Qz (F0 m 19 ls []) := by
    intro fp_19 H locs ls hy0_19 hI hF hP hS hl
    obtain ⟨v_2, ev_2⟩ : ∃ z : Int32, z = fp_19 0 48 := ⟨_, rfl⟩
    have q_3 : 0 ≤ v_2.toInt ∧ v_2.toInt ≤ 19 := by rw [ev_2]; exact hI 0 48
    have q_4 : (fp_19 0 48).toInt = v_2.toInt := by rw [ev_2]
    refine lv_aload_n hx hb dX12_begins_19 rfl (lv_at hl 0 rfl) ?_
    refine lv_dup hx hb dX12_begins_20 rfl ?_
    refine sg_get (ci := 12) (v := .int v_2) (C := RX12) (T := TX12) (N := 55) hx hb hts (fun w h => List.mem_cons_of_mem _ (gx_12 w h)) hown hK hP 0 (by decide) rfl rfl 48 (by decide) (hts _ (List.mem_cons_of_mem _ mw_621)) (fun _ h9 => h9) (congrArg (fun z => some (Value.int z)) (show fp_19 0 48 = v_2 from ev_2.symm)) dX12_begins_21 ?_
    refine lv_iconst (v := 1) hx hb dX12_begins_24 (by decide) ?_
    refine lv_iadd hx hb dX12_begins_25 ?_
    refine lv_topi (fun v_5 ev_5 => ?_)
    have q_6 : v_5.toInt = v_2.toInt + 1 := by rw [ev_5]; have k1 : (1 : Int32).toInt = 1 := (by decide); exact (bn_addI (by omega) (by omega)).trans (by omega)
    refine sg_put (ci := 12) (x := v_5) (ty := .int) (C := RX12) (T := TX12) (N := 55) hx hb hts (fun w h => List.mem_cons_of_mem _ (gx_12 w h)) tyX12 tyX12_ok nmX12 hown hh hA hK hP hS 0 (by decide) rfl rfl 48 (by decide) (hts _ (List.mem_cons_of_mem _ mw_621)) (fun _ h9 => h9) rfl rfl (by decide +kernel) rfl rfl (Nat.le_of_ble_eq_true rfl) dX12_begins_26 (fun f_7 H locs ef_7 hP hS => ?_)
    have hI : sgI loM hiM f_7 := by rw [ef_7]; exact sgI.put hI 0 48 (show 0 ≤ (v_5 : Int32).toInt ∧ (v_5 : Int32).toInt ≤ 19 from by omega)
    have hF : sgK WkX12_begins_11_f7 f f_7 := sgK.put hF ef_7 (by rfl)
    have q_8 : (f_7 0 48).toInt = v_5.toInt := (congrArg Int32.toInt (show f_7 0 48 = v_5 from (by rw [ef_7, sg_up_s, sgu_s])))
    have q_9 : (f_7 0 48).toInt = v_5.toInt := (congrArg Int32.toInt (show f_7 0 48 = v_5 from (by rw [ef_7, sg_up_s, sgu_s])))
    exact hret _ _ _ _ f_7 L Q dX12_begins_29 hP hS ⟨⟨hI, hF, rfl, rfl⟩, (by omega)⟩
  refine lv_aload_n hx hb dX12_begins_0 rfl (lv_at hl 0 rfl) ?_
  refine sg_get (ci := 12) (v := .int 7) (C := RX12) (T := TX12) (N := 55) hx hb hts (fun w h => List.mem_cons_of_mem _ (gx_12 w h)) hown hK hP 0 (by decide) rfl rfl 48 (by decide) (hts _ (List.mem_cons_of_mem _ mw_621)) (fun _ h9 => h9) (congrArg (fun z => some (Value.int z)) (show f 0 48 = 7 from hf_0_48)) dX12_begins_1 ?_
  refine lv_bipush (v := 24) hx hb dX12_begins_4 (by decide) ?_
  refine lv_icmp_ge (tgt := 19) hx hb dX12_begins_6 (by decide) (fun c => absurd c (by decide)) (fun c => ?_)
  refine lv_aload_n hx hb dX12_begins_9 rfl (lv_at hl 0 rfl) ?_
  refine sg_get (ci := 12) (v := .ref (h 21)) (C := RX12) (T := TX12) (N := 55) hx hb hts (fun w h => List.mem_cons_of_mem _ (gx_12 w h)) hown hK hP 0 (by decide) rfl rfl 47 (by decide) (hts _ (List.mem_cons_of_mem _ mw_718)) (fun _ h9 => h9) rfl dX12_begins_10 ?_
  refine lv_aload_n hx hb dX12_begins_13 rfl (lv_at hl 0 rfl) ?_
  refine sg_get (ci := 12) (v := .int 7) (C := RX12) (T := TX12) (N := 55) hx hb hts (fun w h => List.mem_cons_of_mem _ (gx_12 w h)) hown hK hP 0 (by decide) rfl rfl 48 (by decide) (hts _ (List.mem_cons_of_mem _ mw_621)) (fun _ h9 => h9) (congrArg (fun z => some (Value.int z)) (show f 0 48 = 7 from hf_0_48)) dX12_begins_14 ?_
  refine lv_iload_n hx hb dX12_begins_17 rfl (lv_at hl 1 rfl) ?_
  refine sg_iast hx hb hh hA hK hP hS 21 (by decide) 0 (fun _ => rfl) rfl (i := 7) (x := 11) (vp_in_iff.mpr (by decide)) dX12_begins_18 (fun f_10 H locs ef_10 hP hS => ?_)
  have hI : sgI loM hiM f_10 := by rw [ef_10]; exact sgI.put hI 21 (Int32.toNatClampNeg 7) (show 0 ≤ (11 : Int32).toInt ∧ (11 : Int32).toInt ≤ 81 from by decide)
  have hF : sgK WkX12_begins_11_f7 f f_10 := sgK.put hF ef_10 (by rfl)
  exact blk_19 f_10 _ _ _ (by have zz0_48 : (f_10 0 48).toInt = 7 := (congrArg Int32.toInt (show f_10 0 48 = 7 from (by rw [ef_10, sg_up_n (by decide)]; exact hf_0_48))).trans (by decide); omega) hI hF hP hS (lv_sub hl [0] rfl)

abbrev WkX12_slipsAs_2_f7_f5 : List (Nat × Nat × Option Nat) := [(0, 0, some 48), (21, 21, none)]
set_option maxHeartbeats 4000000 in
set_option maxRecDepth 100000 in
theorem kX12_slipsAs_2_f7_f5 (l : Launch) (D : va_G) (ca : Nat → ClassId) (za h : Nat → Nat) (hh : sgH 26 h) (f : sg_F) (L : sg_L) (Q : sg_Q) (hI : sgI loM hiM f) (x1 : Int32) (hf_0_48 : f 0 48 = 7) (hf_0_49 : f 0 49 = 5) (b1 : 1 ≤ x1.toInt ∧ x1.toInt ≤ 1) (p0 : 7 ≤ (f 0 48).toInt ∧ (f 0 48).toInt ≤ 7) (sz : Nat) : Met l yX12_slipsAs gwX12_slipsAs { frames := 1, cells := 0, slots := 0, locals := 21 } (sgP D vwCl (tyX ca) 26 h (eM ca h) zcM za f L Q sz [.ref (h 0), .int 2, .int x1]) (sgQi D vwCl 26 h (eM ca h) sz (fun r f1 L1 Q1 => ((sgI loM hiM f1 ∧ sgK WkX12_slipsAs_2_f7_f5 f f1 ∧ L1 = L ∧ Q1 = Q) ∧ True ∧ (8 ≤ (f1 0 48).toInt ∧ (f1 0 48).toInt ≤ 8)))) 0 0 (sgA 26 h sz) := by
  refine sg_ofWi (cc := cX12_slipsAs) (maxL := 4) RX12 (by decide) rfl rfl (Nat.le_of_ble_eq_true rfl) ?_
  intro p e s m below meth cd Qz ls hx hb hml hown hts hK hZ hP hS hl hret
  have hA := sgY.self (n := 26) (h := h) (sz := s.heap.size)
  have hl : lv_has ls 4 [(0, .ref (h 0)), (1, .int 2), (2, .int x1)] := hl
  obtain ⟨H, hH⟩ : ∃ z : Heap, z = s.heap := ⟨_, rfl⟩
  obtain ⟨locs, hlo⟩ : ∃ z : List Loc, z = [] := ⟨_, rfl⟩
  have hP : va_P D vwCl (sgw 26 h (eM ca h) f L Q) H := by rw [hH]; exact hP
  have hS : va_S (sgA 26 h s.heap.size) s.heap H locs := by rw [hH, hlo]; exact hS
  suffices hgo : W p l e ({ frames := 1, cells := 0, slots := 0, locals := 21 }) s m ([.ref (h 0), .int 2, .int x1] : List Value).toArray below meth cd H locs 0 0 Qz (F0 m 0 ls []) by rw [hH, hlo] at hgo; exact hgo
  clear hH hlo
  have o_1 : (f 0 48).toInt = 7 := (congrArg Int32.toInt (show f 0 48 = 7 from hf_0_48)).trans (by decide)
  have hF : sgK WkX12_slipsAs_2_f7_f5 f f := sgK.rf
  refine lv_iload_n hx hb dX12_slipsAs_0 rfl (lv_at hl 1 rfl) ?_
  refine lv_iconst (v := 3) hx hb dX12_slipsAs_1 (by decide) ?_
  refine lv_icmp_eq (tgt := 10) hx hb dX12_slipsAs_2 (by decide) (fun c => absurd c (by decide)) (fun c => ?_)
  refine lv_iload_n hx hb dX12_slipsAs_5 rfl (lv_at hl 1 rfl) ?_
  refine lv_iconst (v := 5) hx hb dX12_slipsAs_6 (by decide) ?_
  refine lv_icmp_ne (tgt := 25) hx hb dX12_slipsAs_7 (by decide) (fun c => ?_) (fun c => absurd c (by decide))
  refine lv_iload_n hx hb dX12_slipsAs_25 rfl (lv_at hl 1 rfl) ?_
  refine lv_iconst (v := 4) hx hb dX12_slipsAs_26 (by decide) ?_
  refine lv_icmp_eq (tgt := 36) hx hb dX12_slipsAs_27 (by decide) (fun c => absurd c (by decide)) (fun c => ?_)
  refine lv_iload_n hx hb dX12_slipsAs_30 rfl (lv_at hl 1 rfl) ?_
  refine lv_bipush (v := 7) hx hb dX12_slipsAs_31 (by decide) ?_
  refine lv_icmp_ne (tgt := 61) hx hb dX12_slipsAs_33 (by decide) (fun c => ?_) (fun c => absurd c (by decide))
  refine lv_aload_n hx hb dX12_slipsAs_61 rfl (lv_at hl 0 rfl) ?_
  refine lv_bipush (v := 11) hx hb dX12_slipsAs_62 (by decide) ?_
  have q_2 : (f 0 48).toInt = 7 := (congrArg Int32.toInt (show f 0 48 = 7 from hf_0_48)).trans (by decide)
  have q_3 : (f 0 48).toInt = 7 := (congrArg Int32.toInt (show f 0 48 = 7 from hf_0_48)).trans (by decide)
  refine sg_callv (va_runV (As := [.int 11]) (rest := []) ⟨hx, hb, hml, hown, hts⟩ (kX12_begins_11_f7 l D ca za h hh f L Q hI hf_0_48 (by have k0 : (11 : Int32).toInt = 11 := (by decide); omega) H.size) (cwV 1 hts (gw_V (fun _ h => List.mem_cons_of_mem _ h) mw_734 mw_735 mw_736 mw_619 mw_733) rfl rfl rfl (by decide +kernel) ⟨Nat.le_of_ble_eq_true rfl, Nat.le_of_ble_eq_true rfl⟩) (sg_preV (ci := 12) (C := RX12) (T := TX12) (N := 55) hA hK hP hS hZ 0 (by decide) rfl rfl) rfl rfl hl.1 rfl (lv_room (Nat.le_of_ble_eq_true rfl)) dX12_slipsAs_64 ⟨Nat.le_refl _, Nat.le_refl _⟩) hA hS (fun f_4 L_5 Q_6 H locs hq hP hS => ?_)
  obtain ⟨⟨hI, hk_f_4, eL9, eQ9⟩, p_7⟩ := hq
  rw [eL9, eQ9] at hP; clear eL9 eQ9
  have hF : sgK WkX12_slipsAs_2_f7_f5 f f_4 := sgK.tr hF hk_f_4 (by decide)
  obtain ⟨v_8, ev_8⟩ : ∃ z : Int32, z = f_4 0 48 := ⟨_, rfl⟩
  have q_9 : 0 ≤ v_8.toInt ∧ v_8.toInt ≤ 19 := by rw [ev_8]; exact hI 0 48
  have q_10 : (f_4 0 48).toInt = v_8.toInt := (congrArg Int32.toInt (show f_4 0 48 = v_8 from ev_8.symm))
  have q_11 : (f_4 0 48).toInt = v_8.toInt := (congrArg Int32.toInt (show f_4 0 48 = v_8 from ev_8.symm))
  refine lv_iload_n hx hb dX12_slipsAs_67 rfl (lv_at hl 2 rfl) ?_
  refine lv_aload_n hx hb dX12_slipsAs_68 rfl (lv_at hl 0 rfl) ?_
  refine sg_get (ci := 12) (v := .int (f_4 0 50)) (C := RX12) (T := TX12) (N := 55) hx hb hts (fun w h => List.mem_cons_of_mem _ (gx_12 w h)) hown hK hP 0 (by decide) rfl rfl 50 (by decide) (hts _ (List.mem_cons_of_mem _ mw_680)) (fun _ h9 => h9) rfl dX12_slipsAs_69 ?_
  refine lv_topi (fun v_12 ev_12 => ?_)
  have q_13 : 0 ≤ v_12.toInt ∧ v_12.toInt ≤ 49 := by rw [ev_12]; exact hI 0 50
  refine lv_ixor hx hb dX12_slipsAs_72 ?_
  refine lv_topi (fun v_14 ev_14 => ?_)
  have q_15 : (f_4 0 48).toInt = v_8.toInt := (congrArg Int32.toInt (show f_4 0 48 = v_8 from ev_8.symm))
  have q_16 : (f_4 0 48).toInt = v_8.toInt := (congrArg Int32.toInt (show f_4 0 48 = v_8 from ev_8.symm))
  exact hret _ _ _ _ (v_14) f_4 L Q dX12_slipsAs_73 hP hS ⟨⟨hI, hF, rfl, rfl⟩, trivial, (by omega)⟩

abbrev WkX12_slipsAs_5_f6_f5 : List (Nat × Nat × Option Nat) := [(0, 0, some 48), (21, 21, none)]
set_option maxHeartbeats 4000000 in
set_option maxRecDepth 100000 in
theorem kX12_slipsAs_5_f6_f5 (l : Launch) (D : va_G) (ca : Nat → ClassId) (za h : Nat → Nat) (hh : sgH 26 h) (f : sg_F) (L : sg_L) (Q : sg_Q) (hI : sgI loM hiM f) (x1 : Int32) (hf_0_48 : f 0 48 = 6) (hf_0_49 : f 0 49 = 5) (b1 : 1 ≤ x1.toInt ∧ x1.toInt ≤ 1) (p0 : 6 ≤ (f 0 48).toInt ∧ (f 0 48).toInt ≤ 6) (sz : Nat) : Met l yX12_slipsAs gwX12_slipsAs { frames := 2, cells := 0, slots := 0, locals := 44 } (sgP D vwCl (tyX ca) 26 h (eM ca h) zcM za f L Q sz [.ref (h 0), .int 5, .int x1]) (sgQi D vwCl 26 h (eM ca h) sz (fun r f1 L1 Q1 => ((sgI loM hiM f1 ∧ sgK WkX12_slipsAs_5_f6_f5 f f1 ∧ L1 = L ∧ Q1 = Q) ∧ True ∧ (8 ≤ (f1 0 48).toInt ∧ (f1 0 48).toInt ≤ 8)))) 0 0 (sgA 26 h sz) := by
  refine sg_ofWi (cc := cX12_slipsAs) (maxL := 4) RX12 (by decide) rfl rfl (Nat.le_of_ble_eq_true rfl) ?_
  intro p e s m below meth cd Qz ls hx hb hml hown hts hK hZ hP hS hl hret
  have hA := sgY.self (n := 26) (h := h) (sz := s.heap.size)
  have hl : lv_has ls 4 [(0, .ref (h 0)), (1, .int 5), (2, .int x1)] := hl
  obtain ⟨H, hH⟩ : ∃ z : Heap, z = s.heap := ⟨_, rfl⟩
  obtain ⟨locs, hlo⟩ : ∃ z : List Loc, z = [] := ⟨_, rfl⟩
  have hP : va_P D vwCl (sgw 26 h (eM ca h) f L Q) H := by rw [hH]; exact hP
  have hS : va_S (sgA 26 h s.heap.size) s.heap H locs := by rw [hH, hlo]; exact hS
  suffices hgo : W p l e ({ frames := 2, cells := 0, slots := 0, locals := 44 }) s m ([.ref (h 0), .int 5, .int x1] : List Value).toArray below meth cd H locs 0 0 Qz (F0 m 0 ls []) by rw [hH, hlo] at hgo; exact hgo
  clear hH hlo
  have o_1 : (f 0 48).toInt = 6 := (congrArg Int32.toInt (show f 0 48 = 6 from hf_0_48)).trans (by decide)
  have hF : sgK WkX12_slipsAs_5_f6_f5 f f := sgK.rf
  have blk_10 : ∀ (fp_10 : sg_F) (H : Heap) (locs : List Loc) (ls : Array Slot), 6 ≤ (fp_10 0 48).toInt ∧ (fp_10 0 48).toInt ≤ 6 → 5 ≤ (fp_10 0 49).toInt ∧ (fp_10 0 49).toInt ≤ 5 → sgI loM hiM fp_10 → sgK WkX12_slipsAs_5_f6_f5 f fp_10 → va_P D vwCl (sgw 26 h (eM ca h) fp_10 L Q) H → va_S (sgA 26 h s.heap.size) s.heap H locs → lv_has ls 4 [(0, .ref (h 0)), (2, .int x1)] → W p l e ({ frames := 2, cells := 0, slots := 0, locals := 44 }) s m ([.ref (h 0), .int 5, .int x1] : List Value).toArray below meth cd H locs 0 0 Qz (F0 m 10 ls []) := by
    intro fp_10 H locs ls hy0_10 hy1_10 hI hF hP hS hl
    obtain ⟨v_2, ev_2⟩ : ∃ z : Int32, z = fp_10 0 48 := ⟨_, rfl⟩
    have q_3 : 0 ≤ v_2.toInt ∧ v_2.toInt ≤ 19 := by rw [ev_2]; exact hI 0 48
    have q_4 : (fp_10 0 48).toInt = v_2.toInt := by rw [ev_2]
    obtain ⟨v_5, ev_5⟩ : ∃ z : Int32, z = fp_10 0 49 := ⟨_, rfl⟩
    have q_6 : 0 ≤ v_5.toInt ∧ v_5.toInt ≤ 7 := by rw [ev_5]; exact hI 0 49
    have q_7 : (fp_10 0 49).toInt = v_5.toInt := by rw [ev_5]
    have m_8 : fp_10 0 49 = 5 := (hF 0 49 (by decide)).trans hf_0_49
    refine lv_aload_n hx hb dX12_slipsAs_10 rfl (lv_at hl 0 rfl) ?_
    refine lv_bipush (v := 40) hx hb dX12_slipsAs_11 (by decide) ?_
    have c_9 : v_2 = 6 := Int32.toInt_inj.mp (by have k9 : (6 : Int32).toInt = 6 := (by decide); omega)
    have q_10 : (fp_10 0 48).toInt = 6 := (congrArg Int32.toInt (show fp_10 0 48 = 6 from (Eq.trans ev_2.symm c_9))).trans (by decide)
    have q_11 : (fp_10 0 48).toInt = 6 := (congrArg Int32.toInt (show fp_10 0 48 = 6 from (Eq.trans ev_2.symm c_9))).trans (by decide)
    refine sg_callv (va_runV (As := [.int 40]) (rest := []) ⟨hx, hb, hml, hown, hts⟩ (kX12_begins_40_f6 l D ca za h hh fp_10 L Q hI (Eq.trans ev_2.symm c_9) (by have k0 : (40 : Int32).toInt = 40 := (by decide); omega) H.size) (cwV 1 hts (gw_V (fun _ h => List.mem_cons_of_mem _ h) mw_734 mw_735 mw_736 mw_619 mw_733) rfl rfl rfl (by decide +kernel) ⟨Nat.le_of_ble_eq_true rfl, Nat.le_of_ble_eq_true rfl⟩) (sg_preV (ci := 12) (C := RX12) (T := TX12) (N := 55) hA hK hP hS hZ 0 (by decide) rfl rfl) rfl rfl hl.1 rfl (lv_room (Nat.le_of_ble_eq_true rfl)) dX12_slipsAs_13 ⟨Nat.le_refl _, Nat.le_refl _⟩) hA hS (fun f_12 L_13 Q_14 H locs hq hP hS => ?_)
    obtain ⟨⟨hI, hk_f_12, eL9, eQ9⟩, p_15⟩ := hq
    rw [eL9, eQ9] at hP; clear eL9 eQ9
    have hF : sgK WkX12_slipsAs_5_f6_f5 f f_12 := sgK.tr hF hk_f_12 (by decide)
    obtain ⟨v_16, ev_16⟩ : ∃ z : Int32, z = f_12 0 48 := ⟨_, rfl⟩
    have q_17 : 0 ≤ v_16.toInt ∧ v_16.toInt ≤ 19 := by rw [ev_16]; exact hI 0 48
    have q_18 : (f_12 0 48).toInt = v_16.toInt := (congrArg Int32.toInt (show f_12 0 48 = v_16 from ev_16.symm))
    have q_19 : (f_12 0 48).toInt = v_16.toInt := (congrArg Int32.toInt (show f_12 0 48 = v_16 from ev_16.symm))
    refine lv_aload_n hx hb dX12_slipsAs_16 rfl (lv_at hl 0 rfl) ?_
    refine lv_iconst (v := 2) hx hb dX12_slipsAs_17 (by decide) ?_
    refine lv_iload_n hx hb dX12_slipsAs_18 rfl (lv_at hl 1 rfl) ?_
    have c_20 : v_16 = 7 := Int32.toInt_inj.mp (by have k9 : (7 : Int32).toInt = 7 := (by decide); omega)
    have q_21 : (f_12 0 48).toInt = 7 := (congrArg Int32.toInt (show f_12 0 48 = 7 from (Eq.trans ev_16.symm c_20))).trans (by decide)
    have q_22 : (f_12 0 48).toInt = 7 := (congrArg Int32.toInt (show f_12 0 48 = 7 from (Eq.trans ev_16.symm c_20))).trans (by decide)
    refine sg_calli (va_runV (As := [.int 2, .int x1]) (rest := []) ⟨hx, hb, hml, hown, hts⟩ (kX12_slipsAs_2_f7_f5 l D ca za h hh f_12 L Q hI x1 (Eq.trans ev_16.symm c_20) ((hk_f_12 0 49 (by decide)).trans m_8) (by omega) (by have k0 : (2 : Int32).toInt = 2 := (by decide); omega) H.size) (cwV 2 hts (gw_V (fun _ h => List.mem_cons_of_mem _ h) mw_748 mw_749 mw_750 mw_619 mw_747) rfl rfl rfl (by decide +kernel) ⟨Nat.le_of_ble_eq_true rfl, Nat.le_of_ble_eq_true rfl⟩) (sg_preV (ci := 12) (C := RX12) (T := TX12) (N := 55) hA hK hP hS hZ 0 (by decide) rfl rfl) rfl rfl hl.1 rfl (lv_room (Nat.le_of_ble_eq_true rfl)) dX12_slipsAs_19 ⟨Nat.le_refl _, Nat.le_refl _⟩) hA hS (fun r_26 f_23 L_24 Q_25 H locs hq hP hS => ?_)
    obtain ⟨⟨hI, hk_f_23, eL9, eQ9⟩, hq, p_27⟩ := hq
    rw [eL9, eQ9] at hP; clear eL9 eQ9
    have hF : sgK WkX12_slipsAs_5_f6_f5 f f_23 := sgK.tr hF hk_f_23 (by decide)
    obtain ⟨v_28, ev_28⟩ : ∃ z : Int32, z = f_23 0 48 := ⟨_, rfl⟩
    have q_29 : 0 ≤ v_28.toInt ∧ v_28.toInt ≤ 19 := by rw [ev_28]; exact hI 0 48
    have q_30 : (f_23 0 48).toInt = v_28.toInt := (congrArg Int32.toInt (show f_23 0 48 = v_28 from ev_28.symm))
    have q_31 : (f_23 0 48).toInt = v_28.toInt := (congrArg Int32.toInt (show f_23 0 48 = v_28 from ev_28.symm))
    have k_32 : (2 : Int32).toInt = 2 := by decide
    refine lv_iconst (v := 3) hx hb dX12_slipsAs_22 (by decide) ?_
    refine lv_imul hx hb dX12_slipsAs_23 ?_
    refine lv_topi (fun v_33 ev_33 => ?_)
    have q_34 : (f_23 0 48).toInt = v_28.toInt := (congrArg Int32.toInt (show f_23 0 48 = v_28 from ev_28.symm))
    have q_35 : (f_23 0 48).toInt = v_28.toInt := (congrArg Int32.toInt (show f_23 0 48 = v_28 from ev_28.symm))
    exact hret _ _ _ _ (v_33) f_23 L Q dX12_slipsAs_24 hP hS ⟨⟨hI, hF, rfl, rfl⟩, trivial, (by omega)⟩
  refine lv_iload_n hx hb dX12_slipsAs_0 rfl (lv_at hl 1 rfl) ?_
  refine lv_iconst (v := 3) hx hb dX12_slipsAs_1 (by decide) ?_
  refine lv_icmp_eq (tgt := 10) hx hb dX12_slipsAs_2 (by decide) (fun c => absurd c (by decide)) (fun c => ?_)
  refine lv_iload_n hx hb dX12_slipsAs_5 rfl (lv_at hl 1 rfl) ?_
  refine lv_iconst (v := 5) hx hb dX12_slipsAs_6 (by decide) ?_
  refine lv_icmp_ne (tgt := 25) hx hb dX12_slipsAs_7 (by decide) (fun c => absurd c (by decide)) (fun c => ?_)
  exact blk_10 f _ _ _ (by have zz0_48 : (f 0 48).toInt = 6 := (congrArg Int32.toInt (show f 0 48 = 6 from hf_0_48)).trans (by decide); omega) (by have zz0_49 : (f 0 49).toInt = 5 := (congrArg Int32.toInt (show f 0 49 = 5 from hf_0_49)).trans (by decide); omega) hI hF hP hS (lv_sub hl [0, 2] rfl)

abbrev WkX12_tellsAs_3_f1_f5 : List (Nat × Nat × Option Nat) := [(0, 0, some 48), (21, 21, none)]
set_option maxHeartbeats 4000000 in
set_option maxRecDepth 100000 in
theorem kX12_tellsAs_3_f1_f5 (l : Launch) (D : va_G) (ca : Nat → ClassId) (za h : Nat → Nat) (hh : sgH 26 h) (f : sg_F) (L : sg_L) (Q : sg_Q) (hI : sgI loM hiM f) (x1 : Int32) (hf_0_48 : f 0 48 = 1) (hf_0_49 : f 0 49 = 5) (p0 : 1 ≤ (f 0 48).toInt ∧ (f 0 48).toInt ≤ 1) (sz : Nat) : Met l yX12_tellsAs gwX12_tellsAs { frames := 5, cells := 0, slots := 0, locals := 112 } (sgP D vwCl (tyX ca) 26 h (eM ca h) zcM za f L Q sz [.ref (h 0), .int 3, .int x1]) (sgQi D vwCl 26 h (eM ca h) sz (fun r f1 L1 Q1 => ((sgI loM hiM f1 ∧ sgK WkX12_tellsAs_3_f1_f5 f f1 ∧ L1 = L ∧ Q1 = Q) ∧ True ∧ (8 ≤ (f1 0 48).toInt ∧ (f1 0 48).toInt ≤ 8)))) 0 0 (sgA 26 h sz) := by
  refine sg_ofWi (cc := cX12_tellsAs) (maxL := 4) RX12 (by decide) rfl rfl (Nat.le_of_ble_eq_true rfl) ?_
  intro p e s m below meth cd Qz ls hx hb hml hown hts hK hZ hP hS hl hret
  have hA := sgY.self (n := 26) (h := h) (sz := s.heap.size)
  have hl : lv_has ls 4 [(0, .ref (h 0)), (1, .int 3), (2, .int x1)] := hl
  obtain ⟨H, hH⟩ : ∃ z : Heap, z = s.heap := ⟨_, rfl⟩
  obtain ⟨locs, hlo⟩ : ∃ z : List Loc, z = [] := ⟨_, rfl⟩
  have hP : va_P D vwCl (sgw 26 h (eM ca h) f L Q) H := by rw [hH]; exact hP
  have hS : va_S (sgA 26 h s.heap.size) s.heap H locs := by rw [hH, hlo]; exact hS
  suffices hgo : W p l e ({ frames := 5, cells := 0, slots := 0, locals := 112 }) s m ([.ref (h 0), .int 3, .int x1] : List Value).toArray below meth cd H locs 0 0 Qz (F0 m 0 ls []) by rw [hH, hlo] at hgo; exact hgo
  clear hH hlo
  have o_1 : (f 0 48).toInt = 1 := (congrArg Int32.toInt (show f 0 48 = 1 from hf_0_48)).trans (by decide)
  have hF : sgK WkX12_tellsAs_3_f1_f5 f f := sgK.rf
  refine lv_iload_n hx hb dX12_tellsAs_0 rfl (lv_at hl 1 rfl) ?_
  refine lv_iconst (v := 5) hx hb dX12_tellsAs_1 (by decide) ?_
  refine lv_icmp_ne (tgt := 20) hx hb dX12_tellsAs_2 (by decide) (fun c => ?_) (fun c => absurd c (by decide))
  refine lv_iload_n hx hb dX12_tellsAs_20 rfl (lv_at hl 1 rfl) ?_
  refine lv_bipush (v := 7) hx hb dX12_tellsAs_21 (by decide) ?_
  refine lv_icmp_ne (tgt := 41) hx hb dX12_tellsAs_23 (by decide) (fun c => ?_) (fun c => absurd c (by decide))
  refine lv_aload_n hx hb dX12_tellsAs_41 rfl (lv_at hl 0 rfl) ?_
  refine lv_iconst (v := 2) hx hb dX12_tellsAs_42 (by decide) ?_
  have q_2 : (f 0 48).toInt = 1 := (congrArg Int32.toInt (show f 0 48 = 1 from hf_0_48)).trans (by decide)
  have q_3 : (f 0 48).toInt = 1 := (congrArg Int32.toInt (show f 0 48 = 1 from hf_0_48)).trans (by decide)
  refine sg_callv (va_runV (As := [.int 2]) (rest := []) ⟨hx, hb, hml, hown, hts⟩ (kX12_begins_2_f1 l D ca za h hh f L Q hI hf_0_48 (by have k0 : (2 : Int32).toInt = 2 := (by decide); omega) H.size) (cwV 1 hts (gw_V (fun _ h => List.mem_cons_of_mem _ h) mw_734 mw_735 mw_736 mw_619 mw_733) rfl rfl rfl (by decide +kernel) ⟨Nat.le_of_ble_eq_true rfl, Nat.le_of_ble_eq_true rfl⟩) (sg_preV (ci := 12) (C := RX12) (T := TX12) (N := 55) hA hK hP hS hZ 0 (by decide) rfl rfl) rfl rfl hl.1 rfl (lv_room (Nat.le_of_ble_eq_true rfl)) dX12_tellsAs_43 ⟨Nat.le_refl _, Nat.le_refl _⟩) hA hS (fun f_4 L_5 Q_6 H locs hq hP hS => ?_)
  obtain ⟨⟨hI, hk_f_4, eL9, eQ9⟩, p_7⟩ := hq
  rw [eL9, eQ9] at hP; clear eL9 eQ9
  have hF : sgK WkX12_tellsAs_3_f1_f5 f f_4 := sgK.tr hF hk_f_4 (by decide)
  obtain ⟨v_8, ev_8⟩ : ∃ z : Int32, z = f_4 0 48 := ⟨_, rfl⟩
  have q_9 : 0 ≤ v_8.toInt ∧ v_8.toInt ≤ 19 := by rw [ev_8]; exact hI 0 48
  have q_10 : (f_4 0 48).toInt = v_8.toInt := (congrArg Int32.toInt (show f_4 0 48 = v_8 from ev_8.symm))
  have q_11 : (f_4 0 48).toInt = v_8.toInt := (congrArg Int32.toInt (show f_4 0 48 = v_8 from ev_8.symm))
  refine lv_aload_n hx hb dX12_tellsAs_46 rfl (lv_at hl 0 rfl) ?_
  refine lv_aload_n hx hb dX12_tellsAs_47 rfl (lv_at hl 0 rfl) ?_
  refine sg_get (ci := 12) (v := .int 5) (C := RX12) (T := TX12) (N := 55) hx hb hts (fun w h => List.mem_cons_of_mem _ (gx_12 w h)) hown hK hP 0 (by decide) rfl rfl 49 (by decide) (hts _ (List.mem_cons_of_mem _ mw_679)) (fun _ h9 => h9) (congrArg (fun z => some (Value.int z)) (show f_4 0 49 = 5 from ((hk_f_4 0 49 (by decide)).trans hf_0_49))) dX12_tellsAs_48 ?_
  refine lv_iload_n hx hb dX12_tellsAs_51 rfl (lv_at hl 2 rfl) ?_
  have c_12 : v_8 = 2 := Int32.toInt_inj.mp (by have k9 : (2 : Int32).toInt = 2 := (by decide); omega)
  have q_13 : (f_4 0 48).toInt = 2 := (congrArg Int32.toInt (show f_4 0 48 = 2 from (Eq.trans ev_8.symm c_12))).trans (by decide)
  have q_14 : (f_4 0 48).toInt = 2 := (congrArg Int32.toInt (show f_4 0 48 = 2 from (Eq.trans ev_8.symm c_12))).trans (by decide)
  refine sg_calli (va_runV (As := [.int 5, .int x1]) (rest := []) ⟨hx, hb, hml, hown, hts⟩ (kX12_sitsAs_5_f2_f5 l D ca za h hh f_4 L Q hI x1 (Eq.trans ev_8.symm c_12) ((hk_f_4 0 49 (by decide)).trans hf_0_49) (by have k0 : (5 : Int32).toInt = 5 := (by decide); omega) H.size) (cwV 2 hts (gw_V (fun _ h => List.mem_cons_of_mem _ h) mw_801 mw_802 mw_803 mw_619 mw_800) rfl rfl rfl (by decide +kernel) ⟨Nat.le_of_ble_eq_true rfl, Nat.le_of_ble_eq_true rfl⟩) (sg_preV (ci := 12) (C := RX12) (T := TX12) (N := 55) hA hK hP hS hZ 0 (by decide) rfl rfl) rfl rfl hl.1 rfl (lv_room (Nat.le_of_ble_eq_true rfl)) dX12_tellsAs_52 ⟨Nat.le_refl _, Nat.le_refl _⟩) hA hS (fun r_18 f_15 L_16 Q_17 H locs hq hP hS => ?_)
  obtain ⟨⟨hI, hk_f_15, eL9, eQ9⟩, hq, p_19⟩ := hq
  rw [eL9, eQ9] at hP; clear eL9 eQ9
  have hF : sgK WkX12_tellsAs_3_f1_f5 f f_15 := sgK.tr hF hk_f_15 (by decide)
  obtain ⟨v_20, ev_20⟩ : ∃ z : Int32, z = f_15 0 48 := ⟨_, rfl⟩
  have q_21 : 0 ≤ v_20.toInt ∧ v_20.toInt ≤ 19 := by rw [ev_20]; exact hI 0 48
  have q_22 : (f_15 0 48).toInt = v_20.toInt := (congrArg Int32.toInt (show f_15 0 48 = v_20 from ev_20.symm))
  have q_23 : (f_15 0 48).toInt = v_20.toInt := (congrArg Int32.toInt (show f_15 0 48 = v_20 from ev_20.symm))
  have k_24 : (5 : Int32).toInt = 5 := by decide
  refine lv_istore_n (lv' := [(3, .int r_18), (0, .ref (h 0)), (1, .int 3), (2, .int x1)]) hx hb dX12_tellsAs_55 rfl hl (by decide) rfl (fun ls hl => ?_)
  refine lv_iload_n hx hb dX12_tellsAs_56 rfl (lv_at hl 0 rfl) ?_
  refine lv_aload_n hx hb dX12_tellsAs_57 rfl (lv_at hl 1 rfl) ?_
  refine lv_aload_n hx hb dX12_tellsAs_58 rfl (lv_at hl 1 rfl) ?_
  refine sg_get (ci := 12) (v := .int 5) (C := RX12) (T := TX12) (N := 55) hx hb hts (fun w h => List.mem_cons_of_mem _ (gx_12 w h)) hown hK hP 0 (by decide) rfl rfl 49 (by decide) (hts _ (List.mem_cons_of_mem _ mw_679)) (fun _ h9 => h9) (congrArg (fun z => some (Value.int z)) (show f_15 0 49 = 5 from ((hk_f_15 0 49 (by decide)).trans ((hk_f_4 0 49 (by decide)).trans hf_0_49)))) dX12_tellsAs_59 ?_
  refine lv_iconst (v := 1) hx hb dX12_tellsAs_62 (by decide) ?_
  have c_25 : v_20 = 6 := Int32.toInt_inj.mp (by have k9 : (6 : Int32).toInt = 6 := (by decide); omega)
  have q_26 : (f_15 0 48).toInt = 6 := (congrArg Int32.toInt (show f_15 0 48 = 6 from (Eq.trans ev_20.symm c_25))).trans (by decide)
  have q_27 : (f_15 0 48).toInt = 6 := (congrArg Int32.toInt (show f_15 0 48 = 6 from (Eq.trans ev_20.symm c_25))).trans (by decide)
  refine sg_calli (va_runV (As := [.int 5, .int 1]) (rest := [.int r_18]) ⟨hx, hb, hml, hown, hts⟩ (kX12_slipsAs_5_f6_f5 l D ca za h hh f_15 L Q hI 1 (Eq.trans ev_20.symm c_25) ((hk_f_15 0 49 (by decide)).trans ((hk_f_4 0 49 (by decide)).trans hf_0_49)) (by decide) (by have k0 : (5 : Int32).toInt = 5 := (by decide); have k1 : (1 : Int32).toInt = 1 := (by decide); omega) H.size) (cwV 2 hts (gw_V (fun _ h => List.mem_cons_of_mem _ h) mw_748 mw_749 mw_750 mw_619 mw_747) rfl rfl rfl (by decide +kernel) ⟨Nat.le_of_ble_eq_true rfl, Nat.le_of_ble_eq_true rfl⟩) (sg_preV (ci := 12) (C := RX12) (T := TX12) (N := 55) hA hK hP hS hZ 0 (by decide) rfl rfl) rfl rfl hl.1 rfl (lv_room (Nat.le_of_ble_eq_true rfl)) dX12_tellsAs_63 ⟨Nat.le_refl _, Nat.le_refl _⟩) hA hS (fun r_31 f_28 L_29 Q_30 H locs hq hP hS => ?_)
  obtain ⟨⟨hI, hk_f_28, eL9, eQ9⟩, hq, p_32⟩ := hq
  rw [eL9, eQ9] at hP; clear eL9 eQ9
  have hF : sgK WkX12_tellsAs_3_f1_f5 f f_28 := sgK.tr hF hk_f_28 (by decide)
  obtain ⟨v_33, ev_33⟩ : ∃ z : Int32, z = f_28 0 48 := ⟨_, rfl⟩
  have q_34 : 0 ≤ v_33.toInt ∧ v_33.toInt ≤ 19 := by rw [ev_33]; exact hI 0 48
  have q_35 : (f_28 0 48).toInt = v_33.toInt := (congrArg Int32.toInt (show f_28 0 48 = v_33 from ev_33.symm))
  have q_36 : (f_28 0 48).toInt = v_33.toInt := (congrArg Int32.toInt (show f_28 0 48 = v_33 from ev_33.symm))
  have k_37 : (5 : Int32).toInt = 5 := by decide
  have k_38 : (1 : Int32).toInt = 1 := by decide
  refine lv_isub hx hb dX12_tellsAs_66 ?_
  refine lv_topi (fun v_39 ev_39 => ?_)
  have q_40 : (f_28 0 48).toInt = v_33.toInt := (congrArg Int32.toInt (show f_28 0 48 = v_33 from ev_33.symm))
  have q_41 : (f_28 0 48).toInt = v_33.toInt := (congrArg Int32.toInt (show f_28 0 48 = v_33 from ev_33.symm))
  exact hret _ _ _ _ (v_39) f_28 L Q dX12_tellsAs_67 hP hS ⟨⟨hI, hF, rfl, rfl⟩, trivial, (by omega)⟩

abbrev WkX12_tellsAs_5_f0_f5 : List (Nat × Nat × Option Nat) := [(0, 0, some 48), (21, 21, none)]
set_option maxHeartbeats 4000000 in
set_option maxRecDepth 100000 in
theorem kX12_tellsAs_5_f0_f5 (l : Launch) (D : va_G) (ca : Nat → ClassId) (za h : Nat → Nat) (hh : sgH 26 h) (f : sg_F) (L : sg_L) (Q : sg_Q) (hI : sgI loM hiM f) (x1 : Int32) (hf_0_48 : f 0 48 = 0) (hf_0_49 : f 0 49 = 5) (p0 : 0 ≤ (f 0 48).toInt ∧ (f 0 48).toInt ≤ 0) (sz : Nat) : Met l yX12_tellsAs gwX12_tellsAs { frames := 6, cells := 0, slots := 0, locals := 135 } (sgP D vwCl (tyX ca) 26 h (eM ca h) zcM za f L Q sz [.ref (h 0), .int 5, .int x1]) (sgQi D vwCl 26 h (eM ca h) sz (fun r f1 L1 Q1 => ((sgI loM hiM f1 ∧ sgK WkX12_tellsAs_5_f0_f5 f f1 ∧ L1 = L ∧ Q1 = Q) ∧ True ∧ (8 ≤ (f1 0 48).toInt ∧ (f1 0 48).toInt ≤ 8)))) 0 0 (sgA 26 h sz) := by
  refine sg_ofWi (cc := cX12_tellsAs) (maxL := 4) RX12 (by decide) rfl rfl (Nat.le_of_ble_eq_true rfl) ?_
  intro p e s m below meth cd Qz ls hx hb hml hown hts hK hZ hP hS hl hret
  have hA := sgY.self (n := 26) (h := h) (sz := s.heap.size)
  have hl : lv_has ls 4 [(0, .ref (h 0)), (1, .int 5), (2, .int x1)] := hl
  obtain ⟨H, hH⟩ : ∃ z : Heap, z = s.heap := ⟨_, rfl⟩
  obtain ⟨locs, hlo⟩ : ∃ z : List Loc, z = [] := ⟨_, rfl⟩
  have hP : va_P D vwCl (sgw 26 h (eM ca h) f L Q) H := by rw [hH]; exact hP
  have hS : va_S (sgA 26 h s.heap.size) s.heap H locs := by rw [hH, hlo]; exact hS
  suffices hgo : W p l e ({ frames := 6, cells := 0, slots := 0, locals := 135 }) s m ([.ref (h 0), .int 5, .int x1] : List Value).toArray below meth cd H locs 0 0 Qz (F0 m 0 ls []) by rw [hH, hlo] at hgo; exact hgo
  clear hH hlo
  have o_1 : (f 0 48).toInt = 0 := (congrArg Int32.toInt (show f 0 48 = 0 from hf_0_48)).trans (by decide)
  have hF : sgK WkX12_tellsAs_5_f0_f5 f f := sgK.rf
  refine lv_iload_n hx hb dX12_tellsAs_0 rfl (lv_at hl 1 rfl) ?_
  refine lv_iconst (v := 5) hx hb dX12_tellsAs_1 (by decide) ?_
  refine lv_icmp_ne (tgt := 20) hx hb dX12_tellsAs_2 (by decide) (fun c => absurd c (by decide)) (fun c => ?_)
  refine lv_aload_n hx hb dX12_tellsAs_5 rfl (lv_at hl 0 rfl) ?_
  refine lv_bipush (v := 60) hx hb dX12_tellsAs_6 (by decide) ?_
  have q_2 : (f 0 48).toInt = 0 := (congrArg Int32.toInt (show f 0 48 = 0 from hf_0_48)).trans (by decide)
  have q_3 : (f 0 48).toInt = 0 := (congrArg Int32.toInt (show f 0 48 = 0 from hf_0_48)).trans (by decide)
  refine sg_callv (va_runV (As := [.int 60]) (rest := []) ⟨hx, hb, hml, hown, hts⟩ (kX12_begins_60_f0 l D ca za h hh f L Q hI hf_0_48 (by have k0 : (60 : Int32).toInt = 60 := (by decide); omega) H.size) (cwV 1 hts (gw_V (fun _ h => List.mem_cons_of_mem _ h) mw_734 mw_735 mw_736 mw_619 mw_733) rfl rfl rfl (by decide +kernel) ⟨Nat.le_of_ble_eq_true rfl, Nat.le_of_ble_eq_true rfl⟩) (sg_preV (ci := 12) (C := RX12) (T := TX12) (N := 55) hA hK hP hS hZ 0 (by decide) rfl rfl) rfl rfl hl.1 rfl (lv_room (Nat.le_of_ble_eq_true rfl)) dX12_tellsAs_8 ⟨Nat.le_refl _, Nat.le_refl _⟩) hA hS (fun f_4 L_5 Q_6 H locs hq hP hS => ?_)
  obtain ⟨⟨hI, hk_f_4, eL9, eQ9⟩, p_7⟩ := hq
  rw [eL9, eQ9] at hP; clear eL9 eQ9
  have hF : sgK WkX12_tellsAs_5_f0_f5 f f_4 := sgK.tr hF hk_f_4 (by decide)
  obtain ⟨v_8, ev_8⟩ : ∃ z : Int32, z = f_4 0 48 := ⟨_, rfl⟩
  have q_9 : 0 ≤ v_8.toInt ∧ v_8.toInt ≤ 19 := by rw [ev_8]; exact hI 0 48
  have q_10 : (f_4 0 48).toInt = v_8.toInt := (congrArg Int32.toInt (show f_4 0 48 = v_8 from ev_8.symm))
  have q_11 : (f_4 0 48).toInt = v_8.toInt := (congrArg Int32.toInt (show f_4 0 48 = v_8 from ev_8.symm))
  refine lv_aload_n hx hb dX12_tellsAs_11 rfl (lv_at hl 0 rfl) ?_
  refine lv_iconst (v := 3) hx hb dX12_tellsAs_12 (by decide) ?_
  refine lv_iload_n hx hb dX12_tellsAs_13 rfl (lv_at hl 2 rfl) ?_
  have c_12 : v_8 = 1 := Int32.toInt_inj.mp (by have k9 : (1 : Int32).toInt = 1 := (by decide); omega)
  have q_13 : (f_4 0 48).toInt = 1 := (congrArg Int32.toInt (show f_4 0 48 = 1 from (Eq.trans ev_8.symm c_12))).trans (by decide)
  have q_14 : (f_4 0 48).toInt = 1 := (congrArg Int32.toInt (show f_4 0 48 = 1 from (Eq.trans ev_8.symm c_12))).trans (by decide)
  refine sg_calli (va_runV (As := [.int 3, .int x1]) (rest := []) ⟨hx, hb, hml, hown, hts⟩ (kX12_tellsAs_3_f1_f5 l D ca za h hh f_4 L Q hI x1 (Eq.trans ev_8.symm c_12) ((hk_f_4 0 49 (by decide)).trans hf_0_49) (by have k0 : (3 : Int32).toInt = 3 := (by decide); omega) H.size) (cwV 2 hts (gw_V (fun _ h => List.mem_cons_of_mem _ h) mw_885 mw_886 mw_887 mw_619 mw_884) rfl rfl rfl (by decide +kernel) ⟨Nat.le_of_ble_eq_true rfl, Nat.le_of_ble_eq_true rfl⟩) (sg_preV (ci := 12) (C := RX12) (T := TX12) (N := 55) hA hK hP hS hZ 0 (by decide) rfl rfl) rfl rfl hl.1 rfl (lv_room (Nat.le_of_ble_eq_true rfl)) dX12_tellsAs_14 ⟨Nat.le_refl _, Nat.le_refl _⟩) hA hS (fun r_18 f_15 L_16 Q_17 H locs hq hP hS => ?_)
  obtain ⟨⟨hI, hk_f_15, eL9, eQ9⟩, hq, p_19⟩ := hq
  rw [eL9, eQ9] at hP; clear eL9 eQ9
  have hF : sgK WkX12_tellsAs_5_f0_f5 f f_15 := sgK.tr hF hk_f_15 (by decide)
  obtain ⟨v_20, ev_20⟩ : ∃ z : Int32, z = f_15 0 48 := ⟨_, rfl⟩
  have q_21 : 0 ≤ v_20.toInt ∧ v_20.toInt ≤ 19 := by rw [ev_20]; exact hI 0 48
  have q_22 : (f_15 0 48).toInt = v_20.toInt := (congrArg Int32.toInt (show f_15 0 48 = v_20 from ev_20.symm))
  have q_23 : (f_15 0 48).toInt = v_20.toInt := (congrArg Int32.toInt (show f_15 0 48 = v_20 from ev_20.symm))
  have k_24 : (3 : Int32).toInt = 3 := by decide
  refine lv_iconst (v := 5) hx hb dX12_tellsAs_17 (by decide) ?_
  refine lv_ixor hx hb dX12_tellsAs_18 ?_
  refine lv_topi (fun v_25 ev_25 => ?_)
  have q_26 : (f_15 0 48).toInt = v_20.toInt := (congrArg Int32.toInt (show f_15 0 48 = v_20 from ev_20.symm))
  have q_27 : (f_15 0 48).toInt = v_20.toInt := (congrArg Int32.toInt (show f_15 0 48 = v_20 from ev_20.symm))
  exact hret _ _ _ _ (v_25) f_15 L Q dX12_tellsAs_19 hP hS ⟨⟨hI, hF, rfl, rfl⟩, trivial, (by omega)⟩

abbrev WkX12_begins_70_f2 : List (Nat × Nat × Option Nat) := [(0, 0, some 48), (21, 21, none)]
set_option maxHeartbeats 4000000 in
set_option maxRecDepth 100000 in
theorem kX12_begins_70_f2 (l : Launch) (D : va_G) (ca : Nat → ClassId) (za h : Nat → Nat) (hh : sgH 26 h) (f : sg_F) (L : sg_L) (Q : sg_Q) (hI : sgI loM hiM f) (hf_0_48 : f 0 48 = 2) (p0 : 2 ≤ (f 0 48).toInt ∧ (f 0 48).toInt ≤ 2) (sz : Nat) : Met l yX12_begins gwX12_begins { frames := 0, cells := 0, slots := 0, locals := 0 } (sgP D vwCl (tyX ca) 26 h (eM ca h) zcM za f L Q sz [.ref (h 0), .int 70]) (sgQv D vwCl 26 h (eM ca h) sz (fun f1 L1 Q1 => ((sgI loM hiM f1 ∧ sgK WkX12_begins_70_f2 f f1 ∧ L1 = L ∧ Q1 = Q) ∧ (3 ≤ (f1 0 48).toInt ∧ (f1 0 48).toInt ≤ 3)))) 0 0 (sgA 26 h sz) := by
  refine sg_ofWv (cc := cX12_begins) (maxL := 2) RX12 (by decide) rfl rfl (Nat.le_of_ble_eq_true rfl) ?_
  intro p e s m below meth cd Qz ls hx hb hml hown hts hK hZ hP hS hl hret
  have hA := sgY.self (n := 26) (h := h) (sz := s.heap.size)
  have hl : lv_has ls 2 [(0, .ref (h 0)), (1, .int 70)] := hl
  obtain ⟨H, hH⟩ : ∃ z : Heap, z = s.heap := ⟨_, rfl⟩
  obtain ⟨locs, hlo⟩ : ∃ z : List Loc, z = [] := ⟨_, rfl⟩
  have hP : va_P D vwCl (sgw 26 h (eM ca h) f L Q) H := by rw [hH]; exact hP
  have hS : va_S (sgA 26 h s.heap.size) s.heap H locs := by rw [hH, hlo]; exact hS
  suffices hgo : W p l e ({ frames := 0, cells := 0, slots := 0, locals := 0 }) s m ([.ref (h 0), .int 70] : List Value).toArray below meth cd H locs 0 0 Qz (F0 m 0 ls []) by rw [hH, hlo] at hgo; exact hgo
  clear hH hlo
  have o_1 : (f 0 48).toInt = 2 := (congrArg Int32.toInt (show f 0 48 = 2 from hf_0_48)).trans (by decide)
  have hF : sgK WkX12_begins_70_f2 f f := sgK.rf
  have blk_19 : ∀ (fp_19 : sg_F) (H : Heap) (locs : List Loc) (ls : Array Slot), 2 ≤ (fp_19 0 48).toInt ∧ (fp_19 0 48).toInt ≤ 2 → sgI loM hiM fp_19 → sgK WkX12_begins_70_f2 f fp_19 → va_P D vwCl (sgw 26 h (eM ca h) fp_19 L Q) H → va_S (sgA 26 h s.heap.size) s.heap H locs → lv_has ls 2 [(0, .ref (h 0))] → W p l e ({ frames := 0, cells := 0, slots := 0, locals := 0 }) s m ([.ref (h 0), .int 70] : List Value).toArray below meth cd H locs 0 0 Qz (F0 m 19 ls []) := by
    intro fp_19 H locs ls hy0_19 hI hF hP hS hl
    obtain ⟨v_2, ev_2⟩ : ∃ z : Int32, z = fp_19 0 48 := ⟨_, rfl⟩
    have q_3 : 0 ≤ v_2.toInt ∧ v_2.toInt ≤ 19 := by rw [ev_2]; exact hI 0 48
    have q_4 : (fp_19 0 48).toInt = v_2.toInt := by rw [ev_2]
    refine lv_aload_n hx hb dX12_begins_19 rfl (lv_at hl 0 rfl) ?_
    refine lv_dup hx hb dX12_begins_20 rfl ?_
    refine sg_get (ci := 12) (v := .int v_2) (C := RX12) (T := TX12) (N := 55) hx hb hts (fun w h => List.mem_cons_of_mem _ (gx_12 w h)) hown hK hP 0 (by decide) rfl rfl 48 (by decide) (hts _ (List.mem_cons_of_mem _ mw_621)) (fun _ h9 => h9) (congrArg (fun z => some (Value.int z)) (show fp_19 0 48 = v_2 from ev_2.symm)) dX12_begins_21 ?_
    refine lv_iconst (v := 1) hx hb dX12_begins_24 (by decide) ?_
    refine lv_iadd hx hb dX12_begins_25 ?_
    refine lv_topi (fun v_5 ev_5 => ?_)
    have q_6 : v_5.toInt = v_2.toInt + 1 := by rw [ev_5]; have k1 : (1 : Int32).toInt = 1 := (by decide); exact (bn_addI (by omega) (by omega)).trans (by omega)
    refine sg_put (ci := 12) (x := v_5) (ty := .int) (C := RX12) (T := TX12) (N := 55) hx hb hts (fun w h => List.mem_cons_of_mem _ (gx_12 w h)) tyX12 tyX12_ok nmX12 hown hh hA hK hP hS 0 (by decide) rfl rfl 48 (by decide) (hts _ (List.mem_cons_of_mem _ mw_621)) (fun _ h9 => h9) rfl rfl (by decide +kernel) rfl rfl (Nat.le_of_ble_eq_true rfl) dX12_begins_26 (fun f_7 H locs ef_7 hP hS => ?_)
    have hI : sgI loM hiM f_7 := by rw [ef_7]; exact sgI.put hI 0 48 (show 0 ≤ (v_5 : Int32).toInt ∧ (v_5 : Int32).toInt ≤ 19 from by omega)
    have hF : sgK WkX12_begins_70_f2 f f_7 := sgK.put hF ef_7 (by rfl)
    have q_8 : (f_7 0 48).toInt = v_5.toInt := (congrArg Int32.toInt (show f_7 0 48 = v_5 from (by rw [ef_7, sg_up_s, sgu_s])))
    have q_9 : (f_7 0 48).toInt = v_5.toInt := (congrArg Int32.toInt (show f_7 0 48 = v_5 from (by rw [ef_7, sg_up_s, sgu_s])))
    exact hret _ _ _ _ f_7 L Q dX12_begins_29 hP hS ⟨⟨hI, hF, rfl, rfl⟩, (by omega)⟩
  refine lv_aload_n hx hb dX12_begins_0 rfl (lv_at hl 0 rfl) ?_
  refine sg_get (ci := 12) (v := .int 2) (C := RX12) (T := TX12) (N := 55) hx hb hts (fun w h => List.mem_cons_of_mem _ (gx_12 w h)) hown hK hP 0 (by decide) rfl rfl 48 (by decide) (hts _ (List.mem_cons_of_mem _ mw_621)) (fun _ h9 => h9) (congrArg (fun z => some (Value.int z)) (show f 0 48 = 2 from hf_0_48)) dX12_begins_1 ?_
  refine lv_bipush (v := 24) hx hb dX12_begins_4 (by decide) ?_
  refine lv_icmp_ge (tgt := 19) hx hb dX12_begins_6 (by decide) (fun c => absurd c (by decide)) (fun c => ?_)
  refine lv_aload_n hx hb dX12_begins_9 rfl (lv_at hl 0 rfl) ?_
  refine sg_get (ci := 12) (v := .ref (h 21)) (C := RX12) (T := TX12) (N := 55) hx hb hts (fun w h => List.mem_cons_of_mem _ (gx_12 w h)) hown hK hP 0 (by decide) rfl rfl 47 (by decide) (hts _ (List.mem_cons_of_mem _ mw_718)) (fun _ h9 => h9) rfl dX12_begins_10 ?_
  refine lv_aload_n hx hb dX12_begins_13 rfl (lv_at hl 0 rfl) ?_
  refine sg_get (ci := 12) (v := .int 2) (C := RX12) (T := TX12) (N := 55) hx hb hts (fun w h => List.mem_cons_of_mem _ (gx_12 w h)) hown hK hP 0 (by decide) rfl rfl 48 (by decide) (hts _ (List.mem_cons_of_mem _ mw_621)) (fun _ h9 => h9) (congrArg (fun z => some (Value.int z)) (show f 0 48 = 2 from hf_0_48)) dX12_begins_14 ?_
  refine lv_iload_n hx hb dX12_begins_17 rfl (lv_at hl 1 rfl) ?_
  refine sg_iast hx hb hh hA hK hP hS 21 (by decide) 0 (fun _ => rfl) rfl (i := 2) (x := 70) (vp_in_iff.mpr (by decide)) dX12_begins_18 (fun f_10 H locs ef_10 hP hS => ?_)
  have hI : sgI loM hiM f_10 := by rw [ef_10]; exact sgI.put hI 21 (Int32.toNatClampNeg 2) (show 0 ≤ (70 : Int32).toInt ∧ (70 : Int32).toInt ≤ 81 from by decide)
  have hF : sgK WkX12_begins_70_f2 f f_10 := sgK.put hF ef_10 (by rfl)
  exact blk_19 f_10 _ _ _ (by have zz0_48 : (f_10 0 48).toInt = 2 := (congrArg Int32.toInt (show f_10 0 48 = 2 from (by rw [ef_10, sg_up_n (by decide)]; exact hf_0_48))).trans (by decide); omega) hI hF hP hS (lv_sub hl [0] rfl)

abbrev WkX12_setsAs_0_f3_f6 : List (Nat × Nat × Option Nat) := [(0, 0, some 48), (21, 21, none)]
set_option maxHeartbeats 4000000 in
set_option maxRecDepth 100000 in
theorem kX12_setsAs_0_f3_f6 (l : Launch) (D : va_G) (ca : Nat → ClassId) (za h : Nat → Nat) (hh : sgH 26 h) (f : sg_F) (L : sg_L) (Q : sg_Q) (hI : sgI loM hiM f) (x1 : Int32) (hf_0_48 : f 0 48 = 3) (hf_0_49 : f 0 49 = 6) (p0 : 3 ≤ (f 0 48).toInt ∧ (f 0 48).toInt ≤ 3) (sz : Nat) : Met l yX12_setsAs gwX12_setsAs { frames := 1, cells := 0, slots := 0, locals := 21 } (sgP D vwCl (tyX ca) 26 h (eM ca h) zcM za f L Q sz [.ref (h 0), .int 0, .int x1]) (sgQi D vwCl 26 h (eM ca h) sz (fun r f1 L1 Q1 => ((sgI loM hiM f1 ∧ sgK WkX12_setsAs_0_f3_f6 f f1 ∧ L1 = L ∧ Q1 = Q) ∧ True ∧ (4 ≤ (f1 0 48).toInt ∧ (f1 0 48).toInt ≤ 4)))) 0 0 (sgA 26 h sz) := by
  refine sg_ofWi (cc := cX12_setsAs) (maxL := 3) RX12 (by decide) rfl rfl (Nat.le_of_ble_eq_true rfl) ?_
  intro p e s m below meth cd Qz ls hx hb hml hown hts hK hZ hP hS hl hret
  have hA := sgY.self (n := 26) (h := h) (sz := s.heap.size)
  have hl : lv_has ls 3 [(0, .ref (h 0)), (1, .int 0), (2, .int x1)] := hl
  obtain ⟨H, hH⟩ : ∃ z : Heap, z = s.heap := ⟨_, rfl⟩
  obtain ⟨locs, hlo⟩ : ∃ z : List Loc, z = [] := ⟨_, rfl⟩
  have hP : va_P D vwCl (sgw 26 h (eM ca h) f L Q) H := by rw [hH]; exact hP
  have hS : va_S (sgA 26 h s.heap.size) s.heap H locs := by rw [hH, hlo]; exact hS
  suffices hgo : W p l e ({ frames := 1, cells := 0, slots := 0, locals := 21 }) s m ([.ref (h 0), .int 0, .int x1] : List Value).toArray below meth cd H locs 0 0 Qz (F0 m 0 ls []) by rw [hH, hlo] at hgo; exact hgo
  clear hH hlo
  have o_1 : (f 0 48).toInt = 3 := (congrArg Int32.toInt (show f 0 48 = 3 from hf_0_48)).trans (by decide)
  have hF : sgK WkX12_setsAs_0_f3_f6 f f := sgK.rf
  refine lv_iload_n hx hb dX12_setsAs_0 rfl (lv_at hl 1 rfl) ?_
  refine lv_iconst (v := 1) hx hb dX12_setsAs_1 (by decide) ?_
  refine lv_icmp_eq (tgt := 16) hx hb dX12_setsAs_2 (by decide) (fun c => absurd c (by decide)) (fun c => ?_)
  refine lv_iload_n hx hb dX12_setsAs_5 rfl (lv_at hl 1 rfl) ?_
  refine lv_iconst (v := 4) hx hb dX12_setsAs_6 (by decide) ?_
  refine lv_icmp_eq (tgt := 16) hx hb dX12_setsAs_7 (by decide) (fun c => absurd c (by decide)) (fun c => ?_)
  refine lv_iload_n hx hb dX12_setsAs_10 rfl (lv_at hl 1 rfl) ?_
  refine lv_bipush (v := 7) hx hb dX12_setsAs_11 (by decide) ?_
  refine lv_icmp_ne (tgt := 31) hx hb dX12_setsAs_13 (by decide) (fun c => ?_) (fun c => absurd c (by decide))
  refine lv_iload_n hx hb dX12_setsAs_31 rfl (lv_at hl 1 rfl) ?_
  refine lv_bipush (v := 6) hx hb dX12_setsAs_32 (by decide) ?_
  refine lv_icmp_ne (tgt := 52) hx hb dX12_setsAs_34 (by decide) (fun c => ?_) (fun c => absurd c (by decide))
  refine lv_aload_n hx hb dX12_setsAs_52 rfl (lv_at hl 0 rfl) ?_
  refine lv_iconst (v := 1) hx hb dX12_setsAs_53 (by decide) ?_
  have q_2 : (f 0 48).toInt = 3 := (congrArg Int32.toInt (show f 0 48 = 3 from hf_0_48)).trans (by decide)
  have q_3 : (f 0 48).toInt = 3 := (congrArg Int32.toInt (show f 0 48 = 3 from hf_0_48)).trans (by decide)
  refine sg_callv (va_runV (As := [.int 1]) (rest := []) ⟨hx, hb, hml, hown, hts⟩ (kX12_begins_1_f3 l D ca za h hh f L Q hI hf_0_48 (by have k0 : (1 : Int32).toInt = 1 := (by decide); omega) H.size) (cwV 1 hts (gw_V (fun _ h => List.mem_cons_of_mem _ h) mw_734 mw_735 mw_736 mw_619 mw_733) rfl rfl rfl (by decide +kernel) ⟨Nat.le_of_ble_eq_true rfl, Nat.le_of_ble_eq_true rfl⟩) (sg_preV (ci := 12) (C := RX12) (T := TX12) (N := 55) hA hK hP hS hZ 0 (by decide) rfl rfl) rfl rfl hl.1 rfl (lv_room (Nat.le_of_ble_eq_true rfl)) dX12_setsAs_54 ⟨Nat.le_refl _, Nat.le_refl _⟩) hA hS (fun f_4 L_5 Q_6 H locs hq hP hS => ?_)
  obtain ⟨⟨hI, hk_f_4, eL9, eQ9⟩, p_7⟩ := hq
  rw [eL9, eQ9] at hP; clear eL9 eQ9
  have hF : sgK WkX12_setsAs_0_f3_f6 f f_4 := sgK.tr hF hk_f_4 (by decide)
  obtain ⟨v_8, ev_8⟩ : ∃ z : Int32, z = f_4 0 48 := ⟨_, rfl⟩
  have q_9 : 0 ≤ v_8.toInt ∧ v_8.toInt ≤ 19 := by rw [ev_8]; exact hI 0 48
  have q_10 : (f_4 0 48).toInt = v_8.toInt := (congrArg Int32.toInt (show f_4 0 48 = v_8 from ev_8.symm))
  have q_11 : (f_4 0 48).toInt = v_8.toInt := (congrArg Int32.toInt (show f_4 0 48 = v_8 from ev_8.symm))
  refine lv_iload_n hx hb dX12_setsAs_57 rfl (lv_at hl 2 rfl) ?_
  refine lv_aload_n hx hb dX12_setsAs_58 rfl (lv_at hl 0 rfl) ?_
  refine sg_get (ci := 12) (v := .int (f_4 0 50)) (C := RX12) (T := TX12) (N := 55) hx hb hts (fun w h => List.mem_cons_of_mem _ (gx_12 w h)) hown hK hP 0 (by decide) rfl rfl 50 (by decide) (hts _ (List.mem_cons_of_mem _ mw_680)) (fun _ h9 => h9) rfl dX12_setsAs_59 ?_
  refine lv_topi (fun v_12 ev_12 => ?_)
  have q_13 : 0 ≤ v_12.toInt ∧ v_12.toInt ≤ 49 := by rw [ev_12]; exact hI 0 50
  refine lv_iadd hx hb dX12_setsAs_62 ?_
  refine lv_topi (fun v_14 ev_14 => ?_)
  have q_15 : (f_4 0 48).toInt = v_8.toInt := (congrArg Int32.toInt (show f_4 0 48 = v_8 from ev_8.symm))
  have q_16 : (f_4 0 48).toInt = v_8.toInt := (congrArg Int32.toInt (show f_4 0 48 = v_8 from ev_8.symm))
  exact hret _ _ _ _ (v_14) f_4 L Q dX12_setsAs_63 hP hS ⟨⟨hI, hF, rfl, rfl⟩, trivial, (by omega)⟩

abbrev WkX12_setsAs_6_f2_f6 : List (Nat × Nat × Option Nat) := [(0, 0, some 48), (21, 21, none)]
set_option maxHeartbeats 4000000 in
set_option maxRecDepth 100000 in
theorem kX12_setsAs_6_f2_f6 (l : Launch) (D : va_G) (ca : Nat → ClassId) (za h : Nat → Nat) (hh : sgH 26 h) (f : sg_F) (L : sg_L) (Q : sg_Q) (hI : sgI loM hiM f) (x1 : Int32) (hf_0_48 : f 0 48 = 2) (hf_0_49 : f 0 49 = 6) (p0 : 2 ≤ (f 0 48).toInt ∧ (f 0 48).toInt ≤ 2) (sz : Nat) : Met l yX12_setsAs gwX12_setsAs { frames := 2, cells := 0, slots := 0, locals := 43 } (sgP D vwCl (tyX ca) 26 h (eM ca h) zcM za f L Q sz [.ref (h 0), .int 6, .int x1]) (sgQi D vwCl 26 h (eM ca h) sz (fun r f1 L1 Q1 => ((sgI loM hiM f1 ∧ sgK WkX12_setsAs_6_f2_f6 f f1 ∧ L1 = L ∧ Q1 = Q) ∧ True ∧ (4 ≤ (f1 0 48).toInt ∧ (f1 0 48).toInt ≤ 4)))) 0 0 (sgA 26 h sz) := by
  refine sg_ofWi (cc := cX12_setsAs) (maxL := 3) RX12 (by decide) rfl rfl (Nat.le_of_ble_eq_true rfl) ?_
  intro p e s m below meth cd Qz ls hx hb hml hown hts hK hZ hP hS hl hret
  have hA := sgY.self (n := 26) (h := h) (sz := s.heap.size)
  have hl : lv_has ls 3 [(0, .ref (h 0)), (1, .int 6), (2, .int x1)] := hl
  obtain ⟨H, hH⟩ : ∃ z : Heap, z = s.heap := ⟨_, rfl⟩
  obtain ⟨locs, hlo⟩ : ∃ z : List Loc, z = [] := ⟨_, rfl⟩
  have hP : va_P D vwCl (sgw 26 h (eM ca h) f L Q) H := by rw [hH]; exact hP
  have hS : va_S (sgA 26 h s.heap.size) s.heap H locs := by rw [hH, hlo]; exact hS
  suffices hgo : W p l e ({ frames := 2, cells := 0, slots := 0, locals := 43 }) s m ([.ref (h 0), .int 6, .int x1] : List Value).toArray below meth cd H locs 0 0 Qz (F0 m 0 ls []) by rw [hH, hlo] at hgo; exact hgo
  clear hH hlo
  have o_1 : (f 0 48).toInt = 2 := (congrArg Int32.toInt (show f 0 48 = 2 from hf_0_48)).trans (by decide)
  have hF : sgK WkX12_setsAs_6_f2_f6 f f := sgK.rf
  refine lv_iload_n hx hb dX12_setsAs_0 rfl (lv_at hl 1 rfl) ?_
  refine lv_iconst (v := 1) hx hb dX12_setsAs_1 (by decide) ?_
  refine lv_icmp_eq (tgt := 16) hx hb dX12_setsAs_2 (by decide) (fun c => absurd c (by decide)) (fun c => ?_)
  refine lv_iload_n hx hb dX12_setsAs_5 rfl (lv_at hl 1 rfl) ?_
  refine lv_iconst (v := 4) hx hb dX12_setsAs_6 (by decide) ?_
  refine lv_icmp_eq (tgt := 16) hx hb dX12_setsAs_7 (by decide) (fun c => absurd c (by decide)) (fun c => ?_)
  refine lv_iload_n hx hb dX12_setsAs_10 rfl (lv_at hl 1 rfl) ?_
  refine lv_bipush (v := 7) hx hb dX12_setsAs_11 (by decide) ?_
  refine lv_icmp_ne (tgt := 31) hx hb dX12_setsAs_13 (by decide) (fun c => ?_) (fun c => absurd c (by decide))
  refine lv_iload_n hx hb dX12_setsAs_31 rfl (lv_at hl 1 rfl) ?_
  refine lv_bipush (v := 6) hx hb dX12_setsAs_32 (by decide) ?_
  refine lv_icmp_ne (tgt := 52) hx hb dX12_setsAs_34 (by decide) (fun c => absurd c (by decide)) (fun c => ?_)
  refine lv_aload_n hx hb dX12_setsAs_37 rfl (lv_at hl 0 rfl) ?_
  refine lv_bipush (v := 70) hx hb dX12_setsAs_38 (by decide) ?_
  have q_2 : (f 0 48).toInt = 2 := (congrArg Int32.toInt (show f 0 48 = 2 from hf_0_48)).trans (by decide)
  have q_3 : (f 0 48).toInt = 2 := (congrArg Int32.toInt (show f 0 48 = 2 from hf_0_48)).trans (by decide)
  refine sg_callv (va_runV (As := [.int 70]) (rest := []) ⟨hx, hb, hml, hown, hts⟩ (kX12_begins_70_f2 l D ca za h hh f L Q hI hf_0_48 (by have k0 : (70 : Int32).toInt = 70 := (by decide); omega) H.size) (cwV 1 hts (gw_V (fun _ h => List.mem_cons_of_mem _ h) mw_734 mw_735 mw_736 mw_619 mw_733) rfl rfl rfl (by decide +kernel) ⟨Nat.le_of_ble_eq_true rfl, Nat.le_of_ble_eq_true rfl⟩) (sg_preV (ci := 12) (C := RX12) (T := TX12) (N := 55) hA hK hP hS hZ 0 (by decide) rfl rfl) rfl rfl hl.1 rfl (lv_room (Nat.le_of_ble_eq_true rfl)) dX12_setsAs_40 ⟨Nat.le_refl _, Nat.le_refl _⟩) hA hS (fun f_4 L_5 Q_6 H locs hq hP hS => ?_)
  obtain ⟨⟨hI, hk_f_4, eL9, eQ9⟩, p_7⟩ := hq
  rw [eL9, eQ9] at hP; clear eL9 eQ9
  have hF : sgK WkX12_setsAs_6_f2_f6 f f_4 := sgK.tr hF hk_f_4 (by decide)
  obtain ⟨v_8, ev_8⟩ : ∃ z : Int32, z = f_4 0 48 := ⟨_, rfl⟩
  have q_9 : 0 ≤ v_8.toInt ∧ v_8.toInt ≤ 19 := by rw [ev_8]; exact hI 0 48
  have q_10 : (f_4 0 48).toInt = v_8.toInt := (congrArg Int32.toInt (show f_4 0 48 = v_8 from ev_8.symm))
  have q_11 : (f_4 0 48).toInt = v_8.toInt := (congrArg Int32.toInt (show f_4 0 48 = v_8 from ev_8.symm))
  refine lv_aload_n hx hb dX12_setsAs_43 rfl (lv_at hl 0 rfl) ?_
  refine lv_iconst (v := 0) hx hb dX12_setsAs_44 (by decide) ?_
  refine lv_iload_n hx hb dX12_setsAs_45 rfl (lv_at hl 2 rfl) ?_
  have c_12 : v_8 = 3 := Int32.toInt_inj.mp (by have k9 : (3 : Int32).toInt = 3 := (by decide); omega)
  have q_13 : (f_4 0 48).toInt = 3 := (congrArg Int32.toInt (show f_4 0 48 = 3 from (Eq.trans ev_8.symm c_12))).trans (by decide)
  have q_14 : (f_4 0 48).toInt = 3 := (congrArg Int32.toInt (show f_4 0 48 = 3 from (Eq.trans ev_8.symm c_12))).trans (by decide)
  refine sg_calli (va_runV (As := [.int 0, .int x1]) (rest := []) ⟨hx, hb, hml, hown, hts⟩ (kX12_setsAs_0_f3_f6 l D ca za h hh f_4 L Q hI x1 (Eq.trans ev_8.symm c_12) ((hk_f_4 0 49 (by decide)).trans hf_0_49) (by have k0 : (0 : Int32).toInt = 0 := (by decide); omega) H.size) (cwV 2 hts (gw_V (fun _ h => List.mem_cons_of_mem _ h) mw_744 mw_745 mw_746 mw_619 mw_743) rfl rfl rfl (by decide +kernel) ⟨Nat.le_of_ble_eq_true rfl, Nat.le_of_ble_eq_true rfl⟩) (sg_preV (ci := 12) (C := RX12) (T := TX12) (N := 55) hA hK hP hS hZ 0 (by decide) rfl rfl) rfl rfl hl.1 rfl (lv_room (Nat.le_of_ble_eq_true rfl)) dX12_setsAs_46 ⟨Nat.le_refl _, Nat.le_refl _⟩) hA hS (fun r_18 f_15 L_16 Q_17 H locs hq hP hS => ?_)
  obtain ⟨⟨hI, hk_f_15, eL9, eQ9⟩, hq, p_19⟩ := hq
  rw [eL9, eQ9] at hP; clear eL9 eQ9
  have hF : sgK WkX12_setsAs_6_f2_f6 f f_15 := sgK.tr hF hk_f_15 (by decide)
  obtain ⟨v_20, ev_20⟩ : ∃ z : Int32, z = f_15 0 48 := ⟨_, rfl⟩
  have q_21 : 0 ≤ v_20.toInt ∧ v_20.toInt ≤ 19 := by rw [ev_20]; exact hI 0 48
  have q_22 : (f_15 0 48).toInt = v_20.toInt := (congrArg Int32.toInt (show f_15 0 48 = v_20 from ev_20.symm))
  have q_23 : (f_15 0 48).toInt = v_20.toInt := (congrArg Int32.toInt (show f_15 0 48 = v_20 from ev_20.symm))
  have k_24 : (0 : Int32).toInt = 0 := by decide
  refine lv_iconst (v := 2) hx hb dX12_setsAs_49 (by decide) ?_
  refine lv_imul hx hb dX12_setsAs_50 ?_
  refine lv_topi (fun v_25 ev_25 => ?_)
  have q_26 : (f_15 0 48).toInt = v_20.toInt := (congrArg Int32.toInt (show f_15 0 48 = v_20 from ev_20.symm))
  have q_27 : (f_15 0 48).toInt = v_20.toInt := (congrArg Int32.toInt (show f_15 0 48 = v_20 from ev_20.symm))
  exact hret _ _ _ _ (v_25) f_15 L Q dX12_setsAs_51 hP hS ⟨⟨hI, hF, rfl, rfl⟩, trivial, (by omega)⟩

abbrev WkX12_sitsAs_6_f1_f6 : List (Nat × Nat × Option Nat) := [(0, 0, some 48), (21, 21, none)]
set_option maxHeartbeats 4000000 in
set_option maxRecDepth 100000 in
theorem kX12_sitsAs_6_f1_f6 (l : Launch) (D : va_G) (ca : Nat → ClassId) (za h : Nat → Nat) (hh : sgH 26 h) (f : sg_F) (L : sg_L) (Q : sg_Q) (hI : sgI loM hiM f) (x1 : Int32) (hf_0_48 : f 0 48 = 1) (hf_0_49 : f 0 49 = 6) (p0 : 1 ≤ (f 0 48).toInt ∧ (f 0 48).toInt ≤ 1) (sz : Nat) : Met l yX12_sitsAs gwX12_sitsAs { frames := 3, cells := 0, slots := 0, locals := 65 } (sgP D vwCl (tyX ca) 26 h (eM ca h) zcM za f L Q sz [.ref (h 0), .int 6, .int x1]) (sgQi D vwCl 26 h (eM ca h) sz (fun r f1 L1 Q1 => ((sgI loM hiM f1 ∧ sgK WkX12_sitsAs_6_f1_f6 f f1 ∧ L1 = L ∧ Q1 = Q) ∧ True ∧ (4 ≤ (f1 0 48).toInt ∧ (f1 0 48).toInt ≤ 4)))) 0 0 (sgA 26 h sz) := by
  refine sg_ofWi (cc := cX12_sitsAs) (maxL := 4) RX12 (by decide) rfl rfl (Nat.le_of_ble_eq_true rfl) ?_
  intro p e s m below meth cd Qz ls hx hb hml hown hts hK hZ hP hS hl hret
  have hA := sgY.self (n := 26) (h := h) (sz := s.heap.size)
  have hl : lv_has ls 4 [(0, .ref (h 0)), (1, .int 6), (2, .int x1)] := hl
  obtain ⟨H, hH⟩ : ∃ z : Heap, z = s.heap := ⟨_, rfl⟩
  obtain ⟨locs, hlo⟩ : ∃ z : List Loc, z = [] := ⟨_, rfl⟩
  have hP : va_P D vwCl (sgw 26 h (eM ca h) f L Q) H := by rw [hH]; exact hP
  have hS : va_S (sgA 26 h s.heap.size) s.heap H locs := by rw [hH, hlo]; exact hS
  suffices hgo : W p l e ({ frames := 3, cells := 0, slots := 0, locals := 65 }) s m ([.ref (h 0), .int 6, .int x1] : List Value).toArray below meth cd H locs 0 0 Qz (F0 m 0 ls []) by rw [hH, hlo] at hgo; exact hgo
  clear hH hlo
  have o_1 : (f 0 48).toInt = 1 := (congrArg Int32.toInt (show f 0 48 = 1 from hf_0_48)).trans (by decide)
  have hF : sgK WkX12_sitsAs_6_f1_f6 f f := sgK.rf
  refine lv_iload_n hx hb dX12_sitsAs_0 rfl (lv_at hl 1 rfl) ?_
  refine lv_iconst (v := 3) hx hb dX12_sitsAs_1 (by decide) ?_
  refine lv_icmp_eq (tgt := 10) hx hb dX12_sitsAs_2 (by decide) (fun c => absurd c (by decide)) (fun c => ?_)
  refine lv_iload_n hx hb dX12_sitsAs_5 rfl (lv_at hl 1 rfl) ?_
  refine lv_iconst (v := 5) hx hb dX12_sitsAs_6 (by decide) ?_
  refine lv_icmp_ne (tgt := 25) hx hb dX12_sitsAs_7 (by decide) (fun c => ?_) (fun c => absurd c (by decide))
  refine lv_iload_n hx hb dX12_sitsAs_25 rfl (lv_at hl 1 rfl) ?_
  refine lv_iconst (v := 2) hx hb dX12_sitsAs_26 (by decide) ?_
  refine lv_icmp_ne (tgt := 44) hx hb dX12_sitsAs_27 (by decide) (fun c => ?_) (fun c => absurd c (by decide))
  refine lv_iload_n hx hb dX12_sitsAs_44 rfl (lv_at hl 1 rfl) ?_
  refine lv_bipush (v := 7) hx hb dX12_sitsAs_45 (by decide) ?_
  refine lv_icmp_ne (tgt := 75) hx hb dX12_sitsAs_47 (by decide) (fun c => ?_) (fun c => absurd c (by decide))
  refine lv_aload_n hx hb dX12_sitsAs_75 rfl (lv_at hl 0 rfl) ?_
  refine lv_bipush (v := 10) hx hb dX12_sitsAs_76 (by decide) ?_
  have q_2 : (f 0 48).toInt = 1 := (congrArg Int32.toInt (show f 0 48 = 1 from hf_0_48)).trans (by decide)
  have q_3 : (f 0 48).toInt = 1 := (congrArg Int32.toInt (show f 0 48 = 1 from hf_0_48)).trans (by decide)
  refine sg_callv (va_runV (As := [.int 10]) (rest := []) ⟨hx, hb, hml, hown, hts⟩ (kX12_begins_10_f1 l D ca za h hh f L Q hI hf_0_48 (by have k0 : (10 : Int32).toInt = 10 := (by decide); omega) H.size) (cwV 1 hts (gw_V (fun _ h => List.mem_cons_of_mem _ h) mw_734 mw_735 mw_736 mw_619 mw_733) rfl rfl rfl (by decide +kernel) ⟨Nat.le_of_ble_eq_true rfl, Nat.le_of_ble_eq_true rfl⟩) (sg_preV (ci := 12) (C := RX12) (T := TX12) (N := 55) hA hK hP hS hZ 0 (by decide) rfl rfl) rfl rfl hl.1 rfl (lv_room (Nat.le_of_ble_eq_true rfl)) dX12_sitsAs_78 ⟨Nat.le_refl _, Nat.le_refl _⟩) hA hS (fun f_4 L_5 Q_6 H locs hq hP hS => ?_)
  obtain ⟨⟨hI, hk_f_4, eL9, eQ9⟩, p_7⟩ := hq
  rw [eL9, eQ9] at hP; clear eL9 eQ9
  have hF : sgK WkX12_sitsAs_6_f1_f6 f f_4 := sgK.tr hF hk_f_4 (by decide)
  obtain ⟨v_8, ev_8⟩ : ∃ z : Int32, z = f_4 0 48 := ⟨_, rfl⟩
  have q_9 : 0 ≤ v_8.toInt ∧ v_8.toInt ≤ 19 := by rw [ev_8]; exact hI 0 48
  have q_10 : (f_4 0 48).toInt = v_8.toInt := (congrArg Int32.toInt (show f_4 0 48 = v_8 from ev_8.symm))
  have q_11 : (f_4 0 48).toInt = v_8.toInt := (congrArg Int32.toInt (show f_4 0 48 = v_8 from ev_8.symm))
  refine lv_aload_n hx hb dX12_sitsAs_81 rfl (lv_at hl 0 rfl) ?_
  refine lv_aload_n hx hb dX12_sitsAs_82 rfl (lv_at hl 0 rfl) ?_
  refine sg_get (ci := 12) (v := .int 6) (C := RX12) (T := TX12) (N := 55) hx hb hts (fun w h => List.mem_cons_of_mem _ (gx_12 w h)) hown hK hP 0 (by decide) rfl rfl 49 (by decide) (hts _ (List.mem_cons_of_mem _ mw_679)) (fun _ h9 => h9) (congrArg (fun z => some (Value.int z)) (show f_4 0 49 = 6 from ((hk_f_4 0 49 (by decide)).trans hf_0_49))) dX12_sitsAs_83 ?_
  refine lv_iload_n hx hb dX12_sitsAs_86 rfl (lv_at hl 2 rfl) ?_
  have c_12 : v_8 = 2 := Int32.toInt_inj.mp (by have k9 : (2 : Int32).toInt = 2 := (by decide); omega)
  have q_13 : (f_4 0 48).toInt = 2 := (congrArg Int32.toInt (show f_4 0 48 = 2 from (Eq.trans ev_8.symm c_12))).trans (by decide)
  have q_14 : (f_4 0 48).toInt = 2 := (congrArg Int32.toInt (show f_4 0 48 = 2 from (Eq.trans ev_8.symm c_12))).trans (by decide)
  refine sg_calli (va_runV (As := [.int 6, .int x1]) (rest := []) ⟨hx, hb, hml, hown, hts⟩ (kX12_setsAs_6_f2_f6 l D ca za h hh f_4 L Q hI x1 (Eq.trans ev_8.symm c_12) ((hk_f_4 0 49 (by decide)).trans hf_0_49) (by have k0 : (6 : Int32).toInt = 6 := (by decide); omega) H.size) (cwV 2 hts (gw_V (fun _ h => List.mem_cons_of_mem _ h) mw_744 mw_745 mw_746 mw_619 mw_743) rfl rfl rfl (by decide +kernel) ⟨Nat.le_of_ble_eq_true rfl, Nat.le_of_ble_eq_true rfl⟩) (sg_preV (ci := 12) (C := RX12) (T := TX12) (N := 55) hA hK hP hS hZ 0 (by decide) rfl rfl) rfl rfl hl.1 rfl (lv_room (Nat.le_of_ble_eq_true rfl)) dX12_sitsAs_87 ⟨Nat.le_refl _, Nat.le_refl _⟩) hA hS (fun r_18 f_15 L_16 Q_17 H locs hq hP hS => ?_)
  obtain ⟨⟨hI, hk_f_15, eL9, eQ9⟩, hq, p_19⟩ := hq
  rw [eL9, eQ9] at hP; clear eL9 eQ9
  have hF : sgK WkX12_sitsAs_6_f1_f6 f f_15 := sgK.tr hF hk_f_15 (by decide)
  obtain ⟨v_20, ev_20⟩ : ∃ z : Int32, z = f_15 0 48 := ⟨_, rfl⟩
  have q_21 : 0 ≤ v_20.toInt ∧ v_20.toInt ≤ 19 := by rw [ev_20]; exact hI 0 48
  have q_22 : (f_15 0 48).toInt = v_20.toInt := (congrArg Int32.toInt (show f_15 0 48 = v_20 from ev_20.symm))
  have q_23 : (f_15 0 48).toInt = v_20.toInt := (congrArg Int32.toInt (show f_15 0 48 = v_20 from ev_20.symm))
  have k_24 : (6 : Int32).toInt = 6 := by decide
  refine lv_iconst (v := 2) hx hb dX12_sitsAs_90 (by decide) ?_
  refine lv_imul hx hb dX12_sitsAs_91 ?_
  refine lv_topi (fun v_25 ev_25 => ?_)
  have q_26 : (f_15 0 48).toInt = v_20.toInt := (congrArg Int32.toInt (show f_15 0 48 = v_20 from ev_20.symm))
  have q_27 : (f_15 0 48).toInt = v_20.toInt := (congrArg Int32.toInt (show f_15 0 48 = v_20 from ev_20.symm))
  exact hret _ _ _ _ (v_25) f_15 L Q dX12_sitsAs_92 hP hS ⟨⟨hI, hF, rfl, rfl⟩, trivial, (by omega)⟩

abbrev WkX12_slipsAs_6_f4_f6 : List (Nat × Nat × Option Nat) := [(0, 0, some 48), (21, 21, none)]
set_option maxHeartbeats 4000000 in
set_option maxRecDepth 100000 in
theorem kX12_slipsAs_6_f4_f6 (l : Launch) (D : va_G) (ca : Nat → ClassId) (za h : Nat → Nat) (hh : sgH 26 h) (f : sg_F) (L : sg_L) (Q : sg_Q) (hI : sgI loM hiM f) (x1 : Int32) (hf_0_48 : f 0 48 = 4) (hf_0_49 : f 0 49 = 6) (b1 : 1 ≤ x1.toInt ∧ x1.toInt ≤ 1) (p0 : 4 ≤ (f 0 48).toInt ∧ (f 0 48).toInt ≤ 4) (sz : Nat) : Met l yX12_slipsAs gwX12_slipsAs { frames := 1, cells := 0, slots := 0, locals := 21 } (sgP D vwCl (tyX ca) 26 h (eM ca h) zcM za f L Q sz [.ref (h 0), .int 6, .int x1]) (sgQi D vwCl 26 h (eM ca h) sz (fun r f1 L1 Q1 => ((sgI loM hiM f1 ∧ sgK WkX12_slipsAs_6_f4_f6 f f1 ∧ L1 = L ∧ Q1 = Q) ∧ True ∧ (5 ≤ (f1 0 48).toInt ∧ (f1 0 48).toInt ≤ 5)))) 0 0 (sgA 26 h sz) := by
  refine sg_ofWi (cc := cX12_slipsAs) (maxL := 4) RX12 (by decide) rfl rfl (Nat.le_of_ble_eq_true rfl) ?_
  intro p e s m below meth cd Qz ls hx hb hml hown hts hK hZ hP hS hl hret
  have hA := sgY.self (n := 26) (h := h) (sz := s.heap.size)
  have hl : lv_has ls 4 [(0, .ref (h 0)), (1, .int 6), (2, .int x1)] := hl
  obtain ⟨H, hH⟩ : ∃ z : Heap, z = s.heap := ⟨_, rfl⟩
  obtain ⟨locs, hlo⟩ : ∃ z : List Loc, z = [] := ⟨_, rfl⟩
  have hP : va_P D vwCl (sgw 26 h (eM ca h) f L Q) H := by rw [hH]; exact hP
  have hS : va_S (sgA 26 h s.heap.size) s.heap H locs := by rw [hH, hlo]; exact hS
  suffices hgo : W p l e ({ frames := 1, cells := 0, slots := 0, locals := 21 }) s m ([.ref (h 0), .int 6, .int x1] : List Value).toArray below meth cd H locs 0 0 Qz (F0 m 0 ls []) by rw [hH, hlo] at hgo; exact hgo
  clear hH hlo
  have o_1 : (f 0 48).toInt = 4 := (congrArg Int32.toInt (show f 0 48 = 4 from hf_0_48)).trans (by decide)
  have hF : sgK WkX12_slipsAs_6_f4_f6 f f := sgK.rf
  refine lv_iload_n hx hb dX12_slipsAs_0 rfl (lv_at hl 1 rfl) ?_
  refine lv_iconst (v := 3) hx hb dX12_slipsAs_1 (by decide) ?_
  refine lv_icmp_eq (tgt := 10) hx hb dX12_slipsAs_2 (by decide) (fun c => absurd c (by decide)) (fun c => ?_)
  refine lv_iload_n hx hb dX12_slipsAs_5 rfl (lv_at hl 1 rfl) ?_
  refine lv_iconst (v := 5) hx hb dX12_slipsAs_6 (by decide) ?_
  refine lv_icmp_ne (tgt := 25) hx hb dX12_slipsAs_7 (by decide) (fun c => ?_) (fun c => absurd c (by decide))
  refine lv_iload_n hx hb dX12_slipsAs_25 rfl (lv_at hl 1 rfl) ?_
  refine lv_iconst (v := 4) hx hb dX12_slipsAs_26 (by decide) ?_
  refine lv_icmp_eq (tgt := 36) hx hb dX12_slipsAs_27 (by decide) (fun c => absurd c (by decide)) (fun c => ?_)
  refine lv_iload_n hx hb dX12_slipsAs_30 rfl (lv_at hl 1 rfl) ?_
  refine lv_bipush (v := 7) hx hb dX12_slipsAs_31 (by decide) ?_
  refine lv_icmp_ne (tgt := 61) hx hb dX12_slipsAs_33 (by decide) (fun c => ?_) (fun c => absurd c (by decide))
  refine lv_aload_n hx hb dX12_slipsAs_61 rfl (lv_at hl 0 rfl) ?_
  refine lv_bipush (v := 11) hx hb dX12_slipsAs_62 (by decide) ?_
  have q_2 : (f 0 48).toInt = 4 := (congrArg Int32.toInt (show f 0 48 = 4 from hf_0_48)).trans (by decide)
  have q_3 : (f 0 48).toInt = 4 := (congrArg Int32.toInt (show f 0 48 = 4 from hf_0_48)).trans (by decide)
  refine sg_callv (va_runV (As := [.int 11]) (rest := []) ⟨hx, hb, hml, hown, hts⟩ (kX12_begins_11_f4 l D ca za h hh f L Q hI hf_0_48 (by have k0 : (11 : Int32).toInt = 11 := (by decide); omega) H.size) (cwV 1 hts (gw_V (fun _ h => List.mem_cons_of_mem _ h) mw_734 mw_735 mw_736 mw_619 mw_733) rfl rfl rfl (by decide +kernel) ⟨Nat.le_of_ble_eq_true rfl, Nat.le_of_ble_eq_true rfl⟩) (sg_preV (ci := 12) (C := RX12) (T := TX12) (N := 55) hA hK hP hS hZ 0 (by decide) rfl rfl) rfl rfl hl.1 rfl (lv_room (Nat.le_of_ble_eq_true rfl)) dX12_slipsAs_64 ⟨Nat.le_refl _, Nat.le_refl _⟩) hA hS (fun f_4 L_5 Q_6 H locs hq hP hS => ?_)
  obtain ⟨⟨hI, hk_f_4, eL9, eQ9⟩, p_7⟩ := hq
  rw [eL9, eQ9] at hP; clear eL9 eQ9
  have hF : sgK WkX12_slipsAs_6_f4_f6 f f_4 := sgK.tr hF hk_f_4 (by decide)
  obtain ⟨v_8, ev_8⟩ : ∃ z : Int32, z = f_4 0 48 := ⟨_, rfl⟩
  have q_9 : 0 ≤ v_8.toInt ∧ v_8.toInt ≤ 19 := by rw [ev_8]; exact hI 0 48
  have q_10 : (f_4 0 48).toInt = v_8.toInt := (congrArg Int32.toInt (show f_4 0 48 = v_8 from ev_8.symm))
  have q_11 : (f_4 0 48).toInt = v_8.toInt := (congrArg Int32.toInt (show f_4 0 48 = v_8 from ev_8.symm))
  refine lv_iload_n hx hb dX12_slipsAs_67 rfl (lv_at hl 2 rfl) ?_
  refine lv_aload_n hx hb dX12_slipsAs_68 rfl (lv_at hl 0 rfl) ?_
  refine sg_get (ci := 12) (v := .int (f_4 0 50)) (C := RX12) (T := TX12) (N := 55) hx hb hts (fun w h => List.mem_cons_of_mem _ (gx_12 w h)) hown hK hP 0 (by decide) rfl rfl 50 (by decide) (hts _ (List.mem_cons_of_mem _ mw_680)) (fun _ h9 => h9) rfl dX12_slipsAs_69 ?_
  refine lv_topi (fun v_12 ev_12 => ?_)
  have q_13 : 0 ≤ v_12.toInt ∧ v_12.toInt ≤ 49 := by rw [ev_12]; exact hI 0 50
  refine lv_ixor hx hb dX12_slipsAs_72 ?_
  refine lv_topi (fun v_14 ev_14 => ?_)
  have q_15 : (f_4 0 48).toInt = v_8.toInt := (congrArg Int32.toInt (show f_4 0 48 = v_8 from ev_8.symm))
  have q_16 : (f_4 0 48).toInt = v_8.toInt := (congrArg Int32.toInt (show f_4 0 48 = v_8 from ev_8.symm))
  exact hret _ _ _ _ (v_14) f_4 L Q dX12_slipsAs_73 hP hS ⟨⟨hI, hF, rfl, rfl⟩, trivial, (by omega)⟩

abbrev WkX12_tellsAs_6_f0_f6 : List (Nat × Nat × Option Nat) := [(0, 0, some 48), (21, 21, none)]
set_option maxHeartbeats 4000000 in
set_option maxRecDepth 100000 in
theorem kX12_tellsAs_6_f0_f6 (l : Launch) (D : va_G) (ca : Nat → ClassId) (za h : Nat → Nat) (hh : sgH 26 h) (f : sg_F) (L : sg_L) (Q : sg_Q) (hI : sgI loM hiM f) (x1 : Int32) (hf_0_48 : f 0 48 = 0) (hf_0_49 : f 0 49 = 6) (p0 : 0 ≤ (f 0 48).toInt ∧ (f 0 48).toInt ≤ 0) (sz : Nat) : Met l yX12_tellsAs gwX12_tellsAs { frames := 4, cells := 0, slots := 0, locals := 88 } (sgP D vwCl (tyX ca) 26 h (eM ca h) zcM za f L Q sz [.ref (h 0), .int 6, .int x1]) (sgQi D vwCl 26 h (eM ca h) sz (fun r f1 L1 Q1 => ((sgI loM hiM f1 ∧ sgK WkX12_tellsAs_6_f0_f6 f f1 ∧ L1 = L ∧ Q1 = Q) ∧ True ∧ (5 ≤ (f1 0 48).toInt ∧ (f1 0 48).toInt ≤ 5)))) 0 0 (sgA 26 h sz) := by
  refine sg_ofWi (cc := cX12_tellsAs) (maxL := 4) RX12 (by decide) rfl rfl (Nat.le_of_ble_eq_true rfl) ?_
  intro p e s m below meth cd Qz ls hx hb hml hown hts hK hZ hP hS hl hret
  have hA := sgY.self (n := 26) (h := h) (sz := s.heap.size)
  have hl : lv_has ls 4 [(0, .ref (h 0)), (1, .int 6), (2, .int x1)] := hl
  obtain ⟨H, hH⟩ : ∃ z : Heap, z = s.heap := ⟨_, rfl⟩
  obtain ⟨locs, hlo⟩ : ∃ z : List Loc, z = [] := ⟨_, rfl⟩
  have hP : va_P D vwCl (sgw 26 h (eM ca h) f L Q) H := by rw [hH]; exact hP
  have hS : va_S (sgA 26 h s.heap.size) s.heap H locs := by rw [hH, hlo]; exact hS
  suffices hgo : W p l e ({ frames := 4, cells := 0, slots := 0, locals := 88 }) s m ([.ref (h 0), .int 6, .int x1] : List Value).toArray below meth cd H locs 0 0 Qz (F0 m 0 ls []) by rw [hH, hlo] at hgo; exact hgo
  clear hH hlo
  have o_1 : (f 0 48).toInt = 0 := (congrArg Int32.toInt (show f 0 48 = 0 from hf_0_48)).trans (by decide)
  have hF : sgK WkX12_tellsAs_6_f0_f6 f f := sgK.rf
  refine lv_iload_n hx hb dX12_tellsAs_0 rfl (lv_at hl 1 rfl) ?_
  refine lv_iconst (v := 5) hx hb dX12_tellsAs_1 (by decide) ?_
  refine lv_icmp_ne (tgt := 20) hx hb dX12_tellsAs_2 (by decide) (fun c => ?_) (fun c => absurd c (by decide))
  refine lv_iload_n hx hb dX12_tellsAs_20 rfl (lv_at hl 1 rfl) ?_
  refine lv_bipush (v := 7) hx hb dX12_tellsAs_21 (by decide) ?_
  refine lv_icmp_ne (tgt := 41) hx hb dX12_tellsAs_23 (by decide) (fun c => ?_) (fun c => absurd c (by decide))
  refine lv_aload_n hx hb dX12_tellsAs_41 rfl (lv_at hl 0 rfl) ?_
  refine lv_iconst (v := 2) hx hb dX12_tellsAs_42 (by decide) ?_
  have q_2 : (f 0 48).toInt = 0 := (congrArg Int32.toInt (show f 0 48 = 0 from hf_0_48)).trans (by decide)
  have q_3 : (f 0 48).toInt = 0 := (congrArg Int32.toInt (show f 0 48 = 0 from hf_0_48)).trans (by decide)
  refine sg_callv (va_runV (As := [.int 2]) (rest := []) ⟨hx, hb, hml, hown, hts⟩ (kX12_begins_2_f0 l D ca za h hh f L Q hI hf_0_48 (by have k0 : (2 : Int32).toInt = 2 := (by decide); omega) H.size) (cwV 1 hts (gw_V (fun _ h => List.mem_cons_of_mem _ h) mw_734 mw_735 mw_736 mw_619 mw_733) rfl rfl rfl (by decide +kernel) ⟨Nat.le_of_ble_eq_true rfl, Nat.le_of_ble_eq_true rfl⟩) (sg_preV (ci := 12) (C := RX12) (T := TX12) (N := 55) hA hK hP hS hZ 0 (by decide) rfl rfl) rfl rfl hl.1 rfl (lv_room (Nat.le_of_ble_eq_true rfl)) dX12_tellsAs_43 ⟨Nat.le_refl _, Nat.le_refl _⟩) hA hS (fun f_4 L_5 Q_6 H locs hq hP hS => ?_)
  obtain ⟨⟨hI, hk_f_4, eL9, eQ9⟩, p_7⟩ := hq
  rw [eL9, eQ9] at hP; clear eL9 eQ9
  have hF : sgK WkX12_tellsAs_6_f0_f6 f f_4 := sgK.tr hF hk_f_4 (by decide)
  obtain ⟨v_8, ev_8⟩ : ∃ z : Int32, z = f_4 0 48 := ⟨_, rfl⟩
  have q_9 : 0 ≤ v_8.toInt ∧ v_8.toInt ≤ 19 := by rw [ev_8]; exact hI 0 48
  have q_10 : (f_4 0 48).toInt = v_8.toInt := (congrArg Int32.toInt (show f_4 0 48 = v_8 from ev_8.symm))
  have q_11 : (f_4 0 48).toInt = v_8.toInt := (congrArg Int32.toInt (show f_4 0 48 = v_8 from ev_8.symm))
  refine lv_aload_n hx hb dX12_tellsAs_46 rfl (lv_at hl 0 rfl) ?_
  refine lv_aload_n hx hb dX12_tellsAs_47 rfl (lv_at hl 0 rfl) ?_
  refine sg_get (ci := 12) (v := .int 6) (C := RX12) (T := TX12) (N := 55) hx hb hts (fun w h => List.mem_cons_of_mem _ (gx_12 w h)) hown hK hP 0 (by decide) rfl rfl 49 (by decide) (hts _ (List.mem_cons_of_mem _ mw_679)) (fun _ h9 => h9) (congrArg (fun z => some (Value.int z)) (show f_4 0 49 = 6 from ((hk_f_4 0 49 (by decide)).trans hf_0_49))) dX12_tellsAs_48 ?_
  refine lv_iload_n hx hb dX12_tellsAs_51 rfl (lv_at hl 2 rfl) ?_
  have c_12 : v_8 = 1 := Int32.toInt_inj.mp (by have k9 : (1 : Int32).toInt = 1 := (by decide); omega)
  have q_13 : (f_4 0 48).toInt = 1 := (congrArg Int32.toInt (show f_4 0 48 = 1 from (Eq.trans ev_8.symm c_12))).trans (by decide)
  have q_14 : (f_4 0 48).toInt = 1 := (congrArg Int32.toInt (show f_4 0 48 = 1 from (Eq.trans ev_8.symm c_12))).trans (by decide)
  refine sg_calli (va_runV (As := [.int 6, .int x1]) (rest := []) ⟨hx, hb, hml, hown, hts⟩ (kX12_sitsAs_6_f1_f6 l D ca za h hh f_4 L Q hI x1 (Eq.trans ev_8.symm c_12) ((hk_f_4 0 49 (by decide)).trans hf_0_49) (by have k0 : (6 : Int32).toInt = 6 := (by decide); omega) H.size) (cwV 2 hts (gw_V (fun _ h => List.mem_cons_of_mem _ h) mw_801 mw_802 mw_803 mw_619 mw_800) rfl rfl rfl (by decide +kernel) ⟨Nat.le_of_ble_eq_true rfl, Nat.le_of_ble_eq_true rfl⟩) (sg_preV (ci := 12) (C := RX12) (T := TX12) (N := 55) hA hK hP hS hZ 0 (by decide) rfl rfl) rfl rfl hl.1 rfl (lv_room (Nat.le_of_ble_eq_true rfl)) dX12_tellsAs_52 ⟨Nat.le_refl _, Nat.le_refl _⟩) hA hS (fun r_18 f_15 L_16 Q_17 H locs hq hP hS => ?_)
  obtain ⟨⟨hI, hk_f_15, eL9, eQ9⟩, hq, p_19⟩ := hq
  rw [eL9, eQ9] at hP; clear eL9 eQ9
  have hF : sgK WkX12_tellsAs_6_f0_f6 f f_15 := sgK.tr hF hk_f_15 (by decide)
  obtain ⟨v_20, ev_20⟩ : ∃ z : Int32, z = f_15 0 48 := ⟨_, rfl⟩
  have q_21 : 0 ≤ v_20.toInt ∧ v_20.toInt ≤ 19 := by rw [ev_20]; exact hI 0 48
  have q_22 : (f_15 0 48).toInt = v_20.toInt := (congrArg Int32.toInt (show f_15 0 48 = v_20 from ev_20.symm))
  have q_23 : (f_15 0 48).toInt = v_20.toInt := (congrArg Int32.toInt (show f_15 0 48 = v_20 from ev_20.symm))
  have k_24 : (6 : Int32).toInt = 6 := by decide
  refine lv_istore_n (lv' := [(3, .int r_18), (0, .ref (h 0)), (1, .int 6), (2, .int x1)]) hx hb dX12_tellsAs_55 rfl hl (by decide) rfl (fun ls hl => ?_)
  refine lv_iload_n hx hb dX12_tellsAs_56 rfl (lv_at hl 0 rfl) ?_
  refine lv_aload_n hx hb dX12_tellsAs_57 rfl (lv_at hl 1 rfl) ?_
  refine lv_aload_n hx hb dX12_tellsAs_58 rfl (lv_at hl 1 rfl) ?_
  refine sg_get (ci := 12) (v := .int 6) (C := RX12) (T := TX12) (N := 55) hx hb hts (fun w h => List.mem_cons_of_mem _ (gx_12 w h)) hown hK hP 0 (by decide) rfl rfl 49 (by decide) (hts _ (List.mem_cons_of_mem _ mw_679)) (fun _ h9 => h9) (congrArg (fun z => some (Value.int z)) (show f_15 0 49 = 6 from ((hk_f_15 0 49 (by decide)).trans ((hk_f_4 0 49 (by decide)).trans hf_0_49)))) dX12_tellsAs_59 ?_
  refine lv_iconst (v := 1) hx hb dX12_tellsAs_62 (by decide) ?_
  have c_25 : v_20 = 4 := Int32.toInt_inj.mp (by have k9 : (4 : Int32).toInt = 4 := (by decide); omega)
  have q_26 : (f_15 0 48).toInt = 4 := (congrArg Int32.toInt (show f_15 0 48 = 4 from (Eq.trans ev_20.symm c_25))).trans (by decide)
  have q_27 : (f_15 0 48).toInt = 4 := (congrArg Int32.toInt (show f_15 0 48 = 4 from (Eq.trans ev_20.symm c_25))).trans (by decide)
  refine sg_calli (va_runV (As := [.int 6, .int 1]) (rest := [.int r_18]) ⟨hx, hb, hml, hown, hts⟩ (kX12_slipsAs_6_f4_f6 l D ca za h hh f_15 L Q hI 1 (Eq.trans ev_20.symm c_25) ((hk_f_15 0 49 (by decide)).trans ((hk_f_4 0 49 (by decide)).trans hf_0_49)) (by decide) (by have k0 : (6 : Int32).toInt = 6 := (by decide); have k1 : (1 : Int32).toInt = 1 := (by decide); omega) H.size) (cwV 2 hts (gw_V (fun _ h => List.mem_cons_of_mem _ h) mw_748 mw_749 mw_750 mw_619 mw_747) rfl rfl rfl (by decide +kernel) ⟨Nat.le_of_ble_eq_true rfl, Nat.le_of_ble_eq_true rfl⟩) (sg_preV (ci := 12) (C := RX12) (T := TX12) (N := 55) hA hK hP hS hZ 0 (by decide) rfl rfl) rfl rfl hl.1 rfl (lv_room (Nat.le_of_ble_eq_true rfl)) dX12_tellsAs_63 ⟨Nat.le_refl _, Nat.le_refl _⟩) hA hS (fun r_31 f_28 L_29 Q_30 H locs hq hP hS => ?_)
  obtain ⟨⟨hI, hk_f_28, eL9, eQ9⟩, hq, p_32⟩ := hq
  rw [eL9, eQ9] at hP; clear eL9 eQ9
  have hF : sgK WkX12_tellsAs_6_f0_f6 f f_28 := sgK.tr hF hk_f_28 (by decide)
  obtain ⟨v_33, ev_33⟩ : ∃ z : Int32, z = f_28 0 48 := ⟨_, rfl⟩
  have q_34 : 0 ≤ v_33.toInt ∧ v_33.toInt ≤ 19 := by rw [ev_33]; exact hI 0 48
  have q_35 : (f_28 0 48).toInt = v_33.toInt := (congrArg Int32.toInt (show f_28 0 48 = v_33 from ev_33.symm))
  have q_36 : (f_28 0 48).toInt = v_33.toInt := (congrArg Int32.toInt (show f_28 0 48 = v_33 from ev_33.symm))
  have k_37 : (6 : Int32).toInt = 6 := by decide
  have k_38 : (1 : Int32).toInt = 1 := by decide
  refine lv_isub hx hb dX12_tellsAs_66 ?_
  refine lv_topi (fun v_39 ev_39 => ?_)
  have q_40 : (f_28 0 48).toInt = v_33.toInt := (congrArg Int32.toInt (show f_28 0 48 = v_33 from ev_33.symm))
  have q_41 : (f_28 0 48).toInt = v_33.toInt := (congrArg Int32.toInt (show f_28 0 48 = v_33 from ev_33.symm))
  exact hret _ _ _ _ (v_39) f_28 L Q dX12_tellsAs_67 hP hS ⟨⟨hI, hF, rfl, rfl⟩, trivial, (by omega)⟩

abbrev WkX12_begins_81_f0 : List (Nat × Nat × Option Nat) := [(0, 0, some 48), (21, 21, none)]
set_option maxHeartbeats 4000000 in
set_option maxRecDepth 100000 in
theorem kX12_begins_81_f0 (l : Launch) (D : va_G) (ca : Nat → ClassId) (za h : Nat → Nat) (hh : sgH 26 h) (f : sg_F) (L : sg_L) (Q : sg_Q) (hI : sgI loM hiM f) (hf_0_48 : f 0 48 = 0) (p0 : 0 ≤ (f 0 48).toInt ∧ (f 0 48).toInt ≤ 0) (sz : Nat) : Met l yX12_begins gwX12_begins { frames := 0, cells := 0, slots := 0, locals := 0 } (sgP D vwCl (tyX ca) 26 h (eM ca h) zcM za f L Q sz [.ref (h 0), .int 81]) (sgQv D vwCl 26 h (eM ca h) sz (fun f1 L1 Q1 => ((sgI loM hiM f1 ∧ sgK WkX12_begins_81_f0 f f1 ∧ L1 = L ∧ Q1 = Q) ∧ (1 ≤ (f1 0 48).toInt ∧ (f1 0 48).toInt ≤ 1)))) 0 0 (sgA 26 h sz) := by
  refine sg_ofWv (cc := cX12_begins) (maxL := 2) RX12 (by decide) rfl rfl (Nat.le_of_ble_eq_true rfl) ?_
  intro p e s m below meth cd Qz ls hx hb hml hown hts hK hZ hP hS hl hret
  have hA := sgY.self (n := 26) (h := h) (sz := s.heap.size)
  have hl : lv_has ls 2 [(0, .ref (h 0)), (1, .int 81)] := hl
  obtain ⟨H, hH⟩ : ∃ z : Heap, z = s.heap := ⟨_, rfl⟩
  obtain ⟨locs, hlo⟩ : ∃ z : List Loc, z = [] := ⟨_, rfl⟩
  have hP : va_P D vwCl (sgw 26 h (eM ca h) f L Q) H := by rw [hH]; exact hP
  have hS : va_S (sgA 26 h s.heap.size) s.heap H locs := by rw [hH, hlo]; exact hS
  suffices hgo : W p l e ({ frames := 0, cells := 0, slots := 0, locals := 0 }) s m ([.ref (h 0), .int 81] : List Value).toArray below meth cd H locs 0 0 Qz (F0 m 0 ls []) by rw [hH, hlo] at hgo; exact hgo
  clear hH hlo
  have o_1 : (f 0 48).toInt = 0 := (congrArg Int32.toInt (show f 0 48 = 0 from hf_0_48)).trans (by decide)
  have hF : sgK WkX12_begins_81_f0 f f := sgK.rf
  have blk_19 : ∀ (fp_19 : sg_F) (H : Heap) (locs : List Loc) (ls : Array Slot), 0 ≤ (fp_19 0 48).toInt ∧ (fp_19 0 48).toInt ≤ 0 → sgI loM hiM fp_19 → sgK WkX12_begins_81_f0 f fp_19 → va_P D vwCl (sgw 26 h (eM ca h) fp_19 L Q) H → va_S (sgA 26 h s.heap.size) s.heap H locs → lv_has ls 2 [(0, .ref (h 0))] → W p l e ({ frames := 0, cells := 0, slots := 0, locals := 0 }) s m ([.ref (h 0), .int 81] : List Value).toArray below meth cd H locs 0 0 Qz (F0 m 19 ls []) := by
    intro fp_19 H locs ls hy0_19 hI hF hP hS hl
    obtain ⟨v_2, ev_2⟩ : ∃ z : Int32, z = fp_19 0 48 := ⟨_, rfl⟩
    have q_3 : 0 ≤ v_2.toInt ∧ v_2.toInt ≤ 19 := by rw [ev_2]; exact hI 0 48
    have q_4 : (fp_19 0 48).toInt = v_2.toInt := by rw [ev_2]
    refine lv_aload_n hx hb dX12_begins_19 rfl (lv_at hl 0 rfl) ?_
    refine lv_dup hx hb dX12_begins_20 rfl ?_
    refine sg_get (ci := 12) (v := .int v_2) (C := RX12) (T := TX12) (N := 55) hx hb hts (fun w h => List.mem_cons_of_mem _ (gx_12 w h)) hown hK hP 0 (by decide) rfl rfl 48 (by decide) (hts _ (List.mem_cons_of_mem _ mw_621)) (fun _ h9 => h9) (congrArg (fun z => some (Value.int z)) (show fp_19 0 48 = v_2 from ev_2.symm)) dX12_begins_21 ?_
    refine lv_iconst (v := 1) hx hb dX12_begins_24 (by decide) ?_
    refine lv_iadd hx hb dX12_begins_25 ?_
    refine lv_topi (fun v_5 ev_5 => ?_)
    have q_6 : v_5.toInt = v_2.toInt + 1 := by rw [ev_5]; have k1 : (1 : Int32).toInt = 1 := (by decide); exact (bn_addI (by omega) (by omega)).trans (by omega)
    refine sg_put (ci := 12) (x := v_5) (ty := .int) (C := RX12) (T := TX12) (N := 55) hx hb hts (fun w h => List.mem_cons_of_mem _ (gx_12 w h)) tyX12 tyX12_ok nmX12 hown hh hA hK hP hS 0 (by decide) rfl rfl 48 (by decide) (hts _ (List.mem_cons_of_mem _ mw_621)) (fun _ h9 => h9) rfl rfl (by decide +kernel) rfl rfl (Nat.le_of_ble_eq_true rfl) dX12_begins_26 (fun f_7 H locs ef_7 hP hS => ?_)
    have hI : sgI loM hiM f_7 := by rw [ef_7]; exact sgI.put hI 0 48 (show 0 ≤ (v_5 : Int32).toInt ∧ (v_5 : Int32).toInt ≤ 19 from by omega)
    have hF : sgK WkX12_begins_81_f0 f f_7 := sgK.put hF ef_7 (by rfl)
    have q_8 : (f_7 0 48).toInt = v_5.toInt := (congrArg Int32.toInt (show f_7 0 48 = v_5 from (by rw [ef_7, sg_up_s, sgu_s])))
    have q_9 : (f_7 0 48).toInt = v_5.toInt := (congrArg Int32.toInt (show f_7 0 48 = v_5 from (by rw [ef_7, sg_up_s, sgu_s])))
    exact hret _ _ _ _ f_7 L Q dX12_begins_29 hP hS ⟨⟨hI, hF, rfl, rfl⟩, (by omega)⟩
  refine lv_aload_n hx hb dX12_begins_0 rfl (lv_at hl 0 rfl) ?_
  refine sg_get (ci := 12) (v := .int 0) (C := RX12) (T := TX12) (N := 55) hx hb hts (fun w h => List.mem_cons_of_mem _ (gx_12 w h)) hown hK hP 0 (by decide) rfl rfl 48 (by decide) (hts _ (List.mem_cons_of_mem _ mw_621)) (fun _ h9 => h9) (congrArg (fun z => some (Value.int z)) (show f 0 48 = 0 from hf_0_48)) dX12_begins_1 ?_
  refine lv_bipush (v := 24) hx hb dX12_begins_4 (by decide) ?_
  refine lv_icmp_ge (tgt := 19) hx hb dX12_begins_6 (by decide) (fun c => absurd c (by decide)) (fun c => ?_)
  refine lv_aload_n hx hb dX12_begins_9 rfl (lv_at hl 0 rfl) ?_
  refine sg_get (ci := 12) (v := .ref (h 21)) (C := RX12) (T := TX12) (N := 55) hx hb hts (fun w h => List.mem_cons_of_mem _ (gx_12 w h)) hown hK hP 0 (by decide) rfl rfl 47 (by decide) (hts _ (List.mem_cons_of_mem _ mw_718)) (fun _ h9 => h9) rfl dX12_begins_10 ?_
  refine lv_aload_n hx hb dX12_begins_13 rfl (lv_at hl 0 rfl) ?_
  refine sg_get (ci := 12) (v := .int 0) (C := RX12) (T := TX12) (N := 55) hx hb hts (fun w h => List.mem_cons_of_mem _ (gx_12 w h)) hown hK hP 0 (by decide) rfl rfl 48 (by decide) (hts _ (List.mem_cons_of_mem _ mw_621)) (fun _ h9 => h9) (congrArg (fun z => some (Value.int z)) (show f 0 48 = 0 from hf_0_48)) dX12_begins_14 ?_
  refine lv_iload_n hx hb dX12_begins_17 rfl (lv_at hl 1 rfl) ?_
  refine sg_iast hx hb hh hA hK hP hS 21 (by decide) 0 (fun _ => rfl) rfl (i := 0) (x := 81) (vp_in_iff.mpr (by decide)) dX12_begins_18 (fun f_10 H locs ef_10 hP hS => ?_)
  have hI : sgI loM hiM f_10 := by rw [ef_10]; exact sgI.put hI 21 (Int32.toNatClampNeg 0) (show 0 ≤ (81 : Int32).toInt ∧ (81 : Int32).toInt ≤ 81 from by decide)
  have hF : sgK WkX12_begins_81_f0 f f_10 := sgK.put hF ef_10 (by rfl)
  exact blk_19 f_10 _ _ _ (by have zz0_48 : (f_10 0 48).toInt = 0 := (congrArg Int32.toInt (show f_10 0 48 = 0 from (by rw [ef_10, sg_up_n (by decide)]; exact hf_0_48))).trans (by decide); omega) hI hF hP hS (lv_sub hl [0] rfl)

abbrev WkX12_begins_80_f2 : List (Nat × Nat × Option Nat) := [(0, 0, some 48), (21, 21, none)]
set_option maxHeartbeats 4000000 in
set_option maxRecDepth 100000 in
theorem kX12_begins_80_f2 (l : Launch) (D : va_G) (ca : Nat → ClassId) (za h : Nat → Nat) (hh : sgH 26 h) (f : sg_F) (L : sg_L) (Q : sg_Q) (hI : sgI loM hiM f) (hf_0_48 : f 0 48 = 2) (p0 : 2 ≤ (f 0 48).toInt ∧ (f 0 48).toInt ≤ 2) (sz : Nat) : Met l yX12_begins gwX12_begins { frames := 0, cells := 0, slots := 0, locals := 0 } (sgP D vwCl (tyX ca) 26 h (eM ca h) zcM za f L Q sz [.ref (h 0), .int 80]) (sgQv D vwCl 26 h (eM ca h) sz (fun f1 L1 Q1 => ((sgI loM hiM f1 ∧ sgK WkX12_begins_80_f2 f f1 ∧ L1 = L ∧ Q1 = Q) ∧ (3 ≤ (f1 0 48).toInt ∧ (f1 0 48).toInt ≤ 3)))) 0 0 (sgA 26 h sz) := by
  refine sg_ofWv (cc := cX12_begins) (maxL := 2) RX12 (by decide) rfl rfl (Nat.le_of_ble_eq_true rfl) ?_
  intro p e s m below meth cd Qz ls hx hb hml hown hts hK hZ hP hS hl hret
  have hA := sgY.self (n := 26) (h := h) (sz := s.heap.size)
  have hl : lv_has ls 2 [(0, .ref (h 0)), (1, .int 80)] := hl
  obtain ⟨H, hH⟩ : ∃ z : Heap, z = s.heap := ⟨_, rfl⟩
  obtain ⟨locs, hlo⟩ : ∃ z : List Loc, z = [] := ⟨_, rfl⟩
  have hP : va_P D vwCl (sgw 26 h (eM ca h) f L Q) H := by rw [hH]; exact hP
  have hS : va_S (sgA 26 h s.heap.size) s.heap H locs := by rw [hH, hlo]; exact hS
  suffices hgo : W p l e ({ frames := 0, cells := 0, slots := 0, locals := 0 }) s m ([.ref (h 0), .int 80] : List Value).toArray below meth cd H locs 0 0 Qz (F0 m 0 ls []) by rw [hH, hlo] at hgo; exact hgo
  clear hH hlo
  have o_1 : (f 0 48).toInt = 2 := (congrArg Int32.toInt (show f 0 48 = 2 from hf_0_48)).trans (by decide)
  have hF : sgK WkX12_begins_80_f2 f f := sgK.rf
  have blk_19 : ∀ (fp_19 : sg_F) (H : Heap) (locs : List Loc) (ls : Array Slot), 2 ≤ (fp_19 0 48).toInt ∧ (fp_19 0 48).toInt ≤ 2 → sgI loM hiM fp_19 → sgK WkX12_begins_80_f2 f fp_19 → va_P D vwCl (sgw 26 h (eM ca h) fp_19 L Q) H → va_S (sgA 26 h s.heap.size) s.heap H locs → lv_has ls 2 [(0, .ref (h 0))] → W p l e ({ frames := 0, cells := 0, slots := 0, locals := 0 }) s m ([.ref (h 0), .int 80] : List Value).toArray below meth cd H locs 0 0 Qz (F0 m 19 ls []) := by
    intro fp_19 H locs ls hy0_19 hI hF hP hS hl
    obtain ⟨v_2, ev_2⟩ : ∃ z : Int32, z = fp_19 0 48 := ⟨_, rfl⟩
    have q_3 : 0 ≤ v_2.toInt ∧ v_2.toInt ≤ 19 := by rw [ev_2]; exact hI 0 48
    have q_4 : (fp_19 0 48).toInt = v_2.toInt := by rw [ev_2]
    refine lv_aload_n hx hb dX12_begins_19 rfl (lv_at hl 0 rfl) ?_
    refine lv_dup hx hb dX12_begins_20 rfl ?_
    refine sg_get (ci := 12) (v := .int v_2) (C := RX12) (T := TX12) (N := 55) hx hb hts (fun w h => List.mem_cons_of_mem _ (gx_12 w h)) hown hK hP 0 (by decide) rfl rfl 48 (by decide) (hts _ (List.mem_cons_of_mem _ mw_621)) (fun _ h9 => h9) (congrArg (fun z => some (Value.int z)) (show fp_19 0 48 = v_2 from ev_2.symm)) dX12_begins_21 ?_
    refine lv_iconst (v := 1) hx hb dX12_begins_24 (by decide) ?_
    refine lv_iadd hx hb dX12_begins_25 ?_
    refine lv_topi (fun v_5 ev_5 => ?_)
    have q_6 : v_5.toInt = v_2.toInt + 1 := by rw [ev_5]; have k1 : (1 : Int32).toInt = 1 := (by decide); exact (bn_addI (by omega) (by omega)).trans (by omega)
    refine sg_put (ci := 12) (x := v_5) (ty := .int) (C := RX12) (T := TX12) (N := 55) hx hb hts (fun w h => List.mem_cons_of_mem _ (gx_12 w h)) tyX12 tyX12_ok nmX12 hown hh hA hK hP hS 0 (by decide) rfl rfl 48 (by decide) (hts _ (List.mem_cons_of_mem _ mw_621)) (fun _ h9 => h9) rfl rfl (by decide +kernel) rfl rfl (Nat.le_of_ble_eq_true rfl) dX12_begins_26 (fun f_7 H locs ef_7 hP hS => ?_)
    have hI : sgI loM hiM f_7 := by rw [ef_7]; exact sgI.put hI 0 48 (show 0 ≤ (v_5 : Int32).toInt ∧ (v_5 : Int32).toInt ≤ 19 from by omega)
    have hF : sgK WkX12_begins_80_f2 f f_7 := sgK.put hF ef_7 (by rfl)
    have q_8 : (f_7 0 48).toInt = v_5.toInt := (congrArg Int32.toInt (show f_7 0 48 = v_5 from (by rw [ef_7, sg_up_s, sgu_s])))
    have q_9 : (f_7 0 48).toInt = v_5.toInt := (congrArg Int32.toInt (show f_7 0 48 = v_5 from (by rw [ef_7, sg_up_s, sgu_s])))
    exact hret _ _ _ _ f_7 L Q dX12_begins_29 hP hS ⟨⟨hI, hF, rfl, rfl⟩, (by omega)⟩
  refine lv_aload_n hx hb dX12_begins_0 rfl (lv_at hl 0 rfl) ?_
  refine sg_get (ci := 12) (v := .int 2) (C := RX12) (T := TX12) (N := 55) hx hb hts (fun w h => List.mem_cons_of_mem _ (gx_12 w h)) hown hK hP 0 (by decide) rfl rfl 48 (by decide) (hts _ (List.mem_cons_of_mem _ mw_621)) (fun _ h9 => h9) (congrArg (fun z => some (Value.int z)) (show f 0 48 = 2 from hf_0_48)) dX12_begins_1 ?_
  refine lv_bipush (v := 24) hx hb dX12_begins_4 (by decide) ?_
  refine lv_icmp_ge (tgt := 19) hx hb dX12_begins_6 (by decide) (fun c => absurd c (by decide)) (fun c => ?_)
  refine lv_aload_n hx hb dX12_begins_9 rfl (lv_at hl 0 rfl) ?_
  refine sg_get (ci := 12) (v := .ref (h 21)) (C := RX12) (T := TX12) (N := 55) hx hb hts (fun w h => List.mem_cons_of_mem _ (gx_12 w h)) hown hK hP 0 (by decide) rfl rfl 47 (by decide) (hts _ (List.mem_cons_of_mem _ mw_718)) (fun _ h9 => h9) rfl dX12_begins_10 ?_
  refine lv_aload_n hx hb dX12_begins_13 rfl (lv_at hl 0 rfl) ?_
  refine sg_get (ci := 12) (v := .int 2) (C := RX12) (T := TX12) (N := 55) hx hb hts (fun w h => List.mem_cons_of_mem _ (gx_12 w h)) hown hK hP 0 (by decide) rfl rfl 48 (by decide) (hts _ (List.mem_cons_of_mem _ mw_621)) (fun _ h9 => h9) (congrArg (fun z => some (Value.int z)) (show f 0 48 = 2 from hf_0_48)) dX12_begins_14 ?_
  refine lv_iload_n hx hb dX12_begins_17 rfl (lv_at hl 1 rfl) ?_
  refine sg_iast hx hb hh hA hK hP hS 21 (by decide) 0 (fun _ => rfl) rfl (i := 2) (x := 80) (vp_in_iff.mpr (by decide)) dX12_begins_18 (fun f_10 H locs ef_10 hP hS => ?_)
  have hI : sgI loM hiM f_10 := by rw [ef_10]; exact sgI.put hI 21 (Int32.toNatClampNeg 2) (show 0 ≤ (80 : Int32).toInt ∧ (80 : Int32).toInt ≤ 81 from by decide)
  have hF : sgK WkX12_begins_80_f2 f f_10 := sgK.put hF ef_10 (by rfl)
  exact blk_19 f_10 _ _ _ (by have zz0_48 : (f_10 0 48).toInt = 2 := (congrArg Int32.toInt (show f_10 0 48 = 2 from (by rw [ef_10, sg_up_n (by decide)]; exact hf_0_48))).trans (by decide); omega) hI hF hP hS (lv_sub hl [0] rfl)

abbrev WkX12_begins_20_f4 : List (Nat × Nat × Option Nat) := [(0, 0, some 48), (21, 21, none)]
set_option maxHeartbeats 4000000 in
set_option maxRecDepth 100000 in
theorem kX12_begins_20_f4 (l : Launch) (D : va_G) (ca : Nat → ClassId) (za h : Nat → Nat) (hh : sgH 26 h) (f : sg_F) (L : sg_L) (Q : sg_Q) (hI : sgI loM hiM f) (hf_0_48 : f 0 48 = 4) (p0 : 4 ≤ (f 0 48).toInt ∧ (f 0 48).toInt ≤ 4) (sz : Nat) : Met l yX12_begins gwX12_begins { frames := 0, cells := 0, slots := 0, locals := 0 } (sgP D vwCl (tyX ca) 26 h (eM ca h) zcM za f L Q sz [.ref (h 0), .int 20]) (sgQv D vwCl 26 h (eM ca h) sz (fun f1 L1 Q1 => ((sgI loM hiM f1 ∧ sgK WkX12_begins_20_f4 f f1 ∧ L1 = L ∧ Q1 = Q) ∧ (5 ≤ (f1 0 48).toInt ∧ (f1 0 48).toInt ≤ 5)))) 0 0 (sgA 26 h sz) := by
  refine sg_ofWv (cc := cX12_begins) (maxL := 2) RX12 (by decide) rfl rfl (Nat.le_of_ble_eq_true rfl) ?_
  intro p e s m below meth cd Qz ls hx hb hml hown hts hK hZ hP hS hl hret
  have hA := sgY.self (n := 26) (h := h) (sz := s.heap.size)
  have hl : lv_has ls 2 [(0, .ref (h 0)), (1, .int 20)] := hl
  obtain ⟨H, hH⟩ : ∃ z : Heap, z = s.heap := ⟨_, rfl⟩
  obtain ⟨locs, hlo⟩ : ∃ z : List Loc, z = [] := ⟨_, rfl⟩
  have hP : va_P D vwCl (sgw 26 h (eM ca h) f L Q) H := by rw [hH]; exact hP
  have hS : va_S (sgA 26 h s.heap.size) s.heap H locs := by rw [hH, hlo]; exact hS
  suffices hgo : W p l e ({ frames := 0, cells := 0, slots := 0, locals := 0 }) s m ([.ref (h 0), .int 20] : List Value).toArray below meth cd H locs 0 0 Qz (F0 m 0 ls []) by rw [hH, hlo] at hgo; exact hgo
  clear hH hlo
  have o_1 : (f 0 48).toInt = 4 := (congrArg Int32.toInt (show f 0 48 = 4 from hf_0_48)).trans (by decide)
  have hF : sgK WkX12_begins_20_f4 f f := sgK.rf
  have blk_19 : ∀ (fp_19 : sg_F) (H : Heap) (locs : List Loc) (ls : Array Slot), 4 ≤ (fp_19 0 48).toInt ∧ (fp_19 0 48).toInt ≤ 4 → sgI loM hiM fp_19 → sgK WkX12_begins_20_f4 f fp_19 → va_P D vwCl (sgw 26 h (eM ca h) fp_19 L Q) H → va_S (sgA 26 h s.heap.size) s.heap H locs → lv_has ls 2 [(0, .ref (h 0))] → W p l e ({ frames := 0, cells := 0, slots := 0, locals := 0 }) s m ([.ref (h 0), .int 20] : List Value).toArray below meth cd H locs 0 0 Qz (F0 m 19 ls []) := by
    intro fp_19 H locs ls hy0_19 hI hF hP hS hl
    obtain ⟨v_2, ev_2⟩ : ∃ z : Int32, z = fp_19 0 48 := ⟨_, rfl⟩
    have q_3 : 0 ≤ v_2.toInt ∧ v_2.toInt ≤ 19 := by rw [ev_2]; exact hI 0 48
    have q_4 : (fp_19 0 48).toInt = v_2.toInt := by rw [ev_2]
    refine lv_aload_n hx hb dX12_begins_19 rfl (lv_at hl 0 rfl) ?_
    refine lv_dup hx hb dX12_begins_20 rfl ?_
    refine sg_get (ci := 12) (v := .int v_2) (C := RX12) (T := TX12) (N := 55) hx hb hts (fun w h => List.mem_cons_of_mem _ (gx_12 w h)) hown hK hP 0 (by decide) rfl rfl 48 (by decide) (hts _ (List.mem_cons_of_mem _ mw_621)) (fun _ h9 => h9) (congrArg (fun z => some (Value.int z)) (show fp_19 0 48 = v_2 from ev_2.symm)) dX12_begins_21 ?_
    refine lv_iconst (v := 1) hx hb dX12_begins_24 (by decide) ?_
    refine lv_iadd hx hb dX12_begins_25 ?_
    refine lv_topi (fun v_5 ev_5 => ?_)
    have q_6 : v_5.toInt = v_2.toInt + 1 := by rw [ev_5]; have k1 : (1 : Int32).toInt = 1 := (by decide); exact (bn_addI (by omega) (by omega)).trans (by omega)
    refine sg_put (ci := 12) (x := v_5) (ty := .int) (C := RX12) (T := TX12) (N := 55) hx hb hts (fun w h => List.mem_cons_of_mem _ (gx_12 w h)) tyX12 tyX12_ok nmX12 hown hh hA hK hP hS 0 (by decide) rfl rfl 48 (by decide) (hts _ (List.mem_cons_of_mem _ mw_621)) (fun _ h9 => h9) rfl rfl (by decide +kernel) rfl rfl (Nat.le_of_ble_eq_true rfl) dX12_begins_26 (fun f_7 H locs ef_7 hP hS => ?_)
    have hI : sgI loM hiM f_7 := by rw [ef_7]; exact sgI.put hI 0 48 (show 0 ≤ (v_5 : Int32).toInt ∧ (v_5 : Int32).toInt ≤ 19 from by omega)
    have hF : sgK WkX12_begins_20_f4 f f_7 := sgK.put hF ef_7 (by rfl)
    have q_8 : (f_7 0 48).toInt = v_5.toInt := (congrArg Int32.toInt (show f_7 0 48 = v_5 from (by rw [ef_7, sg_up_s, sgu_s])))
    have q_9 : (f_7 0 48).toInt = v_5.toInt := (congrArg Int32.toInt (show f_7 0 48 = v_5 from (by rw [ef_7, sg_up_s, sgu_s])))
    exact hret _ _ _ _ f_7 L Q dX12_begins_29 hP hS ⟨⟨hI, hF, rfl, rfl⟩, (by omega)⟩
  refine lv_aload_n hx hb dX12_begins_0 rfl (lv_at hl 0 rfl) ?_
  refine sg_get (ci := 12) (v := .int 4) (C := RX12) (T := TX12) (N := 55) hx hb hts (fun w h => List.mem_cons_of_mem _ (gx_12 w h)) hown hK hP 0 (by decide) rfl rfl 48 (by decide) (hts _ (List.mem_cons_of_mem _ mw_621)) (fun _ h9 => h9) (congrArg (fun z => some (Value.int z)) (show f 0 48 = 4 from hf_0_48)) dX12_begins_1 ?_
  refine lv_bipush (v := 24) hx hb dX12_begins_4 (by decide) ?_
  refine lv_icmp_ge (tgt := 19) hx hb dX12_begins_6 (by decide) (fun c => absurd c (by decide)) (fun c => ?_)
  refine lv_aload_n hx hb dX12_begins_9 rfl (lv_at hl 0 rfl) ?_
  refine sg_get (ci := 12) (v := .ref (h 21)) (C := RX12) (T := TX12) (N := 55) hx hb hts (fun w h => List.mem_cons_of_mem _ (gx_12 w h)) hown hK hP 0 (by decide) rfl rfl 47 (by decide) (hts _ (List.mem_cons_of_mem _ mw_718)) (fun _ h9 => h9) rfl dX12_begins_10 ?_
  refine lv_aload_n hx hb dX12_begins_13 rfl (lv_at hl 0 rfl) ?_
  refine sg_get (ci := 12) (v := .int 4) (C := RX12) (T := TX12) (N := 55) hx hb hts (fun w h => List.mem_cons_of_mem _ (gx_12 w h)) hown hK hP 0 (by decide) rfl rfl 48 (by decide) (hts _ (List.mem_cons_of_mem _ mw_621)) (fun _ h9 => h9) (congrArg (fun z => some (Value.int z)) (show f 0 48 = 4 from hf_0_48)) dX12_begins_14 ?_
  refine lv_iload_n hx hb dX12_begins_17 rfl (lv_at hl 1 rfl) ?_
  refine sg_iast hx hb hh hA hK hP hS 21 (by decide) 0 (fun _ => rfl) rfl (i := 4) (x := 20) (vp_in_iff.mpr (by decide)) dX12_begins_18 (fun f_10 H locs ef_10 hP hS => ?_)
  have hI : sgI loM hiM f_10 := by rw [ef_10]; exact sgI.put hI 21 (Int32.toNatClampNeg 4) (show 0 ≤ (20 : Int32).toInt ∧ (20 : Int32).toInt ≤ 81 from by decide)
  have hF : sgK WkX12_begins_20_f4 f f_10 := sgK.put hF ef_10 (by rfl)
  exact blk_19 f_10 _ _ _ (by have zz0_48 : (f_10 0 48).toInt = 4 := (congrArg Int32.toInt (show f_10 0 48 = 4 from (by rw [ef_10, sg_up_n (by decide)]; exact hf_0_48))).trans (by decide); omega) hI hF hP hS (lv_sub hl [0] rfl)

abbrev WkX12_setsAs_0_f5_f7 : List (Nat × Nat × Option Nat) := [(0, 0, some 48), (21, 21, none)]
set_option maxHeartbeats 4000000 in
set_option maxRecDepth 100000 in
theorem kX12_setsAs_0_f5_f7 (l : Launch) (D : va_G) (ca : Nat → ClassId) (za h : Nat → Nat) (hh : sgH 26 h) (f : sg_F) (L : sg_L) (Q : sg_Q) (hI : sgI loM hiM f) (x1 : Int32) (hf_0_48 : f 0 48 = 5) (hf_0_49 : f 0 49 = 7) (p0 : 5 ≤ (f 0 48).toInt ∧ (f 0 48).toInt ≤ 5) (sz : Nat) : Met l yX12_setsAs gwX12_setsAs { frames := 1, cells := 0, slots := 0, locals := 21 } (sgP D vwCl (tyX ca) 26 h (eM ca h) zcM za f L Q sz [.ref (h 0), .int 0, .int x1]) (sgQi D vwCl 26 h (eM ca h) sz (fun r f1 L1 Q1 => ((sgI loM hiM f1 ∧ sgK WkX12_setsAs_0_f5_f7 f f1 ∧ L1 = L ∧ Q1 = Q) ∧ True ∧ (6 ≤ (f1 0 48).toInt ∧ (f1 0 48).toInt ≤ 6)))) 0 0 (sgA 26 h sz) := by
  refine sg_ofWi (cc := cX12_setsAs) (maxL := 3) RX12 (by decide) rfl rfl (Nat.le_of_ble_eq_true rfl) ?_
  intro p e s m below meth cd Qz ls hx hb hml hown hts hK hZ hP hS hl hret
  have hA := sgY.self (n := 26) (h := h) (sz := s.heap.size)
  have hl : lv_has ls 3 [(0, .ref (h 0)), (1, .int 0), (2, .int x1)] := hl
  obtain ⟨H, hH⟩ : ∃ z : Heap, z = s.heap := ⟨_, rfl⟩
  obtain ⟨locs, hlo⟩ : ∃ z : List Loc, z = [] := ⟨_, rfl⟩
  have hP : va_P D vwCl (sgw 26 h (eM ca h) f L Q) H := by rw [hH]; exact hP
  have hS : va_S (sgA 26 h s.heap.size) s.heap H locs := by rw [hH, hlo]; exact hS
  suffices hgo : W p l e ({ frames := 1, cells := 0, slots := 0, locals := 21 }) s m ([.ref (h 0), .int 0, .int x1] : List Value).toArray below meth cd H locs 0 0 Qz (F0 m 0 ls []) by rw [hH, hlo] at hgo; exact hgo
  clear hH hlo
  have o_1 : (f 0 48).toInt = 5 := (congrArg Int32.toInt (show f 0 48 = 5 from hf_0_48)).trans (by decide)
  have hF : sgK WkX12_setsAs_0_f5_f7 f f := sgK.rf
  refine lv_iload_n hx hb dX12_setsAs_0 rfl (lv_at hl 1 rfl) ?_
  refine lv_iconst (v := 1) hx hb dX12_setsAs_1 (by decide) ?_
  refine lv_icmp_eq (tgt := 16) hx hb dX12_setsAs_2 (by decide) (fun c => absurd c (by decide)) (fun c => ?_)
  refine lv_iload_n hx hb dX12_setsAs_5 rfl (lv_at hl 1 rfl) ?_
  refine lv_iconst (v := 4) hx hb dX12_setsAs_6 (by decide) ?_
  refine lv_icmp_eq (tgt := 16) hx hb dX12_setsAs_7 (by decide) (fun c => absurd c (by decide)) (fun c => ?_)
  refine lv_iload_n hx hb dX12_setsAs_10 rfl (lv_at hl 1 rfl) ?_
  refine lv_bipush (v := 7) hx hb dX12_setsAs_11 (by decide) ?_
  refine lv_icmp_ne (tgt := 31) hx hb dX12_setsAs_13 (by decide) (fun c => ?_) (fun c => absurd c (by decide))
  refine lv_iload_n hx hb dX12_setsAs_31 rfl (lv_at hl 1 rfl) ?_
  refine lv_bipush (v := 6) hx hb dX12_setsAs_32 (by decide) ?_
  refine lv_icmp_ne (tgt := 52) hx hb dX12_setsAs_34 (by decide) (fun c => ?_) (fun c => absurd c (by decide))
  refine lv_aload_n hx hb dX12_setsAs_52 rfl (lv_at hl 0 rfl) ?_
  refine lv_iconst (v := 1) hx hb dX12_setsAs_53 (by decide) ?_
  have q_2 : (f 0 48).toInt = 5 := (congrArg Int32.toInt (show f 0 48 = 5 from hf_0_48)).trans (by decide)
  have q_3 : (f 0 48).toInt = 5 := (congrArg Int32.toInt (show f 0 48 = 5 from hf_0_48)).trans (by decide)
  refine sg_callv (va_runV (As := [.int 1]) (rest := []) ⟨hx, hb, hml, hown, hts⟩ (kX12_begins_1_f5 l D ca za h hh f L Q hI hf_0_48 (by have k0 : (1 : Int32).toInt = 1 := (by decide); omega) H.size) (cwV 1 hts (gw_V (fun _ h => List.mem_cons_of_mem _ h) mw_734 mw_735 mw_736 mw_619 mw_733) rfl rfl rfl (by decide +kernel) ⟨Nat.le_of_ble_eq_true rfl, Nat.le_of_ble_eq_true rfl⟩) (sg_preV (ci := 12) (C := RX12) (T := TX12) (N := 55) hA hK hP hS hZ 0 (by decide) rfl rfl) rfl rfl hl.1 rfl (lv_room (Nat.le_of_ble_eq_true rfl)) dX12_setsAs_54 ⟨Nat.le_refl _, Nat.le_refl _⟩) hA hS (fun f_4 L_5 Q_6 H locs hq hP hS => ?_)
  obtain ⟨⟨hI, hk_f_4, eL9, eQ9⟩, p_7⟩ := hq
  rw [eL9, eQ9] at hP; clear eL9 eQ9
  have hF : sgK WkX12_setsAs_0_f5_f7 f f_4 := sgK.tr hF hk_f_4 (by decide)
  obtain ⟨v_8, ev_8⟩ : ∃ z : Int32, z = f_4 0 48 := ⟨_, rfl⟩
  have q_9 : 0 ≤ v_8.toInt ∧ v_8.toInt ≤ 19 := by rw [ev_8]; exact hI 0 48
  have q_10 : (f_4 0 48).toInt = v_8.toInt := (congrArg Int32.toInt (show f_4 0 48 = v_8 from ev_8.symm))
  have q_11 : (f_4 0 48).toInt = v_8.toInt := (congrArg Int32.toInt (show f_4 0 48 = v_8 from ev_8.symm))
  refine lv_iload_n hx hb dX12_setsAs_57 rfl (lv_at hl 2 rfl) ?_
  refine lv_aload_n hx hb dX12_setsAs_58 rfl (lv_at hl 0 rfl) ?_
  refine sg_get (ci := 12) (v := .int (f_4 0 50)) (C := RX12) (T := TX12) (N := 55) hx hb hts (fun w h => List.mem_cons_of_mem _ (gx_12 w h)) hown hK hP 0 (by decide) rfl rfl 50 (by decide) (hts _ (List.mem_cons_of_mem _ mw_680)) (fun _ h9 => h9) rfl dX12_setsAs_59 ?_
  refine lv_topi (fun v_12 ev_12 => ?_)
  have q_13 : 0 ≤ v_12.toInt ∧ v_12.toInt ≤ 49 := by rw [ev_12]; exact hI 0 50
  refine lv_iadd hx hb dX12_setsAs_62 ?_
  refine lv_topi (fun v_14 ev_14 => ?_)
  have q_15 : (f_4 0 48).toInt = v_8.toInt := (congrArg Int32.toInt (show f_4 0 48 = v_8 from ev_8.symm))
  have q_16 : (f_4 0 48).toInt = v_8.toInt := (congrArg Int32.toInt (show f_4 0 48 = v_8 from ev_8.symm))
  exact hret _ _ _ _ (v_14) f_4 L Q dX12_setsAs_63 hP hS ⟨⟨hI, hF, rfl, rfl⟩, trivial, (by omega)⟩

abbrev WkX12_setsAs_7_f4_f7 : List (Nat × Nat × Option Nat) := [(0, 0, some 48), (21, 21, none)]
set_option maxHeartbeats 4000000 in
set_option maxRecDepth 100000 in
theorem kX12_setsAs_7_f4_f7 (l : Launch) (D : va_G) (ca : Nat → ClassId) (za h : Nat → Nat) (hh : sgH 26 h) (f : sg_F) (L : sg_L) (Q : sg_Q) (hI : sgI loM hiM f) (x1 : Int32) (hf_0_48 : f 0 48 = 4) (hf_0_49 : f 0 49 = 7) (p0 : 4 ≤ (f 0 48).toInt ∧ (f 0 48).toInt ≤ 4) (sz : Nat) : Met l yX12_setsAs gwX12_setsAs { frames := 2, cells := 0, slots := 0, locals := 43 } (sgP D vwCl (tyX ca) 26 h (eM ca h) zcM za f L Q sz [.ref (h 0), .int 7, .int x1]) (sgQi D vwCl 26 h (eM ca h) sz (fun r f1 L1 Q1 => ((sgI loM hiM f1 ∧ sgK WkX12_setsAs_7_f4_f7 f f1 ∧ L1 = L ∧ Q1 = Q) ∧ True ∧ (6 ≤ (f1 0 48).toInt ∧ (f1 0 48).toInt ≤ 6)))) 0 0 (sgA 26 h sz) := by
  refine sg_ofWi (cc := cX12_setsAs) (maxL := 3) RX12 (by decide) rfl rfl (Nat.le_of_ble_eq_true rfl) ?_
  intro p e s m below meth cd Qz ls hx hb hml hown hts hK hZ hP hS hl hret
  have hA := sgY.self (n := 26) (h := h) (sz := s.heap.size)
  have hl : lv_has ls 3 [(0, .ref (h 0)), (1, .int 7), (2, .int x1)] := hl
  obtain ⟨H, hH⟩ : ∃ z : Heap, z = s.heap := ⟨_, rfl⟩
  obtain ⟨locs, hlo⟩ : ∃ z : List Loc, z = [] := ⟨_, rfl⟩
  have hP : va_P D vwCl (sgw 26 h (eM ca h) f L Q) H := by rw [hH]; exact hP
  have hS : va_S (sgA 26 h s.heap.size) s.heap H locs := by rw [hH, hlo]; exact hS
  suffices hgo : W p l e ({ frames := 2, cells := 0, slots := 0, locals := 43 }) s m ([.ref (h 0), .int 7, .int x1] : List Value).toArray below meth cd H locs 0 0 Qz (F0 m 0 ls []) by rw [hH, hlo] at hgo; exact hgo
  clear hH hlo
  have o_1 : (f 0 48).toInt = 4 := (congrArg Int32.toInt (show f 0 48 = 4 from hf_0_48)).trans (by decide)
  have hF : sgK WkX12_setsAs_7_f4_f7 f f := sgK.rf
  have blk_16 : ∀ (fp_16 : sg_F) (H : Heap) (locs : List Loc) (ls : Array Slot), 4 ≤ (fp_16 0 48).toInt ∧ (fp_16 0 48).toInt ≤ 4 → 7 ≤ (fp_16 0 49).toInt ∧ (fp_16 0 49).toInt ≤ 7 → sgI loM hiM fp_16 → sgK WkX12_setsAs_7_f4_f7 f fp_16 → va_P D vwCl (sgw 26 h (eM ca h) fp_16 L Q) H → va_S (sgA 26 h s.heap.size) s.heap H locs → lv_has ls 3 [(0, .ref (h 0)), (2, .int x1)] → W p l e ({ frames := 2, cells := 0, slots := 0, locals := 43 }) s m ([.ref (h 0), .int 7, .int x1] : List Value).toArray below meth cd H locs 0 0 Qz (F0 m 16 ls []) := by
    intro fp_16 H locs ls hy0_16 hy1_16 hI hF hP hS hl
    obtain ⟨v_2, ev_2⟩ : ∃ z : Int32, z = fp_16 0 48 := ⟨_, rfl⟩
    have q_3 : 0 ≤ v_2.toInt ∧ v_2.toInt ≤ 19 := by rw [ev_2]; exact hI 0 48
    have q_4 : (fp_16 0 48).toInt = v_2.toInt := by rw [ev_2]
    obtain ⟨v_5, ev_5⟩ : ∃ z : Int32, z = fp_16 0 49 := ⟨_, rfl⟩
    have q_6 : 0 ≤ v_5.toInt ∧ v_5.toInt ≤ 7 := by rw [ev_5]; exact hI 0 49
    have q_7 : (fp_16 0 49).toInt = v_5.toInt := by rw [ev_5]
    have m_8 : fp_16 0 49 = 7 := (hF 0 49 (by decide)).trans hf_0_49
    refine lv_aload_n hx hb dX12_setsAs_16 rfl (lv_at hl 0 rfl) ?_
    refine lv_bipush (v := 20) hx hb dX12_setsAs_17 (by decide) ?_
    have c_9 : v_2 = 4 := Int32.toInt_inj.mp (by have k9 : (4 : Int32).toInt = 4 := (by decide); omega)
    have q_10 : (fp_16 0 48).toInt = 4 := (congrArg Int32.toInt (show fp_16 0 48 = 4 from (Eq.trans ev_2.symm c_9))).trans (by decide)
    have q_11 : (fp_16 0 48).toInt = 4 := (congrArg Int32.toInt (show fp_16 0 48 = 4 from (Eq.trans ev_2.symm c_9))).trans (by decide)
    refine sg_callv (va_runV (As := [.int 20]) (rest := []) ⟨hx, hb, hml, hown, hts⟩ (kX12_begins_20_f4 l D ca za h hh fp_16 L Q hI (Eq.trans ev_2.symm c_9) (by have k0 : (20 : Int32).toInt = 20 := (by decide); omega) H.size) (cwV 1 hts (gw_V (fun _ h => List.mem_cons_of_mem _ h) mw_734 mw_735 mw_736 mw_619 mw_733) rfl rfl rfl (by decide +kernel) ⟨Nat.le_of_ble_eq_true rfl, Nat.le_of_ble_eq_true rfl⟩) (sg_preV (ci := 12) (C := RX12) (T := TX12) (N := 55) hA hK hP hS hZ 0 (by decide) rfl rfl) rfl rfl hl.1 rfl (lv_room (Nat.le_of_ble_eq_true rfl)) dX12_setsAs_19 ⟨Nat.le_refl _, Nat.le_refl _⟩) hA hS (fun f_12 L_13 Q_14 H locs hq hP hS => ?_)
    obtain ⟨⟨hI, hk_f_12, eL9, eQ9⟩, p_15⟩ := hq
    rw [eL9, eQ9] at hP; clear eL9 eQ9
    have hF : sgK WkX12_setsAs_7_f4_f7 f f_12 := sgK.tr hF hk_f_12 (by decide)
    obtain ⟨v_16, ev_16⟩ : ∃ z : Int32, z = f_12 0 48 := ⟨_, rfl⟩
    have q_17 : 0 ≤ v_16.toInt ∧ v_16.toInt ≤ 19 := by rw [ev_16]; exact hI 0 48
    have q_18 : (f_12 0 48).toInt = v_16.toInt := (congrArg Int32.toInt (show f_12 0 48 = v_16 from ev_16.symm))
    have q_19 : (f_12 0 48).toInt = v_16.toInt := (congrArg Int32.toInt (show f_12 0 48 = v_16 from ev_16.symm))
    refine lv_aload_n hx hb dX12_setsAs_22 rfl (lv_at hl 0 rfl) ?_
    refine lv_iconst (v := 0) hx hb dX12_setsAs_23 (by decide) ?_
    refine lv_iload_n hx hb dX12_setsAs_24 rfl (lv_at hl 1 rfl) ?_
    have c_20 : v_16 = 5 := Int32.toInt_inj.mp (by have k9 : (5 : Int32).toInt = 5 := (by decide); omega)
    have q_21 : (f_12 0 48).toInt = 5 := (congrArg Int32.toInt (show f_12 0 48 = 5 from (Eq.trans ev_16.symm c_20))).trans (by decide)
    have q_22 : (f_12 0 48).toInt = 5 := (congrArg Int32.toInt (show f_12 0 48 = 5 from (Eq.trans ev_16.symm c_20))).trans (by decide)
    refine sg_calli (va_runV (As := [.int 0, .int x1]) (rest := []) ⟨hx, hb, hml, hown, hts⟩ (kX12_setsAs_0_f5_f7 l D ca za h hh f_12 L Q hI x1 (Eq.trans ev_16.symm c_20) ((hk_f_12 0 49 (by decide)).trans m_8) (by have k0 : (0 : Int32).toInt = 0 := (by decide); omega) H.size) (cwV 2 hts (gw_V (fun _ h => List.mem_cons_of_mem _ h) mw_744 mw_745 mw_746 mw_619 mw_743) rfl rfl rfl (by decide +kernel) ⟨Nat.le_of_ble_eq_true rfl, Nat.le_of_ble_eq_true rfl⟩) (sg_preV (ci := 12) (C := RX12) (T := TX12) (N := 55) hA hK hP hS hZ 0 (by decide) rfl rfl) rfl rfl hl.1 rfl (lv_room (Nat.le_of_ble_eq_true rfl)) dX12_setsAs_25 ⟨Nat.le_refl _, Nat.le_refl _⟩) hA hS (fun r_26 f_23 L_24 Q_25 H locs hq hP hS => ?_)
    obtain ⟨⟨hI, hk_f_23, eL9, eQ9⟩, hq, p_27⟩ := hq
    rw [eL9, eQ9] at hP; clear eL9 eQ9
    have hF : sgK WkX12_setsAs_7_f4_f7 f f_23 := sgK.tr hF hk_f_23 (by decide)
    obtain ⟨v_28, ev_28⟩ : ∃ z : Int32, z = f_23 0 48 := ⟨_, rfl⟩
    have q_29 : 0 ≤ v_28.toInt ∧ v_28.toInt ≤ 19 := by rw [ev_28]; exact hI 0 48
    have q_30 : (f_23 0 48).toInt = v_28.toInt := (congrArg Int32.toInt (show f_23 0 48 = v_28 from ev_28.symm))
    have q_31 : (f_23 0 48).toInt = v_28.toInt := (congrArg Int32.toInt (show f_23 0 48 = v_28 from ev_28.symm))
    have k_32 : (0 : Int32).toInt = 0 := by decide
    refine lv_iconst (v := 3) hx hb dX12_setsAs_28 (by decide) ?_
    refine lv_iadd hx hb dX12_setsAs_29 ?_
    refine lv_topi (fun v_33 ev_33 => ?_)
    have q_34 : (f_23 0 48).toInt = v_28.toInt := (congrArg Int32.toInt (show f_23 0 48 = v_28 from ev_28.symm))
    have q_35 : (f_23 0 48).toInt = v_28.toInt := (congrArg Int32.toInt (show f_23 0 48 = v_28 from ev_28.symm))
    exact hret _ _ _ _ (v_33) f_23 L Q dX12_setsAs_30 hP hS ⟨⟨hI, hF, rfl, rfl⟩, trivial, (by omega)⟩
  refine lv_iload_n hx hb dX12_setsAs_0 rfl (lv_at hl 1 rfl) ?_
  refine lv_iconst (v := 1) hx hb dX12_setsAs_1 (by decide) ?_
  refine lv_icmp_eq (tgt := 16) hx hb dX12_setsAs_2 (by decide) (fun c => absurd c (by decide)) (fun c => ?_)
  refine lv_iload_n hx hb dX12_setsAs_5 rfl (lv_at hl 1 rfl) ?_
  refine lv_iconst (v := 4) hx hb dX12_setsAs_6 (by decide) ?_
  refine lv_icmp_eq (tgt := 16) hx hb dX12_setsAs_7 (by decide) (fun c => absurd c (by decide)) (fun c => ?_)
  refine lv_iload_n hx hb dX12_setsAs_10 rfl (lv_at hl 1 rfl) ?_
  refine lv_bipush (v := 7) hx hb dX12_setsAs_11 (by decide) ?_
  refine lv_icmp_ne (tgt := 31) hx hb dX12_setsAs_13 (by decide) (fun c => absurd c (by decide)) (fun c => ?_)
  exact blk_16 f _ _ _ (by have zz0_48 : (f 0 48).toInt = 4 := (congrArg Int32.toInt (show f 0 48 = 4 from hf_0_48)).trans (by decide); omega) (by have zz0_49 : (f 0 49).toInt = 7 := (congrArg Int32.toInt (show f 0 49 = 7 from hf_0_49)).trans (by decide); omega) hI hF hP hS (lv_sub hl [0, 2] rfl)

abbrev WkX12_sitsAs_4_f3_f7 : List (Nat × Nat × Option Nat) := [(0, 0, some 48), (21, 21, none)]
set_option maxHeartbeats 4000000 in
set_option maxRecDepth 100000 in
theorem kX12_sitsAs_4_f3_f7 (l : Launch) (D : va_G) (ca : Nat → ClassId) (za h : Nat → Nat) (hh : sgH 26 h) (f : sg_F) (L : sg_L) (Q : sg_Q) (hI : sgI loM hiM f) (x1 : Int32) (hf_0_48 : f 0 48 = 3) (hf_0_49 : f 0 49 = 7) (p0 : 3 ≤ (f 0 48).toInt ∧ (f 0 48).toInt ≤ 3) (sz : Nat) : Met l yX12_sitsAs gwX12_sitsAs { frames := 3, cells := 0, slots := 0, locals := 65 } (sgP D vwCl (tyX ca) 26 h (eM ca h) zcM za f L Q sz [.ref (h 0), .int 4, .int x1]) (sgQi D vwCl 26 h (eM ca h) sz (fun r f1 L1 Q1 => ((sgI loM hiM f1 ∧ sgK WkX12_sitsAs_4_f3_f7 f f1 ∧ L1 = L ∧ Q1 = Q) ∧ True ∧ (6 ≤ (f1 0 48).toInt ∧ (f1 0 48).toInt ≤ 6)))) 0 0 (sgA 26 h sz) := by
  refine sg_ofWi (cc := cX12_sitsAs) (maxL := 4) RX12 (by decide) rfl rfl (Nat.le_of_ble_eq_true rfl) ?_
  intro p e s m below meth cd Qz ls hx hb hml hown hts hK hZ hP hS hl hret
  have hA := sgY.self (n := 26) (h := h) (sz := s.heap.size)
  have hl : lv_has ls 4 [(0, .ref (h 0)), (1, .int 4), (2, .int x1)] := hl
  obtain ⟨H, hH⟩ : ∃ z : Heap, z = s.heap := ⟨_, rfl⟩
  obtain ⟨locs, hlo⟩ : ∃ z : List Loc, z = [] := ⟨_, rfl⟩
  have hP : va_P D vwCl (sgw 26 h (eM ca h) f L Q) H := by rw [hH]; exact hP
  have hS : va_S (sgA 26 h s.heap.size) s.heap H locs := by rw [hH, hlo]; exact hS
  suffices hgo : W p l e ({ frames := 3, cells := 0, slots := 0, locals := 65 }) s m ([.ref (h 0), .int 4, .int x1] : List Value).toArray below meth cd H locs 0 0 Qz (F0 m 0 ls []) by rw [hH, hlo] at hgo; exact hgo
  clear hH hlo
  have o_1 : (f 0 48).toInt = 3 := (congrArg Int32.toInt (show f 0 48 = 3 from hf_0_48)).trans (by decide)
  have hF : sgK WkX12_sitsAs_4_f3_f7 f f := sgK.rf
  refine lv_iload_n hx hb dX12_sitsAs_0 rfl (lv_at hl 1 rfl) ?_
  refine lv_iconst (v := 3) hx hb dX12_sitsAs_1 (by decide) ?_
  refine lv_icmp_eq (tgt := 10) hx hb dX12_sitsAs_2 (by decide) (fun c => absurd c (by decide)) (fun c => ?_)
  refine lv_iload_n hx hb dX12_sitsAs_5 rfl (lv_at hl 1 rfl) ?_
  refine lv_iconst (v := 5) hx hb dX12_sitsAs_6 (by decide) ?_
  refine lv_icmp_ne (tgt := 25) hx hb dX12_sitsAs_7 (by decide) (fun c => ?_) (fun c => absurd c (by decide))
  refine lv_iload_n hx hb dX12_sitsAs_25 rfl (lv_at hl 1 rfl) ?_
  refine lv_iconst (v := 2) hx hb dX12_sitsAs_26 (by decide) ?_
  refine lv_icmp_ne (tgt := 44) hx hb dX12_sitsAs_27 (by decide) (fun c => ?_) (fun c => absurd c (by decide))
  refine lv_iload_n hx hb dX12_sitsAs_44 rfl (lv_at hl 1 rfl) ?_
  refine lv_bipush (v := 7) hx hb dX12_sitsAs_45 (by decide) ?_
  refine lv_icmp_ne (tgt := 75) hx hb dX12_sitsAs_47 (by decide) (fun c => ?_) (fun c => absurd c (by decide))
  refine lv_aload_n hx hb dX12_sitsAs_75 rfl (lv_at hl 0 rfl) ?_
  refine lv_bipush (v := 10) hx hb dX12_sitsAs_76 (by decide) ?_
  have q_2 : (f 0 48).toInt = 3 := (congrArg Int32.toInt (show f 0 48 = 3 from hf_0_48)).trans (by decide)
  have q_3 : (f 0 48).toInt = 3 := (congrArg Int32.toInt (show f 0 48 = 3 from hf_0_48)).trans (by decide)
  refine sg_callv (va_runV (As := [.int 10]) (rest := []) ⟨hx, hb, hml, hown, hts⟩ (kX12_begins_10_f3 l D ca za h hh f L Q hI hf_0_48 (by have k0 : (10 : Int32).toInt = 10 := (by decide); omega) H.size) (cwV 1 hts (gw_V (fun _ h => List.mem_cons_of_mem _ h) mw_734 mw_735 mw_736 mw_619 mw_733) rfl rfl rfl (by decide +kernel) ⟨Nat.le_of_ble_eq_true rfl, Nat.le_of_ble_eq_true rfl⟩) (sg_preV (ci := 12) (C := RX12) (T := TX12) (N := 55) hA hK hP hS hZ 0 (by decide) rfl rfl) rfl rfl hl.1 rfl (lv_room (Nat.le_of_ble_eq_true rfl)) dX12_sitsAs_78 ⟨Nat.le_refl _, Nat.le_refl _⟩) hA hS (fun f_4 L_5 Q_6 H locs hq hP hS => ?_)
  obtain ⟨⟨hI, hk_f_4, eL9, eQ9⟩, p_7⟩ := hq
  rw [eL9, eQ9] at hP; clear eL9 eQ9
  have hF : sgK WkX12_sitsAs_4_f3_f7 f f_4 := sgK.tr hF hk_f_4 (by decide)
  obtain ⟨v_8, ev_8⟩ : ∃ z : Int32, z = f_4 0 48 := ⟨_, rfl⟩
  have q_9 : 0 ≤ v_8.toInt ∧ v_8.toInt ≤ 19 := by rw [ev_8]; exact hI 0 48
  have q_10 : (f_4 0 48).toInt = v_8.toInt := (congrArg Int32.toInt (show f_4 0 48 = v_8 from ev_8.symm))
  have q_11 : (f_4 0 48).toInt = v_8.toInt := (congrArg Int32.toInt (show f_4 0 48 = v_8 from ev_8.symm))
  refine lv_aload_n hx hb dX12_sitsAs_81 rfl (lv_at hl 0 rfl) ?_
  refine lv_aload_n hx hb dX12_sitsAs_82 rfl (lv_at hl 0 rfl) ?_
  refine sg_get (ci := 12) (v := .int 7) (C := RX12) (T := TX12) (N := 55) hx hb hts (fun w h => List.mem_cons_of_mem _ (gx_12 w h)) hown hK hP 0 (by decide) rfl rfl 49 (by decide) (hts _ (List.mem_cons_of_mem _ mw_679)) (fun _ h9 => h9) (congrArg (fun z => some (Value.int z)) (show f_4 0 49 = 7 from ((hk_f_4 0 49 (by decide)).trans hf_0_49))) dX12_sitsAs_83 ?_
  refine lv_iload_n hx hb dX12_sitsAs_86 rfl (lv_at hl 2 rfl) ?_
  have c_12 : v_8 = 4 := Int32.toInt_inj.mp (by have k9 : (4 : Int32).toInt = 4 := (by decide); omega)
  have q_13 : (f_4 0 48).toInt = 4 := (congrArg Int32.toInt (show f_4 0 48 = 4 from (Eq.trans ev_8.symm c_12))).trans (by decide)
  have q_14 : (f_4 0 48).toInt = 4 := (congrArg Int32.toInt (show f_4 0 48 = 4 from (Eq.trans ev_8.symm c_12))).trans (by decide)
  refine sg_calli (va_runV (As := [.int 7, .int x1]) (rest := []) ⟨hx, hb, hml, hown, hts⟩ (kX12_setsAs_7_f4_f7 l D ca za h hh f_4 L Q hI x1 (Eq.trans ev_8.symm c_12) ((hk_f_4 0 49 (by decide)).trans hf_0_49) (by have k0 : (7 : Int32).toInt = 7 := (by decide); omega) H.size) (cwV 2 hts (gw_V (fun _ h => List.mem_cons_of_mem _ h) mw_744 mw_745 mw_746 mw_619 mw_743) rfl rfl rfl (by decide +kernel) ⟨Nat.le_of_ble_eq_true rfl, Nat.le_of_ble_eq_true rfl⟩) (sg_preV (ci := 12) (C := RX12) (T := TX12) (N := 55) hA hK hP hS hZ 0 (by decide) rfl rfl) rfl rfl hl.1 rfl (lv_room (Nat.le_of_ble_eq_true rfl)) dX12_sitsAs_87 ⟨Nat.le_refl _, Nat.le_refl _⟩) hA hS (fun r_18 f_15 L_16 Q_17 H locs hq hP hS => ?_)
  obtain ⟨⟨hI, hk_f_15, eL9, eQ9⟩, hq, p_19⟩ := hq
  rw [eL9, eQ9] at hP; clear eL9 eQ9
  have hF : sgK WkX12_sitsAs_4_f3_f7 f f_15 := sgK.tr hF hk_f_15 (by decide)
  obtain ⟨v_20, ev_20⟩ : ∃ z : Int32, z = f_15 0 48 := ⟨_, rfl⟩
  have q_21 : 0 ≤ v_20.toInt ∧ v_20.toInt ≤ 19 := by rw [ev_20]; exact hI 0 48
  have q_22 : (f_15 0 48).toInt = v_20.toInt := (congrArg Int32.toInt (show f_15 0 48 = v_20 from ev_20.symm))
  have q_23 : (f_15 0 48).toInt = v_20.toInt := (congrArg Int32.toInt (show f_15 0 48 = v_20 from ev_20.symm))
  have k_24 : (7 : Int32).toInt = 7 := by decide
  refine lv_iconst (v := 2) hx hb dX12_sitsAs_90 (by decide) ?_
  refine lv_imul hx hb dX12_sitsAs_91 ?_
  refine lv_topi (fun v_25 ev_25 => ?_)
  have q_26 : (f_15 0 48).toInt = v_20.toInt := (congrArg Int32.toInt (show f_15 0 48 = v_20 from ev_20.symm))
  have q_27 : (f_15 0 48).toInt = v_20.toInt := (congrArg Int32.toInt (show f_15 0 48 = v_20 from ev_20.symm))
  exact hret _ _ _ _ (v_25) f_15 L Q dX12_sitsAs_92 hP hS ⟨⟨hI, hF, rfl, rfl⟩, trivial, (by omega)⟩

abbrev WkX12_begins_50_f6 : List (Nat × Nat × Option Nat) := [(0, 0, some 48), (21, 21, none)]
set_option maxHeartbeats 4000000 in
set_option maxRecDepth 100000 in
theorem kX12_begins_50_f6 (l : Launch) (D : va_G) (ca : Nat → ClassId) (za h : Nat → Nat) (hh : sgH 26 h) (f : sg_F) (L : sg_L) (Q : sg_Q) (hI : sgI loM hiM f) (hf_0_48 : f 0 48 = 6) (p0 : 6 ≤ (f 0 48).toInt ∧ (f 0 48).toInt ≤ 6) (sz : Nat) : Met l yX12_begins gwX12_begins { frames := 0, cells := 0, slots := 0, locals := 0 } (sgP D vwCl (tyX ca) 26 h (eM ca h) zcM za f L Q sz [.ref (h 0), .int 50]) (sgQv D vwCl 26 h (eM ca h) sz (fun f1 L1 Q1 => ((sgI loM hiM f1 ∧ sgK WkX12_begins_50_f6 f f1 ∧ L1 = L ∧ Q1 = Q) ∧ (7 ≤ (f1 0 48).toInt ∧ (f1 0 48).toInt ≤ 7)))) 0 0 (sgA 26 h sz) := by
  refine sg_ofWv (cc := cX12_begins) (maxL := 2) RX12 (by decide) rfl rfl (Nat.le_of_ble_eq_true rfl) ?_
  intro p e s m below meth cd Qz ls hx hb hml hown hts hK hZ hP hS hl hret
  have hA := sgY.self (n := 26) (h := h) (sz := s.heap.size)
  have hl : lv_has ls 2 [(0, .ref (h 0)), (1, .int 50)] := hl
  obtain ⟨H, hH⟩ : ∃ z : Heap, z = s.heap := ⟨_, rfl⟩
  obtain ⟨locs, hlo⟩ : ∃ z : List Loc, z = [] := ⟨_, rfl⟩
  have hP : va_P D vwCl (sgw 26 h (eM ca h) f L Q) H := by rw [hH]; exact hP
  have hS : va_S (sgA 26 h s.heap.size) s.heap H locs := by rw [hH, hlo]; exact hS
  suffices hgo : W p l e ({ frames := 0, cells := 0, slots := 0, locals := 0 }) s m ([.ref (h 0), .int 50] : List Value).toArray below meth cd H locs 0 0 Qz (F0 m 0 ls []) by rw [hH, hlo] at hgo; exact hgo
  clear hH hlo
  have o_1 : (f 0 48).toInt = 6 := (congrArg Int32.toInt (show f 0 48 = 6 from hf_0_48)).trans (by decide)
  have hF : sgK WkX12_begins_50_f6 f f := sgK.rf
  have blk_19 : ∀ (fp_19 : sg_F) (H : Heap) (locs : List Loc) (ls : Array Slot), 6 ≤ (fp_19 0 48).toInt ∧ (fp_19 0 48).toInt ≤ 6 → sgI loM hiM fp_19 → sgK WkX12_begins_50_f6 f fp_19 → va_P D vwCl (sgw 26 h (eM ca h) fp_19 L Q) H → va_S (sgA 26 h s.heap.size) s.heap H locs → lv_has ls 2 [(0, .ref (h 0))] → W p l e ({ frames := 0, cells := 0, slots := 0, locals := 0 }) s m ([.ref (h 0), .int 50] : List Value).toArray below meth cd H locs 0 0 Qz (F0 m 19 ls []) := by
    intro fp_19 H locs ls hy0_19 hI hF hP hS hl
    obtain ⟨v_2, ev_2⟩ : ∃ z : Int32, z = fp_19 0 48 := ⟨_, rfl⟩
    have q_3 : 0 ≤ v_2.toInt ∧ v_2.toInt ≤ 19 := by rw [ev_2]; exact hI 0 48
    have q_4 : (fp_19 0 48).toInt = v_2.toInt := by rw [ev_2]
    refine lv_aload_n hx hb dX12_begins_19 rfl (lv_at hl 0 rfl) ?_
    refine lv_dup hx hb dX12_begins_20 rfl ?_
    refine sg_get (ci := 12) (v := .int v_2) (C := RX12) (T := TX12) (N := 55) hx hb hts (fun w h => List.mem_cons_of_mem _ (gx_12 w h)) hown hK hP 0 (by decide) rfl rfl 48 (by decide) (hts _ (List.mem_cons_of_mem _ mw_621)) (fun _ h9 => h9) (congrArg (fun z => some (Value.int z)) (show fp_19 0 48 = v_2 from ev_2.symm)) dX12_begins_21 ?_
    refine lv_iconst (v := 1) hx hb dX12_begins_24 (by decide) ?_
    refine lv_iadd hx hb dX12_begins_25 ?_
    refine lv_topi (fun v_5 ev_5 => ?_)
    have q_6 : v_5.toInt = v_2.toInt + 1 := by rw [ev_5]; have k1 : (1 : Int32).toInt = 1 := (by decide); exact (bn_addI (by omega) (by omega)).trans (by omega)
    refine sg_put (ci := 12) (x := v_5) (ty := .int) (C := RX12) (T := TX12) (N := 55) hx hb hts (fun w h => List.mem_cons_of_mem _ (gx_12 w h)) tyX12 tyX12_ok nmX12 hown hh hA hK hP hS 0 (by decide) rfl rfl 48 (by decide) (hts _ (List.mem_cons_of_mem _ mw_621)) (fun _ h9 => h9) rfl rfl (by decide +kernel) rfl rfl (Nat.le_of_ble_eq_true rfl) dX12_begins_26 (fun f_7 H locs ef_7 hP hS => ?_)
    have hI : sgI loM hiM f_7 := by rw [ef_7]; exact sgI.put hI 0 48 (show 0 ≤ (v_5 : Int32).toInt ∧ (v_5 : Int32).toInt ≤ 19 from by omega)
    have hF : sgK WkX12_begins_50_f6 f f_7 := sgK.put hF ef_7 (by rfl)
    have q_8 : (f_7 0 48).toInt = v_5.toInt := (congrArg Int32.toInt (show f_7 0 48 = v_5 from (by rw [ef_7, sg_up_s, sgu_s])))
    have q_9 : (f_7 0 48).toInt = v_5.toInt := (congrArg Int32.toInt (show f_7 0 48 = v_5 from (by rw [ef_7, sg_up_s, sgu_s])))
    exact hret _ _ _ _ f_7 L Q dX12_begins_29 hP hS ⟨⟨hI, hF, rfl, rfl⟩, (by omega)⟩
  refine lv_aload_n hx hb dX12_begins_0 rfl (lv_at hl 0 rfl) ?_
  refine sg_get (ci := 12) (v := .int 6) (C := RX12) (T := TX12) (N := 55) hx hb hts (fun w h => List.mem_cons_of_mem _ (gx_12 w h)) hown hK hP 0 (by decide) rfl rfl 48 (by decide) (hts _ (List.mem_cons_of_mem _ mw_621)) (fun _ h9 => h9) (congrArg (fun z => some (Value.int z)) (show f 0 48 = 6 from hf_0_48)) dX12_begins_1 ?_
  refine lv_bipush (v := 24) hx hb dX12_begins_4 (by decide) ?_
  refine lv_icmp_ge (tgt := 19) hx hb dX12_begins_6 (by decide) (fun c => absurd c (by decide)) (fun c => ?_)
  refine lv_aload_n hx hb dX12_begins_9 rfl (lv_at hl 0 rfl) ?_
  refine sg_get (ci := 12) (v := .ref (h 21)) (C := RX12) (T := TX12) (N := 55) hx hb hts (fun w h => List.mem_cons_of_mem _ (gx_12 w h)) hown hK hP 0 (by decide) rfl rfl 47 (by decide) (hts _ (List.mem_cons_of_mem _ mw_718)) (fun _ h9 => h9) rfl dX12_begins_10 ?_
  refine lv_aload_n hx hb dX12_begins_13 rfl (lv_at hl 0 rfl) ?_
  refine sg_get (ci := 12) (v := .int 6) (C := RX12) (T := TX12) (N := 55) hx hb hts (fun w h => List.mem_cons_of_mem _ (gx_12 w h)) hown hK hP 0 (by decide) rfl rfl 48 (by decide) (hts _ (List.mem_cons_of_mem _ mw_621)) (fun _ h9 => h9) (congrArg (fun z => some (Value.int z)) (show f 0 48 = 6 from hf_0_48)) dX12_begins_14 ?_
  refine lv_iload_n hx hb dX12_begins_17 rfl (lv_at hl 1 rfl) ?_
  refine sg_iast hx hb hh hA hK hP hS 21 (by decide) 0 (fun _ => rfl) rfl (i := 6) (x := 50) (vp_in_iff.mpr (by decide)) dX12_begins_18 (fun f_10 H locs ef_10 hP hS => ?_)
  have hI : sgI loM hiM f_10 := by rw [ef_10]; exact sgI.put hI 21 (Int32.toNatClampNeg 6) (show 0 ≤ (50 : Int32).toInt ∧ (50 : Int32).toInt ≤ 81 from by decide)
  have hF : sgK WkX12_begins_50_f6 f f_10 := sgK.put hF ef_10 (by rfl)
  exact blk_19 f_10 _ _ _ (by have zz0_48 : (f_10 0 48).toInt = 6 := (congrArg Int32.toInt (show f_10 0 48 = 6 from (by rw [ef_10, sg_up_n (by decide)]; exact hf_0_48))).trans (by decide); omega) hI hF hP hS (lv_sub hl [0] rfl)

abbrev WkX12_slipsAs_1_f7_f7 : List (Nat × Nat × Option Nat) := [(0, 0, some 48), (21, 21, none)]
set_option maxHeartbeats 4000000 in
set_option maxRecDepth 100000 in
theorem kX12_slipsAs_1_f7_f7 (l : Launch) (D : va_G) (ca : Nat → ClassId) (za h : Nat → Nat) (hh : sgH 26 h) (f : sg_F) (L : sg_L) (Q : sg_Q) (hI : sgI loM hiM f) (x1 : Int32) (hf_0_48 : f 0 48 = 7) (hf_0_49 : f 0 49 = 7) (b1 : 2 ≤ x1.toInt ∧ x1.toInt ≤ 2) (p0 : 7 ≤ (f 0 48).toInt ∧ (f 0 48).toInt ≤ 7) (sz : Nat) : Met l yX12_slipsAs gwX12_slipsAs { frames := 1, cells := 0, slots := 0, locals := 21 } (sgP D vwCl (tyX ca) 26 h (eM ca h) zcM za f L Q sz [.ref (h 0), .int 1, .int x1]) (sgQi D vwCl 26 h (eM ca h) sz (fun r f1 L1 Q1 => ((sgI loM hiM f1 ∧ sgK WkX12_slipsAs_1_f7_f7 f f1 ∧ L1 = L ∧ Q1 = Q) ∧ True ∧ (8 ≤ (f1 0 48).toInt ∧ (f1 0 48).toInt ≤ 8)))) 0 0 (sgA 26 h sz) := by
  refine sg_ofWi (cc := cX12_slipsAs) (maxL := 4) RX12 (by decide) rfl rfl (Nat.le_of_ble_eq_true rfl) ?_
  intro p e s m below meth cd Qz ls hx hb hml hown hts hK hZ hP hS hl hret
  have hA := sgY.self (n := 26) (h := h) (sz := s.heap.size)
  have hl : lv_has ls 4 [(0, .ref (h 0)), (1, .int 1), (2, .int x1)] := hl
  obtain ⟨H, hH⟩ : ∃ z : Heap, z = s.heap := ⟨_, rfl⟩
  obtain ⟨locs, hlo⟩ : ∃ z : List Loc, z = [] := ⟨_, rfl⟩
  have hP : va_P D vwCl (sgw 26 h (eM ca h) f L Q) H := by rw [hH]; exact hP
  have hS : va_S (sgA 26 h s.heap.size) s.heap H locs := by rw [hH, hlo]; exact hS
  suffices hgo : W p l e ({ frames := 1, cells := 0, slots := 0, locals := 21 }) s m ([.ref (h 0), .int 1, .int x1] : List Value).toArray below meth cd H locs 0 0 Qz (F0 m 0 ls []) by rw [hH, hlo] at hgo; exact hgo
  clear hH hlo
  have o_1 : (f 0 48).toInt = 7 := (congrArg Int32.toInt (show f 0 48 = 7 from hf_0_48)).trans (by decide)
  have hF : sgK WkX12_slipsAs_1_f7_f7 f f := sgK.rf
  refine lv_iload_n hx hb dX12_slipsAs_0 rfl (lv_at hl 1 rfl) ?_
  refine lv_iconst (v := 3) hx hb dX12_slipsAs_1 (by decide) ?_
  refine lv_icmp_eq (tgt := 10) hx hb dX12_slipsAs_2 (by decide) (fun c => absurd c (by decide)) (fun c => ?_)
  refine lv_iload_n hx hb dX12_slipsAs_5 rfl (lv_at hl 1 rfl) ?_
  refine lv_iconst (v := 5) hx hb dX12_slipsAs_6 (by decide) ?_
  refine lv_icmp_ne (tgt := 25) hx hb dX12_slipsAs_7 (by decide) (fun c => ?_) (fun c => absurd c (by decide))
  refine lv_iload_n hx hb dX12_slipsAs_25 rfl (lv_at hl 1 rfl) ?_
  refine lv_iconst (v := 4) hx hb dX12_slipsAs_26 (by decide) ?_
  refine lv_icmp_eq (tgt := 36) hx hb dX12_slipsAs_27 (by decide) (fun c => absurd c (by decide)) (fun c => ?_)
  refine lv_iload_n hx hb dX12_slipsAs_30 rfl (lv_at hl 1 rfl) ?_
  refine lv_bipush (v := 7) hx hb dX12_slipsAs_31 (by decide) ?_
  refine lv_icmp_ne (tgt := 61) hx hb dX12_slipsAs_33 (by decide) (fun c => ?_) (fun c => absurd c (by decide))
  refine lv_aload_n hx hb dX12_slipsAs_61 rfl (lv_at hl 0 rfl) ?_
  refine lv_bipush (v := 11) hx hb dX12_slipsAs_62 (by decide) ?_
  have q_2 : (f 0 48).toInt = 7 := (congrArg Int32.toInt (show f 0 48 = 7 from hf_0_48)).trans (by decide)
  have q_3 : (f 0 48).toInt = 7 := (congrArg Int32.toInt (show f 0 48 = 7 from hf_0_48)).trans (by decide)
  refine sg_callv (va_runV (As := [.int 11]) (rest := []) ⟨hx, hb, hml, hown, hts⟩ (kX12_begins_11_f7 l D ca za h hh f L Q hI hf_0_48 (by have k0 : (11 : Int32).toInt = 11 := (by decide); omega) H.size) (cwV 1 hts (gw_V (fun _ h => List.mem_cons_of_mem _ h) mw_734 mw_735 mw_736 mw_619 mw_733) rfl rfl rfl (by decide +kernel) ⟨Nat.le_of_ble_eq_true rfl, Nat.le_of_ble_eq_true rfl⟩) (sg_preV (ci := 12) (C := RX12) (T := TX12) (N := 55) hA hK hP hS hZ 0 (by decide) rfl rfl) rfl rfl hl.1 rfl (lv_room (Nat.le_of_ble_eq_true rfl)) dX12_slipsAs_64 ⟨Nat.le_refl _, Nat.le_refl _⟩) hA hS (fun f_4 L_5 Q_6 H locs hq hP hS => ?_)
  obtain ⟨⟨hI, hk_f_4, eL9, eQ9⟩, p_7⟩ := hq
  rw [eL9, eQ9] at hP; clear eL9 eQ9
  have hF : sgK WkX12_slipsAs_1_f7_f7 f f_4 := sgK.tr hF hk_f_4 (by decide)
  obtain ⟨v_8, ev_8⟩ : ∃ z : Int32, z = f_4 0 48 := ⟨_, rfl⟩
  have q_9 : 0 ≤ v_8.toInt ∧ v_8.toInt ≤ 19 := by rw [ev_8]; exact hI 0 48
  have q_10 : (f_4 0 48).toInt = v_8.toInt := (congrArg Int32.toInt (show f_4 0 48 = v_8 from ev_8.symm))
  have q_11 : (f_4 0 48).toInt = v_8.toInt := (congrArg Int32.toInt (show f_4 0 48 = v_8 from ev_8.symm))
  refine lv_iload_n hx hb dX12_slipsAs_67 rfl (lv_at hl 2 rfl) ?_
  refine lv_aload_n hx hb dX12_slipsAs_68 rfl (lv_at hl 0 rfl) ?_
  refine sg_get (ci := 12) (v := .int (f_4 0 50)) (C := RX12) (T := TX12) (N := 55) hx hb hts (fun w h => List.mem_cons_of_mem _ (gx_12 w h)) hown hK hP 0 (by decide) rfl rfl 50 (by decide) (hts _ (List.mem_cons_of_mem _ mw_680)) (fun _ h9 => h9) rfl dX12_slipsAs_69 ?_
  refine lv_topi (fun v_12 ev_12 => ?_)
  have q_13 : 0 ≤ v_12.toInt ∧ v_12.toInt ≤ 49 := by rw [ev_12]; exact hI 0 50
  refine lv_ixor hx hb dX12_slipsAs_72 ?_
  refine lv_topi (fun v_14 ev_14 => ?_)
  have q_15 : (f_4 0 48).toInt = v_8.toInt := (congrArg Int32.toInt (show f_4 0 48 = v_8 from ev_8.symm))
  have q_16 : (f_4 0 48).toInt = v_8.toInt := (congrArg Int32.toInt (show f_4 0 48 = v_8 from ev_8.symm))
  exact hret _ _ _ _ (v_14) f_4 L Q dX12_slipsAs_73 hP hS ⟨⟨hI, hF, rfl, rfl⟩, trivial, (by omega)⟩

abbrev WkX12_begins_20_f8 : List (Nat × Nat × Option Nat) := [(0, 0, some 48), (21, 21, none)]
set_option maxHeartbeats 4000000 in
set_option maxRecDepth 100000 in
theorem kX12_begins_20_f8 (l : Launch) (D : va_G) (ca : Nat → ClassId) (za h : Nat → Nat) (hh : sgH 26 h) (f : sg_F) (L : sg_L) (Q : sg_Q) (hI : sgI loM hiM f) (hf_0_48 : f 0 48 = 8) (p0 : 8 ≤ (f 0 48).toInt ∧ (f 0 48).toInt ≤ 8) (sz : Nat) : Met l yX12_begins gwX12_begins { frames := 0, cells := 0, slots := 0, locals := 0 } (sgP D vwCl (tyX ca) 26 h (eM ca h) zcM za f L Q sz [.ref (h 0), .int 20]) (sgQv D vwCl 26 h (eM ca h) sz (fun f1 L1 Q1 => ((sgI loM hiM f1 ∧ sgK WkX12_begins_20_f8 f f1 ∧ L1 = L ∧ Q1 = Q) ∧ (9 ≤ (f1 0 48).toInt ∧ (f1 0 48).toInt ≤ 9)))) 0 0 (sgA 26 h sz) := by
  refine sg_ofWv (cc := cX12_begins) (maxL := 2) RX12 (by decide) rfl rfl (Nat.le_of_ble_eq_true rfl) ?_
  intro p e s m below meth cd Qz ls hx hb hml hown hts hK hZ hP hS hl hret
  have hA := sgY.self (n := 26) (h := h) (sz := s.heap.size)
  have hl : lv_has ls 2 [(0, .ref (h 0)), (1, .int 20)] := hl
  obtain ⟨H, hH⟩ : ∃ z : Heap, z = s.heap := ⟨_, rfl⟩
  obtain ⟨locs, hlo⟩ : ∃ z : List Loc, z = [] := ⟨_, rfl⟩
  have hP : va_P D vwCl (sgw 26 h (eM ca h) f L Q) H := by rw [hH]; exact hP
  have hS : va_S (sgA 26 h s.heap.size) s.heap H locs := by rw [hH, hlo]; exact hS
  suffices hgo : W p l e ({ frames := 0, cells := 0, slots := 0, locals := 0 }) s m ([.ref (h 0), .int 20] : List Value).toArray below meth cd H locs 0 0 Qz (F0 m 0 ls []) by rw [hH, hlo] at hgo; exact hgo
  clear hH hlo
  have o_1 : (f 0 48).toInt = 8 := (congrArg Int32.toInt (show f 0 48 = 8 from hf_0_48)).trans (by decide)
  have hF : sgK WkX12_begins_20_f8 f f := sgK.rf
  have blk_19 : ∀ (fp_19 : sg_F) (H : Heap) (locs : List Loc) (ls : Array Slot), 8 ≤ (fp_19 0 48).toInt ∧ (fp_19 0 48).toInt ≤ 8 → sgI loM hiM fp_19 → sgK WkX12_begins_20_f8 f fp_19 → va_P D vwCl (sgw 26 h (eM ca h) fp_19 L Q) H → va_S (sgA 26 h s.heap.size) s.heap H locs → lv_has ls 2 [(0, .ref (h 0))] → W p l e ({ frames := 0, cells := 0, slots := 0, locals := 0 }) s m ([.ref (h 0), .int 20] : List Value).toArray below meth cd H locs 0 0 Qz (F0 m 19 ls []) := by
    intro fp_19 H locs ls hy0_19 hI hF hP hS hl
    obtain ⟨v_2, ev_2⟩ : ∃ z : Int32, z = fp_19 0 48 := ⟨_, rfl⟩
    have q_3 : 0 ≤ v_2.toInt ∧ v_2.toInt ≤ 19 := by rw [ev_2]; exact hI 0 48
    have q_4 : (fp_19 0 48).toInt = v_2.toInt := by rw [ev_2]
    refine lv_aload_n hx hb dX12_begins_19 rfl (lv_at hl 0 rfl) ?_
    refine lv_dup hx hb dX12_begins_20 rfl ?_
    refine sg_get (ci := 12) (v := .int v_2) (C := RX12) (T := TX12) (N := 55) hx hb hts (fun w h => List.mem_cons_of_mem _ (gx_12 w h)) hown hK hP 0 (by decide) rfl rfl 48 (by decide) (hts _ (List.mem_cons_of_mem _ mw_621)) (fun _ h9 => h9) (congrArg (fun z => some (Value.int z)) (show fp_19 0 48 = v_2 from ev_2.symm)) dX12_begins_21 ?_
    refine lv_iconst (v := 1) hx hb dX12_begins_24 (by decide) ?_
    refine lv_iadd hx hb dX12_begins_25 ?_
    refine lv_topi (fun v_5 ev_5 => ?_)
    have q_6 : v_5.toInt = v_2.toInt + 1 := by rw [ev_5]; have k1 : (1 : Int32).toInt = 1 := (by decide); exact (bn_addI (by omega) (by omega)).trans (by omega)
    refine sg_put (ci := 12) (x := v_5) (ty := .int) (C := RX12) (T := TX12) (N := 55) hx hb hts (fun w h => List.mem_cons_of_mem _ (gx_12 w h)) tyX12 tyX12_ok nmX12 hown hh hA hK hP hS 0 (by decide) rfl rfl 48 (by decide) (hts _ (List.mem_cons_of_mem _ mw_621)) (fun _ h9 => h9) rfl rfl (by decide +kernel) rfl rfl (Nat.le_of_ble_eq_true rfl) dX12_begins_26 (fun f_7 H locs ef_7 hP hS => ?_)
    have hI : sgI loM hiM f_7 := by rw [ef_7]; exact sgI.put hI 0 48 (show 0 ≤ (v_5 : Int32).toInt ∧ (v_5 : Int32).toInt ≤ 19 from by omega)
    have hF : sgK WkX12_begins_20_f8 f f_7 := sgK.put hF ef_7 (by rfl)
    have q_8 : (f_7 0 48).toInt = v_5.toInt := (congrArg Int32.toInt (show f_7 0 48 = v_5 from (by rw [ef_7, sg_up_s, sgu_s])))
    have q_9 : (f_7 0 48).toInt = v_5.toInt := (congrArg Int32.toInt (show f_7 0 48 = v_5 from (by rw [ef_7, sg_up_s, sgu_s])))
    exact hret _ _ _ _ f_7 L Q dX12_begins_29 hP hS ⟨⟨hI, hF, rfl, rfl⟩, (by omega)⟩
  refine lv_aload_n hx hb dX12_begins_0 rfl (lv_at hl 0 rfl) ?_
  refine sg_get (ci := 12) (v := .int 8) (C := RX12) (T := TX12) (N := 55) hx hb hts (fun w h => List.mem_cons_of_mem _ (gx_12 w h)) hown hK hP 0 (by decide) rfl rfl 48 (by decide) (hts _ (List.mem_cons_of_mem _ mw_621)) (fun _ h9 => h9) (congrArg (fun z => some (Value.int z)) (show f 0 48 = 8 from hf_0_48)) dX12_begins_1 ?_
  refine lv_bipush (v := 24) hx hb dX12_begins_4 (by decide) ?_
  refine lv_icmp_ge (tgt := 19) hx hb dX12_begins_6 (by decide) (fun c => absurd c (by decide)) (fun c => ?_)
  refine lv_aload_n hx hb dX12_begins_9 rfl (lv_at hl 0 rfl) ?_
  refine sg_get (ci := 12) (v := .ref (h 21)) (C := RX12) (T := TX12) (N := 55) hx hb hts (fun w h => List.mem_cons_of_mem _ (gx_12 w h)) hown hK hP 0 (by decide) rfl rfl 47 (by decide) (hts _ (List.mem_cons_of_mem _ mw_718)) (fun _ h9 => h9) rfl dX12_begins_10 ?_
  refine lv_aload_n hx hb dX12_begins_13 rfl (lv_at hl 0 rfl) ?_
  refine sg_get (ci := 12) (v := .int 8) (C := RX12) (T := TX12) (N := 55) hx hb hts (fun w h => List.mem_cons_of_mem _ (gx_12 w h)) hown hK hP 0 (by decide) rfl rfl 48 (by decide) (hts _ (List.mem_cons_of_mem _ mw_621)) (fun _ h9 => h9) (congrArg (fun z => some (Value.int z)) (show f 0 48 = 8 from hf_0_48)) dX12_begins_14 ?_
  refine lv_iload_n hx hb dX12_begins_17 rfl (lv_at hl 1 rfl) ?_
  refine sg_iast hx hb hh hA hK hP hS 21 (by decide) 0 (fun _ => rfl) rfl (i := 8) (x := 20) (vp_in_iff.mpr (by decide)) dX12_begins_18 (fun f_10 H locs ef_10 hP hS => ?_)
  have hI : sgI loM hiM f_10 := by rw [ef_10]; exact sgI.put hI 21 (Int32.toNatClampNeg 8) (show 0 ≤ (20 : Int32).toInt ∧ (20 : Int32).toInt ≤ 81 from by decide)
  have hF : sgK WkX12_begins_20_f8 f f_10 := sgK.put hF ef_10 (by rfl)
  exact blk_19 f_10 _ _ _ (by have zz0_48 : (f_10 0 48).toInt = 8 := (congrArg Int32.toInt (show f_10 0 48 = 8 from (by rw [ef_10, sg_up_n (by decide)]; exact hf_0_48))).trans (by decide); omega) hI hF hP hS (lv_sub hl [0] rfl)

abbrev WkX12_begins_1_f9 : List (Nat × Nat × Option Nat) := [(0, 0, some 48), (21, 21, none)]
set_option maxHeartbeats 4000000 in
set_option maxRecDepth 100000 in
theorem kX12_begins_1_f9 (l : Launch) (D : va_G) (ca : Nat → ClassId) (za h : Nat → Nat) (hh : sgH 26 h) (f : sg_F) (L : sg_L) (Q : sg_Q) (hI : sgI loM hiM f) (hf_0_48 : f 0 48 = 9) (p0 : 9 ≤ (f 0 48).toInt ∧ (f 0 48).toInt ≤ 9) (sz : Nat) : Met l yX12_begins gwX12_begins { frames := 0, cells := 0, slots := 0, locals := 0 } (sgP D vwCl (tyX ca) 26 h (eM ca h) zcM za f L Q sz [.ref (h 0), .int 1]) (sgQv D vwCl 26 h (eM ca h) sz (fun f1 L1 Q1 => ((sgI loM hiM f1 ∧ sgK WkX12_begins_1_f9 f f1 ∧ L1 = L ∧ Q1 = Q) ∧ (10 ≤ (f1 0 48).toInt ∧ (f1 0 48).toInt ≤ 10)))) 0 0 (sgA 26 h sz) := by
  refine sg_ofWv (cc := cX12_begins) (maxL := 2) RX12 (by decide) rfl rfl (Nat.le_of_ble_eq_true rfl) ?_
  intro p e s m below meth cd Qz ls hx hb hml hown hts hK hZ hP hS hl hret
  have hA := sgY.self (n := 26) (h := h) (sz := s.heap.size)
  have hl : lv_has ls 2 [(0, .ref (h 0)), (1, .int 1)] := hl
  obtain ⟨H, hH⟩ : ∃ z : Heap, z = s.heap := ⟨_, rfl⟩
  obtain ⟨locs, hlo⟩ : ∃ z : List Loc, z = [] := ⟨_, rfl⟩
  have hP : va_P D vwCl (sgw 26 h (eM ca h) f L Q) H := by rw [hH]; exact hP
  have hS : va_S (sgA 26 h s.heap.size) s.heap H locs := by rw [hH, hlo]; exact hS
  suffices hgo : W p l e ({ frames := 0, cells := 0, slots := 0, locals := 0 }) s m ([.ref (h 0), .int 1] : List Value).toArray below meth cd H locs 0 0 Qz (F0 m 0 ls []) by rw [hH, hlo] at hgo; exact hgo
  clear hH hlo
  have o_1 : (f 0 48).toInt = 9 := (congrArg Int32.toInt (show f 0 48 = 9 from hf_0_48)).trans (by decide)
  have hF : sgK WkX12_begins_1_f9 f f := sgK.rf
  have blk_19 : ∀ (fp_19 : sg_F) (H : Heap) (locs : List Loc) (ls : Array Slot), 9 ≤ (fp_19 0 48).toInt ∧ (fp_19 0 48).toInt ≤ 9 → sgI loM hiM fp_19 → sgK WkX12_begins_1_f9 f fp_19 → va_P D vwCl (sgw 26 h (eM ca h) fp_19 L Q) H → va_S (sgA 26 h s.heap.size) s.heap H locs → lv_has ls 2 [(0, .ref (h 0))] → W p l e ({ frames := 0, cells := 0, slots := 0, locals := 0 }) s m ([.ref (h 0), .int 1] : List Value).toArray below meth cd H locs 0 0 Qz (F0 m 19 ls []) := by
    intro fp_19 H locs ls hy0_19 hI hF hP hS hl
    obtain ⟨v_2, ev_2⟩ : ∃ z : Int32, z = fp_19 0 48 := ⟨_, rfl⟩
    have q_3 : 0 ≤ v_2.toInt ∧ v_2.toInt ≤ 19 := by rw [ev_2]; exact hI 0 48
    have q_4 : (fp_19 0 48).toInt = v_2.toInt := by rw [ev_2]
    refine lv_aload_n hx hb dX12_begins_19 rfl (lv_at hl 0 rfl) ?_
    refine lv_dup hx hb dX12_begins_20 rfl ?_
    refine sg_get (ci := 12) (v := .int v_2) (C := RX12) (T := TX12) (N := 55) hx hb hts (fun w h => List.mem_cons_of_mem _ (gx_12 w h)) hown hK hP 0 (by decide) rfl rfl 48 (by decide) (hts _ (List.mem_cons_of_mem _ mw_621)) (fun _ h9 => h9) (congrArg (fun z => some (Value.int z)) (show fp_19 0 48 = v_2 from ev_2.symm)) dX12_begins_21 ?_
    refine lv_iconst (v := 1) hx hb dX12_begins_24 (by decide) ?_
    refine lv_iadd hx hb dX12_begins_25 ?_
    refine lv_topi (fun v_5 ev_5 => ?_)
    have q_6 : v_5.toInt = v_2.toInt + 1 := by rw [ev_5]; have k1 : (1 : Int32).toInt = 1 := (by decide); exact (bn_addI (by omega) (by omega)).trans (by omega)
    refine sg_put (ci := 12) (x := v_5) (ty := .int) (C := RX12) (T := TX12) (N := 55) hx hb hts (fun w h => List.mem_cons_of_mem _ (gx_12 w h)) tyX12 tyX12_ok nmX12 hown hh hA hK hP hS 0 (by decide) rfl rfl 48 (by decide) (hts _ (List.mem_cons_of_mem _ mw_621)) (fun _ h9 => h9) rfl rfl (by decide +kernel) rfl rfl (Nat.le_of_ble_eq_true rfl) dX12_begins_26 (fun f_7 H locs ef_7 hP hS => ?_)
    have hI : sgI loM hiM f_7 := by rw [ef_7]; exact sgI.put hI 0 48 (show 0 ≤ (v_5 : Int32).toInt ∧ (v_5 : Int32).toInt ≤ 19 from by omega)
    have hF : sgK WkX12_begins_1_f9 f f_7 := sgK.put hF ef_7 (by rfl)
    have q_8 : (f_7 0 48).toInt = v_5.toInt := (congrArg Int32.toInt (show f_7 0 48 = v_5 from (by rw [ef_7, sg_up_s, sgu_s])))
    have q_9 : (f_7 0 48).toInt = v_5.toInt := (congrArg Int32.toInt (show f_7 0 48 = v_5 from (by rw [ef_7, sg_up_s, sgu_s])))
    exact hret _ _ _ _ f_7 L Q dX12_begins_29 hP hS ⟨⟨hI, hF, rfl, rfl⟩, (by omega)⟩
  refine lv_aload_n hx hb dX12_begins_0 rfl (lv_at hl 0 rfl) ?_
  refine sg_get (ci := 12) (v := .int 9) (C := RX12) (T := TX12) (N := 55) hx hb hts (fun w h => List.mem_cons_of_mem _ (gx_12 w h)) hown hK hP 0 (by decide) rfl rfl 48 (by decide) (hts _ (List.mem_cons_of_mem _ mw_621)) (fun _ h9 => h9) (congrArg (fun z => some (Value.int z)) (show f 0 48 = 9 from hf_0_48)) dX12_begins_1 ?_
  refine lv_bipush (v := 24) hx hb dX12_begins_4 (by decide) ?_
  refine lv_icmp_ge (tgt := 19) hx hb dX12_begins_6 (by decide) (fun c => absurd c (by decide)) (fun c => ?_)
  refine lv_aload_n hx hb dX12_begins_9 rfl (lv_at hl 0 rfl) ?_
  refine sg_get (ci := 12) (v := .ref (h 21)) (C := RX12) (T := TX12) (N := 55) hx hb hts (fun w h => List.mem_cons_of_mem _ (gx_12 w h)) hown hK hP 0 (by decide) rfl rfl 47 (by decide) (hts _ (List.mem_cons_of_mem _ mw_718)) (fun _ h9 => h9) rfl dX12_begins_10 ?_
  refine lv_aload_n hx hb dX12_begins_13 rfl (lv_at hl 0 rfl) ?_
  refine sg_get (ci := 12) (v := .int 9) (C := RX12) (T := TX12) (N := 55) hx hb hts (fun w h => List.mem_cons_of_mem _ (gx_12 w h)) hown hK hP 0 (by decide) rfl rfl 48 (by decide) (hts _ (List.mem_cons_of_mem _ mw_621)) (fun _ h9 => h9) (congrArg (fun z => some (Value.int z)) (show f 0 48 = 9 from hf_0_48)) dX12_begins_14 ?_
  refine lv_iload_n hx hb dX12_begins_17 rfl (lv_at hl 1 rfl) ?_
  refine sg_iast hx hb hh hA hK hP hS 21 (by decide) 0 (fun _ => rfl) rfl (i := 9) (x := 1) (vp_in_iff.mpr (by decide)) dX12_begins_18 (fun f_10 H locs ef_10 hP hS => ?_)
  have hI : sgI loM hiM f_10 := by rw [ef_10]; exact sgI.put hI 21 (Int32.toNatClampNeg 9) (show 0 ≤ (1 : Int32).toInt ∧ (1 : Int32).toInt ≤ 81 from by decide)
  have hF : sgK WkX12_begins_1_f9 f f_10 := sgK.put hF ef_10 (by rfl)
  exact blk_19 f_10 _ _ _ (by have zz0_48 : (f_10 0 48).toInt = 9 := (congrArg Int32.toInt (show f_10 0 48 = 9 from (by rw [ef_10, sg_up_n (by decide)]; exact hf_0_48))).trans (by decide); omega) hI hF hP hS (lv_sub hl [0] rfl)

abbrev WkX12_setsAs_0_f9_f7 : List (Nat × Nat × Option Nat) := [(0, 0, some 48), (21, 21, none)]
set_option maxHeartbeats 4000000 in
set_option maxRecDepth 100000 in
theorem kX12_setsAs_0_f9_f7 (l : Launch) (D : va_G) (ca : Nat → ClassId) (za h : Nat → Nat) (hh : sgH 26 h) (f : sg_F) (L : sg_L) (Q : sg_Q) (hI : sgI loM hiM f) (x1 : Int32) (hf_0_48 : f 0 48 = 9) (hf_0_49 : f 0 49 = 7) (b1 : 2 ≤ x1.toInt ∧ x1.toInt ≤ 2) (p0 : 9 ≤ (f 0 48).toInt ∧ (f 0 48).toInt ≤ 9) (sz : Nat) : Met l yX12_setsAs gwX12_setsAs { frames := 1, cells := 0, slots := 0, locals := 21 } (sgP D vwCl (tyX ca) 26 h (eM ca h) zcM za f L Q sz [.ref (h 0), .int 0, .int x1]) (sgQi D vwCl 26 h (eM ca h) sz (fun r f1 L1 Q1 => ((sgI loM hiM f1 ∧ sgK WkX12_setsAs_0_f9_f7 f f1 ∧ L1 = L ∧ Q1 = Q) ∧ (2 ≤ r.toInt ∧ r.toInt ≤ 51) ∧ (10 ≤ (f1 0 48).toInt ∧ (f1 0 48).toInt ≤ 10)))) 0 0 (sgA 26 h sz) := by
  refine sg_ofWi (cc := cX12_setsAs) (maxL := 3) RX12 (by decide) rfl rfl (Nat.le_of_ble_eq_true rfl) ?_
  intro p e s m below meth cd Qz ls hx hb hml hown hts hK hZ hP hS hl hret
  have hA := sgY.self (n := 26) (h := h) (sz := s.heap.size)
  have hl : lv_has ls 3 [(0, .ref (h 0)), (1, .int 0), (2, .int x1)] := hl
  obtain ⟨H, hH⟩ : ∃ z : Heap, z = s.heap := ⟨_, rfl⟩
  obtain ⟨locs, hlo⟩ : ∃ z : List Loc, z = [] := ⟨_, rfl⟩
  have hP : va_P D vwCl (sgw 26 h (eM ca h) f L Q) H := by rw [hH]; exact hP
  have hS : va_S (sgA 26 h s.heap.size) s.heap H locs := by rw [hH, hlo]; exact hS
  suffices hgo : W p l e ({ frames := 1, cells := 0, slots := 0, locals := 21 }) s m ([.ref (h 0), .int 0, .int x1] : List Value).toArray below meth cd H locs 0 0 Qz (F0 m 0 ls []) by rw [hH, hlo] at hgo; exact hgo
  clear hH hlo
  have o_1 : (f 0 48).toInt = 9 := (congrArg Int32.toInt (show f 0 48 = 9 from hf_0_48)).trans (by decide)
  have hF : sgK WkX12_setsAs_0_f9_f7 f f := sgK.rf
  refine lv_iload_n hx hb dX12_setsAs_0 rfl (lv_at hl 1 rfl) ?_
  refine lv_iconst (v := 1) hx hb dX12_setsAs_1 (by decide) ?_
  refine lv_icmp_eq (tgt := 16) hx hb dX12_setsAs_2 (by decide) (fun c => absurd c (by decide)) (fun c => ?_)
  refine lv_iload_n hx hb dX12_setsAs_5 rfl (lv_at hl 1 rfl) ?_
  refine lv_iconst (v := 4) hx hb dX12_setsAs_6 (by decide) ?_
  refine lv_icmp_eq (tgt := 16) hx hb dX12_setsAs_7 (by decide) (fun c => absurd c (by decide)) (fun c => ?_)
  refine lv_iload_n hx hb dX12_setsAs_10 rfl (lv_at hl 1 rfl) ?_
  refine lv_bipush (v := 7) hx hb dX12_setsAs_11 (by decide) ?_
  refine lv_icmp_ne (tgt := 31) hx hb dX12_setsAs_13 (by decide) (fun c => ?_) (fun c => absurd c (by decide))
  refine lv_iload_n hx hb dX12_setsAs_31 rfl (lv_at hl 1 rfl) ?_
  refine lv_bipush (v := 6) hx hb dX12_setsAs_32 (by decide) ?_
  refine lv_icmp_ne (tgt := 52) hx hb dX12_setsAs_34 (by decide) (fun c => ?_) (fun c => absurd c (by decide))
  refine lv_aload_n hx hb dX12_setsAs_52 rfl (lv_at hl 0 rfl) ?_
  refine lv_iconst (v := 1) hx hb dX12_setsAs_53 (by decide) ?_
  have q_2 : (f 0 48).toInt = 9 := (congrArg Int32.toInt (show f 0 48 = 9 from hf_0_48)).trans (by decide)
  have q_3 : (f 0 48).toInt = 9 := (congrArg Int32.toInt (show f 0 48 = 9 from hf_0_48)).trans (by decide)
  refine sg_callv (va_runV (As := [.int 1]) (rest := []) ⟨hx, hb, hml, hown, hts⟩ (kX12_begins_1_f9 l D ca za h hh f L Q hI hf_0_48 (by have k0 : (1 : Int32).toInt = 1 := (by decide); omega) H.size) (cwV 1 hts (gw_V (fun _ h => List.mem_cons_of_mem _ h) mw_734 mw_735 mw_736 mw_619 mw_733) rfl rfl rfl (by decide +kernel) ⟨Nat.le_of_ble_eq_true rfl, Nat.le_of_ble_eq_true rfl⟩) (sg_preV (ci := 12) (C := RX12) (T := TX12) (N := 55) hA hK hP hS hZ 0 (by decide) rfl rfl) rfl rfl hl.1 rfl (lv_room (Nat.le_of_ble_eq_true rfl)) dX12_setsAs_54 ⟨Nat.le_refl _, Nat.le_refl _⟩) hA hS (fun f_4 L_5 Q_6 H locs hq hP hS => ?_)
  obtain ⟨⟨hI, hk_f_4, eL9, eQ9⟩, p_7⟩ := hq
  rw [eL9, eQ9] at hP; clear eL9 eQ9
  have hF : sgK WkX12_setsAs_0_f9_f7 f f_4 := sgK.tr hF hk_f_4 (by decide)
  obtain ⟨v_8, ev_8⟩ : ∃ z : Int32, z = f_4 0 48 := ⟨_, rfl⟩
  have q_9 : 0 ≤ v_8.toInt ∧ v_8.toInt ≤ 19 := by rw [ev_8]; exact hI 0 48
  have q_10 : (f_4 0 48).toInt = v_8.toInt := (congrArg Int32.toInt (show f_4 0 48 = v_8 from ev_8.symm))
  have q_11 : (f_4 0 48).toInt = v_8.toInt := (congrArg Int32.toInt (show f_4 0 48 = v_8 from ev_8.symm))
  refine lv_iload_n hx hb dX12_setsAs_57 rfl (lv_at hl 2 rfl) ?_
  refine lv_aload_n hx hb dX12_setsAs_58 rfl (lv_at hl 0 rfl) ?_
  refine sg_get (ci := 12) (v := .int (f_4 0 50)) (C := RX12) (T := TX12) (N := 55) hx hb hts (fun w h => List.mem_cons_of_mem _ (gx_12 w h)) hown hK hP 0 (by decide) rfl rfl 50 (by decide) (hts _ (List.mem_cons_of_mem _ mw_680)) (fun _ h9 => h9) rfl dX12_setsAs_59 ?_
  refine lv_topi (fun v_12 ev_12 => ?_)
  have q_13 : 0 ≤ v_12.toInt ∧ v_12.toInt ≤ 49 := by rw [ev_12]; exact hI 0 50
  refine lv_iadd hx hb dX12_setsAs_62 ?_
  refine lv_topi (fun v_14 ev_14 => ?_)
  have q_15 : v_14.toInt = x1.toInt + v_12.toInt := by rw [ev_14]; exact (bn_addI (by omega) (by omega)).trans (by omega)
  have q_16 : (f_4 0 48).toInt = v_8.toInt := (congrArg Int32.toInt (show f_4 0 48 = v_8 from ev_8.symm))
  have q_17 : (f_4 0 48).toInt = v_8.toInt := (congrArg Int32.toInt (show f_4 0 48 = v_8 from ev_8.symm))
  exact hret _ _ _ _ (v_14) f_4 L Q dX12_setsAs_63 hP hS ⟨⟨hI, hF, rfl, rfl⟩, (by omega), (by omega)⟩

abbrev WkX12_setsAs_7_f8_f7 : List (Nat × Nat × Option Nat) := [(0, 0, some 48), (21, 21, none)]
set_option maxHeartbeats 4000000 in
set_option maxRecDepth 100000 in
theorem kX12_setsAs_7_f8_f7 (l : Launch) (D : va_G) (ca : Nat → ClassId) (za h : Nat → Nat) (hh : sgH 26 h) (f : sg_F) (L : sg_L) (Q : sg_Q) (hI : sgI loM hiM f) (x1 : Int32) (hf_0_48 : f 0 48 = 8) (hf_0_49 : f 0 49 = 7) (b1 : 2 ≤ x1.toInt ∧ x1.toInt ≤ 2) (p0 : 8 ≤ (f 0 48).toInt ∧ (f 0 48).toInt ≤ 8) (sz : Nat) : Met l yX12_setsAs gwX12_setsAs { frames := 2, cells := 0, slots := 0, locals := 43 } (sgP D vwCl (tyX ca) 26 h (eM ca h) zcM za f L Q sz [.ref (h 0), .int 7, .int x1]) (sgQi D vwCl 26 h (eM ca h) sz (fun r f1 L1 Q1 => ((sgI loM hiM f1 ∧ sgK WkX12_setsAs_7_f8_f7 f f1 ∧ L1 = L ∧ Q1 = Q) ∧ (5 ≤ r.toInt ∧ r.toInt ≤ 54) ∧ (10 ≤ (f1 0 48).toInt ∧ (f1 0 48).toInt ≤ 10)))) 0 0 (sgA 26 h sz) := by
  refine sg_ofWi (cc := cX12_setsAs) (maxL := 3) RX12 (by decide) rfl rfl (Nat.le_of_ble_eq_true rfl) ?_
  intro p e s m below meth cd Qz ls hx hb hml hown hts hK hZ hP hS hl hret
  have hA := sgY.self (n := 26) (h := h) (sz := s.heap.size)
  have hl : lv_has ls 3 [(0, .ref (h 0)), (1, .int 7), (2, .int x1)] := hl
  obtain ⟨H, hH⟩ : ∃ z : Heap, z = s.heap := ⟨_, rfl⟩
  obtain ⟨locs, hlo⟩ : ∃ z : List Loc, z = [] := ⟨_, rfl⟩
  have hP : va_P D vwCl (sgw 26 h (eM ca h) f L Q) H := by rw [hH]; exact hP
  have hS : va_S (sgA 26 h s.heap.size) s.heap H locs := by rw [hH, hlo]; exact hS
  suffices hgo : W p l e ({ frames := 2, cells := 0, slots := 0, locals := 43 }) s m ([.ref (h 0), .int 7, .int x1] : List Value).toArray below meth cd H locs 0 0 Qz (F0 m 0 ls []) by rw [hH, hlo] at hgo; exact hgo
  clear hH hlo
  have o_1 : (f 0 48).toInt = 8 := (congrArg Int32.toInt (show f 0 48 = 8 from hf_0_48)).trans (by decide)
  have hF : sgK WkX12_setsAs_7_f8_f7 f f := sgK.rf
  have blk_16 : ∀ (fp_16 : sg_F) (H : Heap) (locs : List Loc) (ls : Array Slot), 8 ≤ (fp_16 0 48).toInt ∧ (fp_16 0 48).toInt ≤ 8 → 7 ≤ (fp_16 0 49).toInt ∧ (fp_16 0 49).toInt ≤ 7 → sgI loM hiM fp_16 → sgK WkX12_setsAs_7_f8_f7 f fp_16 → va_P D vwCl (sgw 26 h (eM ca h) fp_16 L Q) H → va_S (sgA 26 h s.heap.size) s.heap H locs → lv_has ls 3 [(0, .ref (h 0)), (2, .int x1)] → W p l e ({ frames := 2, cells := 0, slots := 0, locals := 43 }) s m ([.ref (h 0), .int 7, .int x1] : List Value).toArray below meth cd H locs 0 0 Qz (F0 m 16 ls []) := by
    intro fp_16 H locs ls hy0_16 hy1_16 hI hF hP hS hl
    obtain ⟨v_2, ev_2⟩ : ∃ z : Int32, z = fp_16 0 48 := ⟨_, rfl⟩
    have q_3 : 0 ≤ v_2.toInt ∧ v_2.toInt ≤ 19 := by rw [ev_2]; exact hI 0 48
    have q_4 : (fp_16 0 48).toInt = v_2.toInt := by rw [ev_2]
    obtain ⟨v_5, ev_5⟩ : ∃ z : Int32, z = fp_16 0 49 := ⟨_, rfl⟩
    have q_6 : 0 ≤ v_5.toInt ∧ v_5.toInt ≤ 7 := by rw [ev_5]; exact hI 0 49
    have q_7 : (fp_16 0 49).toInt = v_5.toInt := by rw [ev_5]
    have m_8 : fp_16 0 49 = 7 := (hF 0 49 (by decide)).trans hf_0_49
    refine lv_aload_n hx hb dX12_setsAs_16 rfl (lv_at hl 0 rfl) ?_
    refine lv_bipush (v := 20) hx hb dX12_setsAs_17 (by decide) ?_
    have c_9 : v_2 = 8 := Int32.toInt_inj.mp (by have k9 : (8 : Int32).toInt = 8 := (by decide); omega)
    have q_10 : (fp_16 0 48).toInt = 8 := (congrArg Int32.toInt (show fp_16 0 48 = 8 from (Eq.trans ev_2.symm c_9))).trans (by decide)
    have q_11 : (fp_16 0 48).toInt = 8 := (congrArg Int32.toInt (show fp_16 0 48 = 8 from (Eq.trans ev_2.symm c_9))).trans (by decide)
    refine sg_callv (va_runV (As := [.int 20]) (rest := []) ⟨hx, hb, hml, hown, hts⟩ (kX12_begins_20_f8 l D ca za h hh fp_16 L Q hI (Eq.trans ev_2.symm c_9) (by have k0 : (20 : Int32).toInt = 20 := (by decide); omega) H.size) (cwV 1 hts (gw_V (fun _ h => List.mem_cons_of_mem _ h) mw_734 mw_735 mw_736 mw_619 mw_733) rfl rfl rfl (by decide +kernel) ⟨Nat.le_of_ble_eq_true rfl, Nat.le_of_ble_eq_true rfl⟩) (sg_preV (ci := 12) (C := RX12) (T := TX12) (N := 55) hA hK hP hS hZ 0 (by decide) rfl rfl) rfl rfl hl.1 rfl (lv_room (Nat.le_of_ble_eq_true rfl)) dX12_setsAs_19 ⟨Nat.le_refl _, Nat.le_refl _⟩) hA hS (fun f_12 L_13 Q_14 H locs hq hP hS => ?_)
    obtain ⟨⟨hI, hk_f_12, eL9, eQ9⟩, p_15⟩ := hq
    rw [eL9, eQ9] at hP; clear eL9 eQ9
    have hF : sgK WkX12_setsAs_7_f8_f7 f f_12 := sgK.tr hF hk_f_12 (by decide)
    obtain ⟨v_16, ev_16⟩ : ∃ z : Int32, z = f_12 0 48 := ⟨_, rfl⟩
    have q_17 : 0 ≤ v_16.toInt ∧ v_16.toInt ≤ 19 := by rw [ev_16]; exact hI 0 48
    have q_18 : (f_12 0 48).toInt = v_16.toInt := (congrArg Int32.toInt (show f_12 0 48 = v_16 from ev_16.symm))
    have q_19 : (f_12 0 48).toInt = v_16.toInt := (congrArg Int32.toInt (show f_12 0 48 = v_16 from ev_16.symm))
    refine lv_aload_n hx hb dX12_setsAs_22 rfl (lv_at hl 0 rfl) ?_
    refine lv_iconst (v := 0) hx hb dX12_setsAs_23 (by decide) ?_
    refine lv_iload_n hx hb dX12_setsAs_24 rfl (lv_at hl 1 rfl) ?_
    have c_20 : v_16 = 9 := Int32.toInt_inj.mp (by have k9 : (9 : Int32).toInt = 9 := (by decide); omega)
    have q_21 : (f_12 0 48).toInt = 9 := (congrArg Int32.toInt (show f_12 0 48 = 9 from (Eq.trans ev_16.symm c_20))).trans (by decide)
    have q_22 : (f_12 0 48).toInt = 9 := (congrArg Int32.toInt (show f_12 0 48 = 9 from (Eq.trans ev_16.symm c_20))).trans (by decide)
    refine sg_calli (va_runV (As := [.int 0, .int x1]) (rest := []) ⟨hx, hb, hml, hown, hts⟩ (kX12_setsAs_0_f9_f7 l D ca za h hh f_12 L Q hI x1 (Eq.trans ev_16.symm c_20) ((hk_f_12 0 49 (by decide)).trans m_8) (by omega) (by have k0 : (0 : Int32).toInt = 0 := (by decide); omega) H.size) (cwV 2 hts (gw_V (fun _ h => List.mem_cons_of_mem _ h) mw_744 mw_745 mw_746 mw_619 mw_743) rfl rfl rfl (by decide +kernel) ⟨Nat.le_of_ble_eq_true rfl, Nat.le_of_ble_eq_true rfl⟩) (sg_preV (ci := 12) (C := RX12) (T := TX12) (N := 55) hA hK hP hS hZ 0 (by decide) rfl rfl) rfl rfl hl.1 rfl (lv_room (Nat.le_of_ble_eq_true rfl)) dX12_setsAs_25 ⟨Nat.le_refl _, Nat.le_refl _⟩) hA hS (fun r_26 f_23 L_24 Q_25 H locs hq hP hS => ?_)
    obtain ⟨⟨hI, hk_f_23, eL9, eQ9⟩, hq, p_27⟩ := hq
    rw [eL9, eQ9] at hP; clear eL9 eQ9
    have hF : sgK WkX12_setsAs_7_f8_f7 f f_23 := sgK.tr hF hk_f_23 (by decide)
    obtain ⟨v_28, ev_28⟩ : ∃ z : Int32, z = f_23 0 48 := ⟨_, rfl⟩
    have q_29 : 0 ≤ v_28.toInt ∧ v_28.toInt ≤ 19 := by rw [ev_28]; exact hI 0 48
    have q_30 : (f_23 0 48).toInt = v_28.toInt := (congrArg Int32.toInt (show f_23 0 48 = v_28 from ev_28.symm))
    have q_31 : (f_23 0 48).toInt = v_28.toInt := (congrArg Int32.toInt (show f_23 0 48 = v_28 from ev_28.symm))
    have k_32 : (0 : Int32).toInt = 0 := by decide
    refine lv_iconst (v := 3) hx hb dX12_setsAs_28 (by decide) ?_
    refine lv_iadd hx hb dX12_setsAs_29 ?_
    refine lv_topi (fun v_33 ev_33 => ?_)
    have q_34 : v_33.toInt = r_26.toInt + 3 := by rw [ev_33]; have k1 : (3 : Int32).toInt = 3 := (by decide); exact (bn_addI (by omega) (by omega)).trans (by omega)
    have q_35 : (f_23 0 48).toInt = v_28.toInt := (congrArg Int32.toInt (show f_23 0 48 = v_28 from ev_28.symm))
    have q_36 : (f_23 0 48).toInt = v_28.toInt := (congrArg Int32.toInt (show f_23 0 48 = v_28 from ev_28.symm))
    exact hret _ _ _ _ (v_33) f_23 L Q dX12_setsAs_30 hP hS ⟨⟨hI, hF, rfl, rfl⟩, (by omega), (by omega)⟩
  refine lv_iload_n hx hb dX12_setsAs_0 rfl (lv_at hl 1 rfl) ?_
  refine lv_iconst (v := 1) hx hb dX12_setsAs_1 (by decide) ?_
  refine lv_icmp_eq (tgt := 16) hx hb dX12_setsAs_2 (by decide) (fun c => absurd c (by decide)) (fun c => ?_)
  refine lv_iload_n hx hb dX12_setsAs_5 rfl (lv_at hl 1 rfl) ?_
  refine lv_iconst (v := 4) hx hb dX12_setsAs_6 (by decide) ?_
  refine lv_icmp_eq (tgt := 16) hx hb dX12_setsAs_7 (by decide) (fun c => absurd c (by decide)) (fun c => ?_)
  refine lv_iload_n hx hb dX12_setsAs_10 rfl (lv_at hl 1 rfl) ?_
  refine lv_bipush (v := 7) hx hb dX12_setsAs_11 (by decide) ?_
  refine lv_icmp_ne (tgt := 31) hx hb dX12_setsAs_13 (by decide) (fun c => absurd c (by decide)) (fun c => ?_)
  exact blk_16 f _ _ _ (by have zz0_48 : (f 0 48).toInt = 8 := (congrArg Int32.toInt (show f 0 48 = 8 from hf_0_48)).trans (by decide); omega) (by have zz0_49 : (f 0 49).toInt = 7 := (congrArg Int32.toInt (show f 0 49 = 7 from hf_0_49)).trans (by decide); omega) hI hF hP hS (lv_sub hl [0, 2] rfl)

abbrev WkX12_slipsAs_7_f6_f7 : List (Nat × Nat × Option Nat) := [(0, 0, some 48), (21, 21, none)]
set_option maxHeartbeats 4000000 in
set_option maxRecDepth 100000 in
theorem kX12_slipsAs_7_f6_f7 (l : Launch) (D : va_G) (ca : Nat → ClassId) (za h : Nat → Nat) (hh : sgH 26 h) (f : sg_F) (L : sg_L) (Q : sg_Q) (hI : sgI loM hiM f) (x1 : Int32) (hf_0_48 : f 0 48 = 6) (hf_0_49 : f 0 49 = 7) (b1 : 2 ≤ x1.toInt ∧ x1.toInt ≤ 2) (p0 : 6 ≤ (f 0 48).toInt ∧ (f 0 48).toInt ≤ 6) (sz : Nat) : Met l yX12_slipsAs gwX12_slipsAs { frames := 3, cells := 0, slots := 0, locals := 65 } (sgP D vwCl (tyX ca) 26 h (eM ca h) zcM za f L Q sz [.ref (h 0), .int 7, .int x1]) (sgQi D vwCl 26 h (eM ca h) sz (fun r f1 L1 Q1 => ((sgI loM hiM f1 ∧ sgK WkX12_slipsAs_7_f6_f7 f f1 ∧ L1 = L ∧ Q1 = Q) ∧ True ∧ (10 ≤ (f1 0 48).toInt ∧ (f1 0 48).toInt ≤ 10)))) 0 0 (sgA 26 h sz) := by
  refine sg_ofWi (cc := cX12_slipsAs) (maxL := 4) RX12 (by decide) rfl rfl (Nat.le_of_ble_eq_true rfl) ?_
  intro p e s m below meth cd Qz ls hx hb hml hown hts hK hZ hP hS hl hret
  have hA := sgY.self (n := 26) (h := h) (sz := s.heap.size)
  have hl : lv_has ls 4 [(0, .ref (h 0)), (1, .int 7), (2, .int x1)] := hl
  obtain ⟨H, hH⟩ : ∃ z : Heap, z = s.heap := ⟨_, rfl⟩
  obtain ⟨locs, hlo⟩ : ∃ z : List Loc, z = [] := ⟨_, rfl⟩
  have hP : va_P D vwCl (sgw 26 h (eM ca h) f L Q) H := by rw [hH]; exact hP
  have hS : va_S (sgA 26 h s.heap.size) s.heap H locs := by rw [hH, hlo]; exact hS
  suffices hgo : W p l e ({ frames := 3, cells := 0, slots := 0, locals := 65 }) s m ([.ref (h 0), .int 7, .int x1] : List Value).toArray below meth cd H locs 0 0 Qz (F0 m 0 ls []) by rw [hH, hlo] at hgo; exact hgo
  clear hH hlo
  have o_1 : (f 0 48).toInt = 6 := (congrArg Int32.toInt (show f 0 48 = 6 from hf_0_48)).trans (by decide)
  have hF : sgK WkX12_slipsAs_7_f6_f7 f f := sgK.rf
  have blk_36 : ∀ (fp_36 : sg_F) (H : Heap) (locs : List Loc) (ls : Array Slot), 6 ≤ (fp_36 0 48).toInt ∧ (fp_36 0 48).toInt ≤ 6 → 7 ≤ (fp_36 0 49).toInt ∧ (fp_36 0 49).toInt ≤ 7 → sgI loM hiM fp_36 → sgK WkX12_slipsAs_7_f6_f7 f fp_36 → va_P D vwCl (sgw 26 h (eM ca h) fp_36 L Q) H → va_S (sgA 26 h s.heap.size) s.heap H locs → lv_has ls 4 [(0, .ref (h 0)), (2, .int x1)] → W p l e ({ frames := 3, cells := 0, slots := 0, locals := 65 }) s m ([.ref (h 0), .int 7, .int x1] : List Value).toArray below meth cd H locs 0 0 Qz (F0 m 36 ls []) := by
    intro fp_36 H locs ls hy0_36 hy1_36 hI hF hP hS hl
    obtain ⟨v_2, ev_2⟩ : ∃ z : Int32, z = fp_36 0 48 := ⟨_, rfl⟩
    have q_3 : 0 ≤ v_2.toInt ∧ v_2.toInt ≤ 19 := by rw [ev_2]; exact hI 0 48
    have q_4 : (fp_36 0 48).toInt = v_2.toInt := by rw [ev_2]
    obtain ⟨v_5, ev_5⟩ : ∃ z : Int32, z = fp_36 0 49 := ⟨_, rfl⟩
    have q_6 : 0 ≤ v_5.toInt ∧ v_5.toInt ≤ 7 := by rw [ev_5]; exact hI 0 49
    have q_7 : (fp_36 0 49).toInt = v_5.toInt := by rw [ev_5]
    have m_8 : fp_36 0 49 = 7 := (hF 0 49 (by decide)).trans hf_0_49
    refine lv_aload_n hx hb dX12_slipsAs_36 rfl (lv_at hl 0 rfl) ?_
    refine lv_bipush (v := 50) hx hb dX12_slipsAs_37 (by decide) ?_
    have c_9 : v_2 = 6 := Int32.toInt_inj.mp (by have k9 : (6 : Int32).toInt = 6 := (by decide); omega)
    have q_10 : (fp_36 0 48).toInt = 6 := (congrArg Int32.toInt (show fp_36 0 48 = 6 from (Eq.trans ev_2.symm c_9))).trans (by decide)
    have q_11 : (fp_36 0 48).toInt = 6 := (congrArg Int32.toInt (show fp_36 0 48 = 6 from (Eq.trans ev_2.symm c_9))).trans (by decide)
    refine sg_callv (va_runV (As := [.int 50]) (rest := []) ⟨hx, hb, hml, hown, hts⟩ (kX12_begins_50_f6 l D ca za h hh fp_36 L Q hI (Eq.trans ev_2.symm c_9) (by have k0 : (50 : Int32).toInt = 50 := (by decide); omega) H.size) (cwV 1 hts (gw_V (fun _ h => List.mem_cons_of_mem _ h) mw_734 mw_735 mw_736 mw_619 mw_733) rfl rfl rfl (by decide +kernel) ⟨Nat.le_of_ble_eq_true rfl, Nat.le_of_ble_eq_true rfl⟩) (sg_preV (ci := 12) (C := RX12) (T := TX12) (N := 55) hA hK hP hS hZ 0 (by decide) rfl rfl) rfl rfl hl.1 rfl (lv_room (Nat.le_of_ble_eq_true rfl)) dX12_slipsAs_39 ⟨Nat.le_refl _, Nat.le_refl _⟩) hA hS (fun f_12 L_13 Q_14 H locs hq hP hS => ?_)
    obtain ⟨⟨hI, hk_f_12, eL9, eQ9⟩, p_15⟩ := hq
    rw [eL9, eQ9] at hP; clear eL9 eQ9
    have hF : sgK WkX12_slipsAs_7_f6_f7 f f_12 := sgK.tr hF hk_f_12 (by decide)
    obtain ⟨v_16, ev_16⟩ : ∃ z : Int32, z = f_12 0 48 := ⟨_, rfl⟩
    have q_17 : 0 ≤ v_16.toInt ∧ v_16.toInt ≤ 19 := by rw [ev_16]; exact hI 0 48
    have q_18 : (f_12 0 48).toInt = v_16.toInt := (congrArg Int32.toInt (show f_12 0 48 = v_16 from ev_16.symm))
    have q_19 : (f_12 0 48).toInt = v_16.toInt := (congrArg Int32.toInt (show f_12 0 48 = v_16 from ev_16.symm))
    refine lv_aload_n hx hb dX12_slipsAs_42 rfl (lv_at hl 0 rfl) ?_
    refine lv_iconst (v := 1) hx hb dX12_slipsAs_43 (by decide) ?_
    refine lv_iload_n hx hb dX12_slipsAs_44 rfl (lv_at hl 1 rfl) ?_
    have c_20 : v_16 = 7 := Int32.toInt_inj.mp (by have k9 : (7 : Int32).toInt = 7 := (by decide); omega)
    have q_21 : (f_12 0 48).toInt = 7 := (congrArg Int32.toInt (show f_12 0 48 = 7 from (Eq.trans ev_16.symm c_20))).trans (by decide)
    have q_22 : (f_12 0 48).toInt = 7 := (congrArg Int32.toInt (show f_12 0 48 = 7 from (Eq.trans ev_16.symm c_20))).trans (by decide)
    refine sg_calli (va_runV (As := [.int 1, .int x1]) (rest := []) ⟨hx, hb, hml, hown, hts⟩ (kX12_slipsAs_1_f7_f7 l D ca za h hh f_12 L Q hI x1 (Eq.trans ev_16.symm c_20) ((hk_f_12 0 49 (by decide)).trans m_8) (by omega) (by have k0 : (1 : Int32).toInt = 1 := (by decide); omega) H.size) (cwV 2 hts (gw_V (fun _ h => List.mem_cons_of_mem _ h) mw_748 mw_749 mw_750 mw_619 mw_747) rfl rfl rfl (by decide +kernel) ⟨Nat.le_of_ble_eq_true rfl, Nat.le_of_ble_eq_true rfl⟩) (sg_preV (ci := 12) (C := RX12) (T := TX12) (N := 55) hA hK hP hS hZ 0 (by decide) rfl rfl) rfl rfl hl.1 rfl (lv_room (Nat.le_of_ble_eq_true rfl)) dX12_slipsAs_45 ⟨Nat.le_refl _, Nat.le_refl _⟩) hA hS (fun r_26 f_23 L_24 Q_25 H locs hq hP hS => ?_)
    obtain ⟨⟨hI, hk_f_23, eL9, eQ9⟩, hq, p_27⟩ := hq
    rw [eL9, eQ9] at hP; clear eL9 eQ9
    have hF : sgK WkX12_slipsAs_7_f6_f7 f f_23 := sgK.tr hF hk_f_23 (by decide)
    obtain ⟨v_28, ev_28⟩ : ∃ z : Int32, z = f_23 0 48 := ⟨_, rfl⟩
    have q_29 : 0 ≤ v_28.toInt ∧ v_28.toInt ≤ 19 := by rw [ev_28]; exact hI 0 48
    have q_30 : (f_23 0 48).toInt = v_28.toInt := (congrArg Int32.toInt (show f_23 0 48 = v_28 from ev_28.symm))
    have q_31 : (f_23 0 48).toInt = v_28.toInt := (congrArg Int32.toInt (show f_23 0 48 = v_28 from ev_28.symm))
    have k_32 : (1 : Int32).toInt = 1 := by decide
    refine lv_istore_n (lv' := [(3, .int r_26), (0, .ref (h 0)), (2, .int x1)]) hx hb dX12_slipsAs_48 rfl hl (by decide) rfl (fun ls hl => ?_)
    refine lv_iload_n hx hb dX12_slipsAs_49 rfl (lv_at hl 0 rfl) ?_
    refine lv_aload_n hx hb dX12_slipsAs_50 rfl (lv_at hl 1 rfl) ?_
    refine lv_aload_n hx hb dX12_slipsAs_51 rfl (lv_at hl 1 rfl) ?_
    refine sg_get (ci := 12) (v := .int 7) (C := RX12) (T := TX12) (N := 55) hx hb hts (fun w h => List.mem_cons_of_mem _ (gx_12 w h)) hown hK hP 0 (by decide) rfl rfl 49 (by decide) (hts _ (List.mem_cons_of_mem _ mw_679)) (fun _ h9 => h9) (congrArg (fun z => some (Value.int z)) (show f_23 0 49 = 7 from ((hk_f_23 0 49 (by decide)).trans ((hk_f_12 0 49 (by decide)).trans m_8)))) dX12_slipsAs_52 ?_
    refine lv_iconst (v := 2) hx hb dX12_slipsAs_55 (by decide) ?_
    have c_33 : v_28 = 8 := Int32.toInt_inj.mp (by have k9 : (8 : Int32).toInt = 8 := (by decide); omega)
    have q_34 : (f_23 0 48).toInt = 8 := (congrArg Int32.toInt (show f_23 0 48 = 8 from (Eq.trans ev_28.symm c_33))).trans (by decide)
    have q_35 : (f_23 0 48).toInt = 8 := (congrArg Int32.toInt (show f_23 0 48 = 8 from (Eq.trans ev_28.symm c_33))).trans (by decide)
    refine sg_calli (va_runV (As := [.int 7, .int 2]) (rest := [.int r_26]) ⟨hx, hb, hml, hown, hts⟩ (kX12_setsAs_7_f8_f7 l D ca za h hh f_23 L Q hI 2 (Eq.trans ev_28.symm c_33) ((hk_f_23 0 49 (by decide)).trans ((hk_f_12 0 49 (by decide)).trans m_8)) (by decide) (by have k0 : (7 : Int32).toInt = 7 := (by decide); have k1 : (2 : Int32).toInt = 2 := (by decide); omega) H.size) (cwV 2 hts (gw_V (fun _ h => List.mem_cons_of_mem _ h) mw_744 mw_745 mw_746 mw_619 mw_743) rfl rfl rfl (by decide +kernel) ⟨Nat.le_of_ble_eq_true rfl, Nat.le_of_ble_eq_true rfl⟩) (sg_preV (ci := 12) (C := RX12) (T := TX12) (N := 55) hA hK hP hS hZ 0 (by decide) rfl rfl) rfl rfl hl.1 rfl (lv_room (Nat.le_of_ble_eq_true rfl)) dX12_slipsAs_56 ⟨Nat.le_refl _, Nat.le_refl _⟩) hA hS (fun r_39 f_36 L_37 Q_38 H locs hq hP hS => ?_)
    obtain ⟨⟨hI, hk_f_36, eL9, eQ9⟩, hq, p_40⟩ := hq
    rw [eL9, eQ9] at hP; clear eL9 eQ9
    have hF : sgK WkX12_slipsAs_7_f6_f7 f f_36 := sgK.tr hF hk_f_36 (by decide)
    obtain ⟨v_41, ev_41⟩ : ∃ z : Int32, z = f_36 0 48 := ⟨_, rfl⟩
    have q_42 : 0 ≤ v_41.toInt ∧ v_41.toInt ≤ 19 := by rw [ev_41]; exact hI 0 48
    have q_43 : (f_36 0 48).toInt = v_41.toInt := (congrArg Int32.toInt (show f_36 0 48 = v_41 from ev_41.symm))
    have q_44 : (f_36 0 48).toInt = v_41.toInt := (congrArg Int32.toInt (show f_36 0 48 = v_41 from ev_41.symm))
    have k_45 : (7 : Int32).toInt = 7 := by decide
    have k_46 : (2 : Int32).toInt = 2 := by decide
    refine lv_isub hx hb dX12_slipsAs_59 ?_
    refine lv_topi (fun v_47 ev_47 => ?_)
    have q_48 : (f_36 0 48).toInt = v_41.toInt := (congrArg Int32.toInt (show f_36 0 48 = v_41 from ev_41.symm))
    have q_49 : (f_36 0 48).toInt = v_41.toInt := (congrArg Int32.toInt (show f_36 0 48 = v_41 from ev_41.symm))
    exact hret _ _ _ _ (v_47) f_36 L Q dX12_slipsAs_60 hP hS ⟨⟨hI, hF, rfl, rfl⟩, trivial, (by omega)⟩
  refine lv_iload_n hx hb dX12_slipsAs_0 rfl (lv_at hl 1 rfl) ?_
  refine lv_iconst (v := 3) hx hb dX12_slipsAs_1 (by decide) ?_
  refine lv_icmp_eq (tgt := 10) hx hb dX12_slipsAs_2 (by decide) (fun c => absurd c (by decide)) (fun c => ?_)
  refine lv_iload_n hx hb dX12_slipsAs_5 rfl (lv_at hl 1 rfl) ?_
  refine lv_iconst (v := 5) hx hb dX12_slipsAs_6 (by decide) ?_
  refine lv_icmp_ne (tgt := 25) hx hb dX12_slipsAs_7 (by decide) (fun c => ?_) (fun c => absurd c (by decide))
  refine lv_iload_n hx hb dX12_slipsAs_25 rfl (lv_at hl 1 rfl) ?_
  refine lv_iconst (v := 4) hx hb dX12_slipsAs_26 (by decide) ?_
  refine lv_icmp_eq (tgt := 36) hx hb dX12_slipsAs_27 (by decide) (fun c => absurd c (by decide)) (fun c => ?_)
  refine lv_iload_n hx hb dX12_slipsAs_30 rfl (lv_at hl 1 rfl) ?_
  refine lv_bipush (v := 7) hx hb dX12_slipsAs_31 (by decide) ?_
  refine lv_icmp_ne (tgt := 61) hx hb dX12_slipsAs_33 (by decide) (fun c => absurd c (by decide)) (fun c => ?_)
  exact blk_36 f _ _ _ (by have zz0_48 : (f 0 48).toInt = 6 := (congrArg Int32.toInt (show f 0 48 = 6 from hf_0_48)).trans (by decide); omega) (by have zz0_49 : (f 0 49).toInt = 7 := (congrArg Int32.toInt (show f 0 49 = 7 from hf_0_49)).trans (by decide); omega) hI hF hP hS (lv_sub hl [0, 2] rfl)

abbrev WkX12_sitsAs_7_f2_f7 : List (Nat × Nat × Option Nat) := [(0, 0, some 48), (21, 21, none)]
set_option maxHeartbeats 4000000 in
set_option maxRecDepth 100000 in
theorem kX12_sitsAs_7_f2_f7 (l : Launch) (D : va_G) (ca : Nat → ClassId) (za h : Nat → Nat) (hh : sgH 26 h) (f : sg_F) (L : sg_L) (Q : sg_Q) (hI : sgI loM hiM f) (x1 : Int32) (hf_0_48 : f 0 48 = 2) (hf_0_49 : f 0 49 = 7) (p0 : 2 ≤ (f 0 48).toInt ∧ (f 0 48).toInt ≤ 2) (sz : Nat) : Met l yX12_sitsAs gwX12_sitsAs { frames := 4, cells := 0, slots := 0, locals := 88 } (sgP D vwCl (tyX ca) 26 h (eM ca h) zcM za f L Q sz [.ref (h 0), .int 7, .int x1]) (sgQi D vwCl 26 h (eM ca h) sz (fun r f1 L1 Q1 => ((sgI loM hiM f1 ∧ sgK WkX12_sitsAs_7_f2_f7 f f1 ∧ L1 = L ∧ Q1 = Q) ∧ True ∧ (10 ≤ (f1 0 48).toInt ∧ (f1 0 48).toInt ≤ 10)))) 0 0 (sgA 26 h sz) := by
  refine sg_ofWi (cc := cX12_sitsAs) (maxL := 4) RX12 (by decide) rfl rfl (Nat.le_of_ble_eq_true rfl) ?_
  intro p e s m below meth cd Qz ls hx hb hml hown hts hK hZ hP hS hl hret
  have hA := sgY.self (n := 26) (h := h) (sz := s.heap.size)
  have hl : lv_has ls 4 [(0, .ref (h 0)), (1, .int 7), (2, .int x1)] := hl
  obtain ⟨H, hH⟩ : ∃ z : Heap, z = s.heap := ⟨_, rfl⟩
  obtain ⟨locs, hlo⟩ : ∃ z : List Loc, z = [] := ⟨_, rfl⟩
  have hP : va_P D vwCl (sgw 26 h (eM ca h) f L Q) H := by rw [hH]; exact hP
  have hS : va_S (sgA 26 h s.heap.size) s.heap H locs := by rw [hH, hlo]; exact hS
  suffices hgo : W p l e ({ frames := 4, cells := 0, slots := 0, locals := 88 }) s m ([.ref (h 0), .int 7, .int x1] : List Value).toArray below meth cd H locs 0 0 Qz (F0 m 0 ls []) by rw [hH, hlo] at hgo; exact hgo
  clear hH hlo
  have o_1 : (f 0 48).toInt = 2 := (congrArg Int32.toInt (show f 0 48 = 2 from hf_0_48)).trans (by decide)
  have hF : sgK WkX12_sitsAs_7_f2_f7 f f := sgK.rf
  refine lv_iload_n hx hb dX12_sitsAs_0 rfl (lv_at hl 1 rfl) ?_
  refine lv_iconst (v := 3) hx hb dX12_sitsAs_1 (by decide) ?_
  refine lv_icmp_eq (tgt := 10) hx hb dX12_sitsAs_2 (by decide) (fun c => absurd c (by decide)) (fun c => ?_)
  refine lv_iload_n hx hb dX12_sitsAs_5 rfl (lv_at hl 1 rfl) ?_
  refine lv_iconst (v := 5) hx hb dX12_sitsAs_6 (by decide) ?_
  refine lv_icmp_ne (tgt := 25) hx hb dX12_sitsAs_7 (by decide) (fun c => ?_) (fun c => absurd c (by decide))
  refine lv_iload_n hx hb dX12_sitsAs_25 rfl (lv_at hl 1 rfl) ?_
  refine lv_iconst (v := 2) hx hb dX12_sitsAs_26 (by decide) ?_
  refine lv_icmp_ne (tgt := 44) hx hb dX12_sitsAs_27 (by decide) (fun c => ?_) (fun c => absurd c (by decide))
  refine lv_iload_n hx hb dX12_sitsAs_44 rfl (lv_at hl 1 rfl) ?_
  refine lv_bipush (v := 7) hx hb dX12_sitsAs_45 (by decide) ?_
  refine lv_icmp_ne (tgt := 75) hx hb dX12_sitsAs_47 (by decide) (fun c => absurd c (by decide)) (fun c => ?_)
  refine lv_aload_n hx hb dX12_sitsAs_50 rfl (lv_at hl 0 rfl) ?_
  refine lv_bipush (v := 80) hx hb dX12_sitsAs_51 (by decide) ?_
  have q_2 : (f 0 48).toInt = 2 := (congrArg Int32.toInt (show f 0 48 = 2 from hf_0_48)).trans (by decide)
  have q_3 : (f 0 48).toInt = 2 := (congrArg Int32.toInt (show f 0 48 = 2 from hf_0_48)).trans (by decide)
  refine sg_callv (va_runV (As := [.int 80]) (rest := []) ⟨hx, hb, hml, hown, hts⟩ (kX12_begins_80_f2 l D ca za h hh f L Q hI hf_0_48 (by have k0 : (80 : Int32).toInt = 80 := (by decide); omega) H.size) (cwV 1 hts (gw_V (fun _ h => List.mem_cons_of_mem _ h) mw_734 mw_735 mw_736 mw_619 mw_733) rfl rfl rfl (by decide +kernel) ⟨Nat.le_of_ble_eq_true rfl, Nat.le_of_ble_eq_true rfl⟩) (sg_preV (ci := 12) (C := RX12) (T := TX12) (N := 55) hA hK hP hS hZ 0 (by decide) rfl rfl) rfl rfl hl.1 rfl (lv_room (Nat.le_of_ble_eq_true rfl)) dX12_sitsAs_53 ⟨Nat.le_refl _, Nat.le_refl _⟩) hA hS (fun f_4 L_5 Q_6 H locs hq hP hS => ?_)
  obtain ⟨⟨hI, hk_f_4, eL9, eQ9⟩, p_7⟩ := hq
  rw [eL9, eQ9] at hP; clear eL9 eQ9
  have hF : sgK WkX12_sitsAs_7_f2_f7 f f_4 := sgK.tr hF hk_f_4 (by decide)
  obtain ⟨v_8, ev_8⟩ : ∃ z : Int32, z = f_4 0 48 := ⟨_, rfl⟩
  have q_9 : 0 ≤ v_8.toInt ∧ v_8.toInt ≤ 19 := by rw [ev_8]; exact hI 0 48
  have q_10 : (f_4 0 48).toInt = v_8.toInt := (congrArg Int32.toInt (show f_4 0 48 = v_8 from ev_8.symm))
  have q_11 : (f_4 0 48).toInt = v_8.toInt := (congrArg Int32.toInt (show f_4 0 48 = v_8 from ev_8.symm))
  refine lv_aload_n hx hb dX12_sitsAs_56 rfl (lv_at hl 0 rfl) ?_
  refine lv_iconst (v := 4) hx hb dX12_sitsAs_57 (by decide) ?_
  refine lv_iload_n hx hb dX12_sitsAs_58 rfl (lv_at hl 2 rfl) ?_
  have c_12 : v_8 = 3 := Int32.toInt_inj.mp (by have k9 : (3 : Int32).toInt = 3 := (by decide); omega)
  have q_13 : (f_4 0 48).toInt = 3 := (congrArg Int32.toInt (show f_4 0 48 = 3 from (Eq.trans ev_8.symm c_12))).trans (by decide)
  have q_14 : (f_4 0 48).toInt = 3 := (congrArg Int32.toInt (show f_4 0 48 = 3 from (Eq.trans ev_8.symm c_12))).trans (by decide)
  refine sg_calli (va_runV (As := [.int 4, .int x1]) (rest := []) ⟨hx, hb, hml, hown, hts⟩ (kX12_sitsAs_4_f3_f7 l D ca za h hh f_4 L Q hI x1 (Eq.trans ev_8.symm c_12) ((hk_f_4 0 49 (by decide)).trans hf_0_49) (by have k0 : (4 : Int32).toInt = 4 := (by decide); omega) H.size) (cwV 2 hts (gw_V (fun _ h => List.mem_cons_of_mem _ h) mw_801 mw_802 mw_803 mw_619 mw_800) rfl rfl rfl (by decide +kernel) ⟨Nat.le_of_ble_eq_true rfl, Nat.le_of_ble_eq_true rfl⟩) (sg_preV (ci := 12) (C := RX12) (T := TX12) (N := 55) hA hK hP hS hZ 0 (by decide) rfl rfl) rfl rfl hl.1 rfl (lv_room (Nat.le_of_ble_eq_true rfl)) dX12_sitsAs_59 ⟨Nat.le_refl _, Nat.le_refl _⟩) hA hS (fun r_18 f_15 L_16 Q_17 H locs hq hP hS => ?_)
  obtain ⟨⟨hI, hk_f_15, eL9, eQ9⟩, hq, p_19⟩ := hq
  rw [eL9, eQ9] at hP; clear eL9 eQ9
  have hF : sgK WkX12_sitsAs_7_f2_f7 f f_15 := sgK.tr hF hk_f_15 (by decide)
  obtain ⟨v_20, ev_20⟩ : ∃ z : Int32, z = f_15 0 48 := ⟨_, rfl⟩
  have q_21 : 0 ≤ v_20.toInt ∧ v_20.toInt ≤ 19 := by rw [ev_20]; exact hI 0 48
  have q_22 : (f_15 0 48).toInt = v_20.toInt := (congrArg Int32.toInt (show f_15 0 48 = v_20 from ev_20.symm))
  have q_23 : (f_15 0 48).toInt = v_20.toInt := (congrArg Int32.toInt (show f_15 0 48 = v_20 from ev_20.symm))
  have k_24 : (4 : Int32).toInt = 4 := by decide
  refine lv_istore_n (lv' := [(3, .int r_18), (0, .ref (h 0)), (1, .int 7), (2, .int x1)]) hx hb dX12_sitsAs_62 rfl hl (by decide) rfl (fun ls hl => ?_)
  refine lv_iload_n hx hb dX12_sitsAs_63 rfl (lv_at hl 0 rfl) ?_
  refine lv_aload_n hx hb dX12_sitsAs_64 rfl (lv_at hl 1 rfl) ?_
  refine lv_aload_n hx hb dX12_sitsAs_65 rfl (lv_at hl 1 rfl) ?_
  refine sg_get (ci := 12) (v := .int 7) (C := RX12) (T := TX12) (N := 55) hx hb hts (fun w h => List.mem_cons_of_mem _ (gx_12 w h)) hown hK hP 0 (by decide) rfl rfl 49 (by decide) (hts _ (List.mem_cons_of_mem _ mw_679)) (fun _ h9 => h9) (congrArg (fun z => some (Value.int z)) (show f_15 0 49 = 7 from ((hk_f_15 0 49 (by decide)).trans ((hk_f_4 0 49 (by decide)).trans hf_0_49)))) dX12_sitsAs_66 ?_
  refine lv_iconst (v := 2) hx hb dX12_sitsAs_69 (by decide) ?_
  have c_25 : v_20 = 6 := Int32.toInt_inj.mp (by have k9 : (6 : Int32).toInt = 6 := (by decide); omega)
  have q_26 : (f_15 0 48).toInt = 6 := (congrArg Int32.toInt (show f_15 0 48 = 6 from (Eq.trans ev_20.symm c_25))).trans (by decide)
  have q_27 : (f_15 0 48).toInt = 6 := (congrArg Int32.toInt (show f_15 0 48 = 6 from (Eq.trans ev_20.symm c_25))).trans (by decide)
  refine sg_calli (va_runV (As := [.int 7, .int 2]) (rest := [.int r_18]) ⟨hx, hb, hml, hown, hts⟩ (kX12_slipsAs_7_f6_f7 l D ca za h hh f_15 L Q hI 2 (Eq.trans ev_20.symm c_25) ((hk_f_15 0 49 (by decide)).trans ((hk_f_4 0 49 (by decide)).trans hf_0_49)) (by decide) (by have k0 : (7 : Int32).toInt = 7 := (by decide); have k1 : (2 : Int32).toInt = 2 := (by decide); omega) H.size) (cwV 2 hts (gw_V (fun _ h => List.mem_cons_of_mem _ h) mw_748 mw_749 mw_750 mw_619 mw_747) rfl rfl rfl (by decide +kernel) ⟨Nat.le_of_ble_eq_true rfl, Nat.le_of_ble_eq_true rfl⟩) (sg_preV (ci := 12) (C := RX12) (T := TX12) (N := 55) hA hK hP hS hZ 0 (by decide) rfl rfl) rfl rfl hl.1 rfl (lv_room (Nat.le_of_ble_eq_true rfl)) dX12_sitsAs_70 ⟨Nat.le_refl _, Nat.le_refl _⟩) hA hS (fun r_31 f_28 L_29 Q_30 H locs hq hP hS => ?_)
  obtain ⟨⟨hI, hk_f_28, eL9, eQ9⟩, hq, p_32⟩ := hq
  rw [eL9, eQ9] at hP; clear eL9 eQ9
  have hF : sgK WkX12_sitsAs_7_f2_f7 f f_28 := sgK.tr hF hk_f_28 (by decide)
  obtain ⟨v_33, ev_33⟩ : ∃ z : Int32, z = f_28 0 48 := ⟨_, rfl⟩
  have q_34 : 0 ≤ v_33.toInt ∧ v_33.toInt ≤ 19 := by rw [ev_33]; exact hI 0 48
  have q_35 : (f_28 0 48).toInt = v_33.toInt := (congrArg Int32.toInt (show f_28 0 48 = v_33 from ev_33.symm))
  have q_36 : (f_28 0 48).toInt = v_33.toInt := (congrArg Int32.toInt (show f_28 0 48 = v_33 from ev_33.symm))
  have k_37 : (7 : Int32).toInt = 7 := by decide
  have k_38 : (2 : Int32).toInt = 2 := by decide
  refine lv_iadd hx hb dX12_sitsAs_73 ?_
  refine lv_topi (fun v_39 ev_39 => ?_)
  have q_40 : (f_28 0 48).toInt = v_33.toInt := (congrArg Int32.toInt (show f_28 0 48 = v_33 from ev_33.symm))
  have q_41 : (f_28 0 48).toInt = v_33.toInt := (congrArg Int32.toInt (show f_28 0 48 = v_33 from ev_33.symm))
  exact hret _ _ _ _ (v_39) f_28 L Q dX12_sitsAs_74 hP hS ⟨⟨hI, hF, rfl, rfl⟩, trivial, (by omega)⟩

abbrev WkX12_begins_50_f10 : List (Nat × Nat × Option Nat) := [(0, 0, some 48), (21, 21, none)]
set_option maxHeartbeats 4000000 in
set_option maxRecDepth 100000 in
theorem kX12_begins_50_f10 (l : Launch) (D : va_G) (ca : Nat → ClassId) (za h : Nat → Nat) (hh : sgH 26 h) (f : sg_F) (L : sg_L) (Q : sg_Q) (hI : sgI loM hiM f) (hf_0_48 : f 0 48 = 10) (p0 : 10 ≤ (f 0 48).toInt ∧ (f 0 48).toInt ≤ 10) (sz : Nat) : Met l yX12_begins gwX12_begins { frames := 0, cells := 0, slots := 0, locals := 0 } (sgP D vwCl (tyX ca) 26 h (eM ca h) zcM za f L Q sz [.ref (h 0), .int 50]) (sgQv D vwCl 26 h (eM ca h) sz (fun f1 L1 Q1 => ((sgI loM hiM f1 ∧ sgK WkX12_begins_50_f10 f f1 ∧ L1 = L ∧ Q1 = Q) ∧ (11 ≤ (f1 0 48).toInt ∧ (f1 0 48).toInt ≤ 11)))) 0 0 (sgA 26 h sz) := by
  refine sg_ofWv (cc := cX12_begins) (maxL := 2) RX12 (by decide) rfl rfl (Nat.le_of_ble_eq_true rfl) ?_
  intro p e s m below meth cd Qz ls hx hb hml hown hts hK hZ hP hS hl hret
  have hA := sgY.self (n := 26) (h := h) (sz := s.heap.size)
  have hl : lv_has ls 2 [(0, .ref (h 0)), (1, .int 50)] := hl
  obtain ⟨H, hH⟩ : ∃ z : Heap, z = s.heap := ⟨_, rfl⟩
  obtain ⟨locs, hlo⟩ : ∃ z : List Loc, z = [] := ⟨_, rfl⟩
  have hP : va_P D vwCl (sgw 26 h (eM ca h) f L Q) H := by rw [hH]; exact hP
  have hS : va_S (sgA 26 h s.heap.size) s.heap H locs := by rw [hH, hlo]; exact hS
  suffices hgo : W p l e ({ frames := 0, cells := 0, slots := 0, locals := 0 }) s m ([.ref (h 0), .int 50] : List Value).toArray below meth cd H locs 0 0 Qz (F0 m 0 ls []) by rw [hH, hlo] at hgo; exact hgo
  clear hH hlo
  have o_1 : (f 0 48).toInt = 10 := (congrArg Int32.toInt (show f 0 48 = 10 from hf_0_48)).trans (by decide)
  have hF : sgK WkX12_begins_50_f10 f f := sgK.rf
  have blk_19 : ∀ (fp_19 : sg_F) (H : Heap) (locs : List Loc) (ls : Array Slot), 10 ≤ (fp_19 0 48).toInt ∧ (fp_19 0 48).toInt ≤ 10 → sgI loM hiM fp_19 → sgK WkX12_begins_50_f10 f fp_19 → va_P D vwCl (sgw 26 h (eM ca h) fp_19 L Q) H → va_S (sgA 26 h s.heap.size) s.heap H locs → lv_has ls 2 [(0, .ref (h 0))] → W p l e ({ frames := 0, cells := 0, slots := 0, locals := 0 }) s m ([.ref (h 0), .int 50] : List Value).toArray below meth cd H locs 0 0 Qz (F0 m 19 ls []) := by
    intro fp_19 H locs ls hy0_19 hI hF hP hS hl
    obtain ⟨v_2, ev_2⟩ : ∃ z : Int32, z = fp_19 0 48 := ⟨_, rfl⟩
    have q_3 : 0 ≤ v_2.toInt ∧ v_2.toInt ≤ 19 := by rw [ev_2]; exact hI 0 48
    have q_4 : (fp_19 0 48).toInt = v_2.toInt := by rw [ev_2]
    refine lv_aload_n hx hb dX12_begins_19 rfl (lv_at hl 0 rfl) ?_
    refine lv_dup hx hb dX12_begins_20 rfl ?_
    refine sg_get (ci := 12) (v := .int v_2) (C := RX12) (T := TX12) (N := 55) hx hb hts (fun w h => List.mem_cons_of_mem _ (gx_12 w h)) hown hK hP 0 (by decide) rfl rfl 48 (by decide) (hts _ (List.mem_cons_of_mem _ mw_621)) (fun _ h9 => h9) (congrArg (fun z => some (Value.int z)) (show fp_19 0 48 = v_2 from ev_2.symm)) dX12_begins_21 ?_
    refine lv_iconst (v := 1) hx hb dX12_begins_24 (by decide) ?_
    refine lv_iadd hx hb dX12_begins_25 ?_
    refine lv_topi (fun v_5 ev_5 => ?_)
    have q_6 : v_5.toInt = v_2.toInt + 1 := by rw [ev_5]; have k1 : (1 : Int32).toInt = 1 := (by decide); exact (bn_addI (by omega) (by omega)).trans (by omega)
    refine sg_put (ci := 12) (x := v_5) (ty := .int) (C := RX12) (T := TX12) (N := 55) hx hb hts (fun w h => List.mem_cons_of_mem _ (gx_12 w h)) tyX12 tyX12_ok nmX12 hown hh hA hK hP hS 0 (by decide) rfl rfl 48 (by decide) (hts _ (List.mem_cons_of_mem _ mw_621)) (fun _ h9 => h9) rfl rfl (by decide +kernel) rfl rfl (Nat.le_of_ble_eq_true rfl) dX12_begins_26 (fun f_7 H locs ef_7 hP hS => ?_)
    have hI : sgI loM hiM f_7 := by rw [ef_7]; exact sgI.put hI 0 48 (show 0 ≤ (v_5 : Int32).toInt ∧ (v_5 : Int32).toInt ≤ 19 from by omega)
    have hF : sgK WkX12_begins_50_f10 f f_7 := sgK.put hF ef_7 (by rfl)
    have q_8 : (f_7 0 48).toInt = v_5.toInt := (congrArg Int32.toInt (show f_7 0 48 = v_5 from (by rw [ef_7, sg_up_s, sgu_s])))
    have q_9 : (f_7 0 48).toInt = v_5.toInt := (congrArg Int32.toInt (show f_7 0 48 = v_5 from (by rw [ef_7, sg_up_s, sgu_s])))
    exact hret _ _ _ _ f_7 L Q dX12_begins_29 hP hS ⟨⟨hI, hF, rfl, rfl⟩, (by omega)⟩
  refine lv_aload_n hx hb dX12_begins_0 rfl (lv_at hl 0 rfl) ?_
  refine sg_get (ci := 12) (v := .int 10) (C := RX12) (T := TX12) (N := 55) hx hb hts (fun w h => List.mem_cons_of_mem _ (gx_12 w h)) hown hK hP 0 (by decide) rfl rfl 48 (by decide) (hts _ (List.mem_cons_of_mem _ mw_621)) (fun _ h9 => h9) (congrArg (fun z => some (Value.int z)) (show f 0 48 = 10 from hf_0_48)) dX12_begins_1 ?_
  refine lv_bipush (v := 24) hx hb dX12_begins_4 (by decide) ?_
  refine lv_icmp_ge (tgt := 19) hx hb dX12_begins_6 (by decide) (fun c => absurd c (by decide)) (fun c => ?_)
  refine lv_aload_n hx hb dX12_begins_9 rfl (lv_at hl 0 rfl) ?_
  refine sg_get (ci := 12) (v := .ref (h 21)) (C := RX12) (T := TX12) (N := 55) hx hb hts (fun w h => List.mem_cons_of_mem _ (gx_12 w h)) hown hK hP 0 (by decide) rfl rfl 47 (by decide) (hts _ (List.mem_cons_of_mem _ mw_718)) (fun _ h9 => h9) rfl dX12_begins_10 ?_
  refine lv_aload_n hx hb dX12_begins_13 rfl (lv_at hl 0 rfl) ?_
  refine sg_get (ci := 12) (v := .int 10) (C := RX12) (T := TX12) (N := 55) hx hb hts (fun w h => List.mem_cons_of_mem _ (gx_12 w h)) hown hK hP 0 (by decide) rfl rfl 48 (by decide) (hts _ (List.mem_cons_of_mem _ mw_621)) (fun _ h9 => h9) (congrArg (fun z => some (Value.int z)) (show f 0 48 = 10 from hf_0_48)) dX12_begins_14 ?_
  refine lv_iload_n hx hb dX12_begins_17 rfl (lv_at hl 1 rfl) ?_
  refine sg_iast hx hb hh hA hK hP hS 21 (by decide) 0 (fun _ => rfl) rfl (i := 10) (x := 50) (vp_in_iff.mpr (by decide)) dX12_begins_18 (fun f_10 H locs ef_10 hP hS => ?_)
  have hI : sgI loM hiM f_10 := by rw [ef_10]; exact sgI.put hI 21 (Int32.toNatClampNeg 10) (show 0 ≤ (50 : Int32).toInt ∧ (50 : Int32).toInt ≤ 81 from by decide)
  have hF : sgK WkX12_begins_50_f10 f f_10 := sgK.put hF ef_10 (by rfl)
  exact blk_19 f_10 _ _ _ (by have zz0_48 : (f_10 0 48).toInt = 10 := (congrArg Int32.toInt (show f_10 0 48 = 10 from (by rw [ef_10, sg_up_n (by decide)]; exact hf_0_48))).trans (by decide); omega) hI hF hP hS (lv_sub hl [0] rfl)

abbrev WkX12_begins_11_f11 : List (Nat × Nat × Option Nat) := [(0, 0, some 48), (21, 21, none)]
set_option maxHeartbeats 4000000 in
set_option maxRecDepth 100000 in
theorem kX12_begins_11_f11 (l : Launch) (D : va_G) (ca : Nat → ClassId) (za h : Nat → Nat) (hh : sgH 26 h) (f : sg_F) (L : sg_L) (Q : sg_Q) (hI : sgI loM hiM f) (hf_0_48 : f 0 48 = 11) (p0 : 11 ≤ (f 0 48).toInt ∧ (f 0 48).toInt ≤ 11) (sz : Nat) : Met l yX12_begins gwX12_begins { frames := 0, cells := 0, slots := 0, locals := 0 } (sgP D vwCl (tyX ca) 26 h (eM ca h) zcM za f L Q sz [.ref (h 0), .int 11]) (sgQv D vwCl 26 h (eM ca h) sz (fun f1 L1 Q1 => ((sgI loM hiM f1 ∧ sgK WkX12_begins_11_f11 f f1 ∧ L1 = L ∧ Q1 = Q) ∧ (12 ≤ (f1 0 48).toInt ∧ (f1 0 48).toInt ≤ 12)))) 0 0 (sgA 26 h sz) := by
  refine sg_ofWv (cc := cX12_begins) (maxL := 2) RX12 (by decide) rfl rfl (Nat.le_of_ble_eq_true rfl) ?_
  intro p e s m below meth cd Qz ls hx hb hml hown hts hK hZ hP hS hl hret
  have hA := sgY.self (n := 26) (h := h) (sz := s.heap.size)
  have hl : lv_has ls 2 [(0, .ref (h 0)), (1, .int 11)] := hl
  obtain ⟨H, hH⟩ : ∃ z : Heap, z = s.heap := ⟨_, rfl⟩
  obtain ⟨locs, hlo⟩ : ∃ z : List Loc, z = [] := ⟨_, rfl⟩
  have hP : va_P D vwCl (sgw 26 h (eM ca h) f L Q) H := by rw [hH]; exact hP
  have hS : va_S (sgA 26 h s.heap.size) s.heap H locs := by rw [hH, hlo]; exact hS
  suffices hgo : W p l e ({ frames := 0, cells := 0, slots := 0, locals := 0 }) s m ([.ref (h 0), .int 11] : List Value).toArray below meth cd H locs 0 0 Qz (F0 m 0 ls []) by rw [hH, hlo] at hgo; exact hgo
  clear hH hlo
  have o_1 : (f 0 48).toInt = 11 := (congrArg Int32.toInt (show f 0 48 = 11 from hf_0_48)).trans (by decide)
  have hF : sgK WkX12_begins_11_f11 f f := sgK.rf
  have blk_19 : ∀ (fp_19 : sg_F) (H : Heap) (locs : List Loc) (ls : Array Slot), 11 ≤ (fp_19 0 48).toInt ∧ (fp_19 0 48).toInt ≤ 11 → sgI loM hiM fp_19 → sgK WkX12_begins_11_f11 f fp_19 → va_P D vwCl (sgw 26 h (eM ca h) fp_19 L Q) H → va_S (sgA 26 h s.heap.size) s.heap H locs → lv_has ls 2 [(0, .ref (h 0))] → W p l e ({ frames := 0, cells := 0, slots := 0, locals := 0 }) s m ([.ref (h 0), .int 11] : List Value).toArray below meth cd H locs 0 0 Qz (F0 m 19 ls []) := by
    intro fp_19 H locs ls hy0_19 hI hF hP hS hl
    obtain ⟨v_2, ev_2⟩ : ∃ z : Int32, z = fp_19 0 48 := ⟨_, rfl⟩
    have q_3 : 0 ≤ v_2.toInt ∧ v_2.toInt ≤ 19 := by rw [ev_2]; exact hI 0 48
    have q_4 : (fp_19 0 48).toInt = v_2.toInt := by rw [ev_2]
    refine lv_aload_n hx hb dX12_begins_19 rfl (lv_at hl 0 rfl) ?_
    refine lv_dup hx hb dX12_begins_20 rfl ?_
    refine sg_get (ci := 12) (v := .int v_2) (C := RX12) (T := TX12) (N := 55) hx hb hts (fun w h => List.mem_cons_of_mem _ (gx_12 w h)) hown hK hP 0 (by decide) rfl rfl 48 (by decide) (hts _ (List.mem_cons_of_mem _ mw_621)) (fun _ h9 => h9) (congrArg (fun z => some (Value.int z)) (show fp_19 0 48 = v_2 from ev_2.symm)) dX12_begins_21 ?_
    refine lv_iconst (v := 1) hx hb dX12_begins_24 (by decide) ?_
    refine lv_iadd hx hb dX12_begins_25 ?_
    refine lv_topi (fun v_5 ev_5 => ?_)
    have q_6 : v_5.toInt = v_2.toInt + 1 := by rw [ev_5]; have k1 : (1 : Int32).toInt = 1 := (by decide); exact (bn_addI (by omega) (by omega)).trans (by omega)
    refine sg_put (ci := 12) (x := v_5) (ty := .int) (C := RX12) (T := TX12) (N := 55) hx hb hts (fun w h => List.mem_cons_of_mem _ (gx_12 w h)) tyX12 tyX12_ok nmX12 hown hh hA hK hP hS 0 (by decide) rfl rfl 48 (by decide) (hts _ (List.mem_cons_of_mem _ mw_621)) (fun _ h9 => h9) rfl rfl (by decide +kernel) rfl rfl (Nat.le_of_ble_eq_true rfl) dX12_begins_26 (fun f_7 H locs ef_7 hP hS => ?_)
    have hI : sgI loM hiM f_7 := by rw [ef_7]; exact sgI.put hI 0 48 (show 0 ≤ (v_5 : Int32).toInt ∧ (v_5 : Int32).toInt ≤ 19 from by omega)
    have hF : sgK WkX12_begins_11_f11 f f_7 := sgK.put hF ef_7 (by rfl)
    have q_8 : (f_7 0 48).toInt = v_5.toInt := (congrArg Int32.toInt (show f_7 0 48 = v_5 from (by rw [ef_7, sg_up_s, sgu_s])))
    have q_9 : (f_7 0 48).toInt = v_5.toInt := (congrArg Int32.toInt (show f_7 0 48 = v_5 from (by rw [ef_7, sg_up_s, sgu_s])))
    exact hret _ _ _ _ f_7 L Q dX12_begins_29 hP hS ⟨⟨hI, hF, rfl, rfl⟩, (by omega)⟩
  refine lv_aload_n hx hb dX12_begins_0 rfl (lv_at hl 0 rfl) ?_
  refine sg_get (ci := 12) (v := .int 11) (C := RX12) (T := TX12) (N := 55) hx hb hts (fun w h => List.mem_cons_of_mem _ (gx_12 w h)) hown hK hP 0 (by decide) rfl rfl 48 (by decide) (hts _ (List.mem_cons_of_mem _ mw_621)) (fun _ h9 => h9) (congrArg (fun z => some (Value.int z)) (show f 0 48 = 11 from hf_0_48)) dX12_begins_1 ?_
  refine lv_bipush (v := 24) hx hb dX12_begins_4 (by decide) ?_
  refine lv_icmp_ge (tgt := 19) hx hb dX12_begins_6 (by decide) (fun c => absurd c (by decide)) (fun c => ?_)
  refine lv_aload_n hx hb dX12_begins_9 rfl (lv_at hl 0 rfl) ?_
  refine sg_get (ci := 12) (v := .ref (h 21)) (C := RX12) (T := TX12) (N := 55) hx hb hts (fun w h => List.mem_cons_of_mem _ (gx_12 w h)) hown hK hP 0 (by decide) rfl rfl 47 (by decide) (hts _ (List.mem_cons_of_mem _ mw_718)) (fun _ h9 => h9) rfl dX12_begins_10 ?_
  refine lv_aload_n hx hb dX12_begins_13 rfl (lv_at hl 0 rfl) ?_
  refine sg_get (ci := 12) (v := .int 11) (C := RX12) (T := TX12) (N := 55) hx hb hts (fun w h => List.mem_cons_of_mem _ (gx_12 w h)) hown hK hP 0 (by decide) rfl rfl 48 (by decide) (hts _ (List.mem_cons_of_mem _ mw_621)) (fun _ h9 => h9) (congrArg (fun z => some (Value.int z)) (show f 0 48 = 11 from hf_0_48)) dX12_begins_14 ?_
  refine lv_iload_n hx hb dX12_begins_17 rfl (lv_at hl 1 rfl) ?_
  refine sg_iast hx hb hh hA hK hP hS 21 (by decide) 0 (fun _ => rfl) rfl (i := 11) (x := 11) (vp_in_iff.mpr (by decide)) dX12_begins_18 (fun f_10 H locs ef_10 hP hS => ?_)
  have hI : sgI loM hiM f_10 := by rw [ef_10]; exact sgI.put hI 21 (Int32.toNatClampNeg 11) (show 0 ≤ (11 : Int32).toInt ∧ (11 : Int32).toInt ≤ 81 from by decide)
  have hF : sgK WkX12_begins_11_f11 f f_10 := sgK.put hF ef_10 (by rfl)
  exact blk_19 f_10 _ _ _ (by have zz0_48 : (f_10 0 48).toInt = 11 := (congrArg Int32.toInt (show f_10 0 48 = 11 from (by rw [ef_10, sg_up_n (by decide)]; exact hf_0_48))).trans (by decide); omega) hI hF hP hS (lv_sub hl [0] rfl)

abbrev WkX12_slipsAs_1_f11_f7 : List (Nat × Nat × Option Nat) := [(0, 0, some 48), (21, 21, none)]
set_option maxHeartbeats 4000000 in
set_option maxRecDepth 100000 in
theorem kX12_slipsAs_1_f11_f7 (l : Launch) (D : va_G) (ca : Nat → ClassId) (za h : Nat → Nat) (hh : sgH 26 h) (f : sg_F) (L : sg_L) (Q : sg_Q) (hI : sgI loM hiM f) (x1 : Int32) (hf_0_48 : f 0 48 = 11) (hf_0_49 : f 0 49 = 7) (b1 : 1 ≤ x1.toInt ∧ x1.toInt ≤ 1) (p0 : 11 ≤ (f 0 48).toInt ∧ (f 0 48).toInt ≤ 11) (sz : Nat) : Met l yX12_slipsAs gwX12_slipsAs { frames := 1, cells := 0, slots := 0, locals := 21 } (sgP D vwCl (tyX ca) 26 h (eM ca h) zcM za f L Q sz [.ref (h 0), .int 1, .int x1]) (sgQi D vwCl 26 h (eM ca h) sz (fun r f1 L1 Q1 => ((sgI loM hiM f1 ∧ sgK WkX12_slipsAs_1_f11_f7 f f1 ∧ L1 = L ∧ Q1 = Q) ∧ True ∧ (12 ≤ (f1 0 48).toInt ∧ (f1 0 48).toInt ≤ 12)))) 0 0 (sgA 26 h sz) := by
  refine sg_ofWi (cc := cX12_slipsAs) (maxL := 4) RX12 (by decide) rfl rfl (Nat.le_of_ble_eq_true rfl) ?_
  intro p e s m below meth cd Qz ls hx hb hml hown hts hK hZ hP hS hl hret
  have hA := sgY.self (n := 26) (h := h) (sz := s.heap.size)
  have hl : lv_has ls 4 [(0, .ref (h 0)), (1, .int 1), (2, .int x1)] := hl
  obtain ⟨H, hH⟩ : ∃ z : Heap, z = s.heap := ⟨_, rfl⟩
  obtain ⟨locs, hlo⟩ : ∃ z : List Loc, z = [] := ⟨_, rfl⟩
  have hP : va_P D vwCl (sgw 26 h (eM ca h) f L Q) H := by rw [hH]; exact hP
  have hS : va_S (sgA 26 h s.heap.size) s.heap H locs := by rw [hH, hlo]; exact hS
  suffices hgo : W p l e ({ frames := 1, cells := 0, slots := 0, locals := 21 }) s m ([.ref (h 0), .int 1, .int x1] : List Value).toArray below meth cd H locs 0 0 Qz (F0 m 0 ls []) by rw [hH, hlo] at hgo; exact hgo
  clear hH hlo
  have o_1 : (f 0 48).toInt = 11 := (congrArg Int32.toInt (show f 0 48 = 11 from hf_0_48)).trans (by decide)
  have hF : sgK WkX12_slipsAs_1_f11_f7 f f := sgK.rf
  refine lv_iload_n hx hb dX12_slipsAs_0 rfl (lv_at hl 1 rfl) ?_
  refine lv_iconst (v := 3) hx hb dX12_slipsAs_1 (by decide) ?_
  refine lv_icmp_eq (tgt := 10) hx hb dX12_slipsAs_2 (by decide) (fun c => absurd c (by decide)) (fun c => ?_)
  refine lv_iload_n hx hb dX12_slipsAs_5 rfl (lv_at hl 1 rfl) ?_
  refine lv_iconst (v := 5) hx hb dX12_slipsAs_6 (by decide) ?_
  refine lv_icmp_ne (tgt := 25) hx hb dX12_slipsAs_7 (by decide) (fun c => ?_) (fun c => absurd c (by decide))
  refine lv_iload_n hx hb dX12_slipsAs_25 rfl (lv_at hl 1 rfl) ?_
  refine lv_iconst (v := 4) hx hb dX12_slipsAs_26 (by decide) ?_
  refine lv_icmp_eq (tgt := 36) hx hb dX12_slipsAs_27 (by decide) (fun c => absurd c (by decide)) (fun c => ?_)
  refine lv_iload_n hx hb dX12_slipsAs_30 rfl (lv_at hl 1 rfl) ?_
  refine lv_bipush (v := 7) hx hb dX12_slipsAs_31 (by decide) ?_
  refine lv_icmp_ne (tgt := 61) hx hb dX12_slipsAs_33 (by decide) (fun c => ?_) (fun c => absurd c (by decide))
  refine lv_aload_n hx hb dX12_slipsAs_61 rfl (lv_at hl 0 rfl) ?_
  refine lv_bipush (v := 11) hx hb dX12_slipsAs_62 (by decide) ?_
  have q_2 : (f 0 48).toInt = 11 := (congrArg Int32.toInt (show f 0 48 = 11 from hf_0_48)).trans (by decide)
  have q_3 : (f 0 48).toInt = 11 := (congrArg Int32.toInt (show f 0 48 = 11 from hf_0_48)).trans (by decide)
  refine sg_callv (va_runV (As := [.int 11]) (rest := []) ⟨hx, hb, hml, hown, hts⟩ (kX12_begins_11_f11 l D ca za h hh f L Q hI hf_0_48 (by have k0 : (11 : Int32).toInt = 11 := (by decide); omega) H.size) (cwV 1 hts (gw_V (fun _ h => List.mem_cons_of_mem _ h) mw_734 mw_735 mw_736 mw_619 mw_733) rfl rfl rfl (by decide +kernel) ⟨Nat.le_of_ble_eq_true rfl, Nat.le_of_ble_eq_true rfl⟩) (sg_preV (ci := 12) (C := RX12) (T := TX12) (N := 55) hA hK hP hS hZ 0 (by decide) rfl rfl) rfl rfl hl.1 rfl (lv_room (Nat.le_of_ble_eq_true rfl)) dX12_slipsAs_64 ⟨Nat.le_refl _, Nat.le_refl _⟩) hA hS (fun f_4 L_5 Q_6 H locs hq hP hS => ?_)
  obtain ⟨⟨hI, hk_f_4, eL9, eQ9⟩, p_7⟩ := hq
  rw [eL9, eQ9] at hP; clear eL9 eQ9
  have hF : sgK WkX12_slipsAs_1_f11_f7 f f_4 := sgK.tr hF hk_f_4 (by decide)
  obtain ⟨v_8, ev_8⟩ : ∃ z : Int32, z = f_4 0 48 := ⟨_, rfl⟩
  have q_9 : 0 ≤ v_8.toInt ∧ v_8.toInt ≤ 19 := by rw [ev_8]; exact hI 0 48
  have q_10 : (f_4 0 48).toInt = v_8.toInt := (congrArg Int32.toInt (show f_4 0 48 = v_8 from ev_8.symm))
  have q_11 : (f_4 0 48).toInt = v_8.toInt := (congrArg Int32.toInt (show f_4 0 48 = v_8 from ev_8.symm))
  refine lv_iload_n hx hb dX12_slipsAs_67 rfl (lv_at hl 2 rfl) ?_
  refine lv_aload_n hx hb dX12_slipsAs_68 rfl (lv_at hl 0 rfl) ?_
  refine sg_get (ci := 12) (v := .int (f_4 0 50)) (C := RX12) (T := TX12) (N := 55) hx hb hts (fun w h => List.mem_cons_of_mem _ (gx_12 w h)) hown hK hP 0 (by decide) rfl rfl 50 (by decide) (hts _ (List.mem_cons_of_mem _ mw_680)) (fun _ h9 => h9) rfl dX12_slipsAs_69 ?_
  refine lv_topi (fun v_12 ev_12 => ?_)
  have q_13 : 0 ≤ v_12.toInt ∧ v_12.toInt ≤ 49 := by rw [ev_12]; exact hI 0 50
  refine lv_ixor hx hb dX12_slipsAs_72 ?_
  refine lv_topi (fun v_14 ev_14 => ?_)
  have q_15 : (f_4 0 48).toInt = v_8.toInt := (congrArg Int32.toInt (show f_4 0 48 = v_8 from ev_8.symm))
  have q_16 : (f_4 0 48).toInt = v_8.toInt := (congrArg Int32.toInt (show f_4 0 48 = v_8 from ev_8.symm))
  exact hret _ _ _ _ (v_14) f_4 L Q dX12_slipsAs_73 hP hS ⟨⟨hI, hF, rfl, rfl⟩, trivial, (by omega)⟩

abbrev WkX12_begins_20_f12 : List (Nat × Nat × Option Nat) := [(0, 0, some 48), (21, 21, none)]
set_option maxHeartbeats 4000000 in
set_option maxRecDepth 100000 in
theorem kX12_begins_20_f12 (l : Launch) (D : va_G) (ca : Nat → ClassId) (za h : Nat → Nat) (hh : sgH 26 h) (f : sg_F) (L : sg_L) (Q : sg_Q) (hI : sgI loM hiM f) (hf_0_48 : f 0 48 = 12) (p0 : 12 ≤ (f 0 48).toInt ∧ (f 0 48).toInt ≤ 12) (sz : Nat) : Met l yX12_begins gwX12_begins { frames := 0, cells := 0, slots := 0, locals := 0 } (sgP D vwCl (tyX ca) 26 h (eM ca h) zcM za f L Q sz [.ref (h 0), .int 20]) (sgQv D vwCl 26 h (eM ca h) sz (fun f1 L1 Q1 => ((sgI loM hiM f1 ∧ sgK WkX12_begins_20_f12 f f1 ∧ L1 = L ∧ Q1 = Q) ∧ (13 ≤ (f1 0 48).toInt ∧ (f1 0 48).toInt ≤ 13)))) 0 0 (sgA 26 h sz) := by
  refine sg_ofWv (cc := cX12_begins) (maxL := 2) RX12 (by decide) rfl rfl (Nat.le_of_ble_eq_true rfl) ?_
  intro p e s m below meth cd Qz ls hx hb hml hown hts hK hZ hP hS hl hret
  have hA := sgY.self (n := 26) (h := h) (sz := s.heap.size)
  have hl : lv_has ls 2 [(0, .ref (h 0)), (1, .int 20)] := hl
  obtain ⟨H, hH⟩ : ∃ z : Heap, z = s.heap := ⟨_, rfl⟩
  obtain ⟨locs, hlo⟩ : ∃ z : List Loc, z = [] := ⟨_, rfl⟩
  have hP : va_P D vwCl (sgw 26 h (eM ca h) f L Q) H := by rw [hH]; exact hP
  have hS : va_S (sgA 26 h s.heap.size) s.heap H locs := by rw [hH, hlo]; exact hS
  suffices hgo : W p l e ({ frames := 0, cells := 0, slots := 0, locals := 0 }) s m ([.ref (h 0), .int 20] : List Value).toArray below meth cd H locs 0 0 Qz (F0 m 0 ls []) by rw [hH, hlo] at hgo; exact hgo
  clear hH hlo
  have o_1 : (f 0 48).toInt = 12 := (congrArg Int32.toInt (show f 0 48 = 12 from hf_0_48)).trans (by decide)
  have hF : sgK WkX12_begins_20_f12 f f := sgK.rf
  have blk_19 : ∀ (fp_19 : sg_F) (H : Heap) (locs : List Loc) (ls : Array Slot), 12 ≤ (fp_19 0 48).toInt ∧ (fp_19 0 48).toInt ≤ 12 → sgI loM hiM fp_19 → sgK WkX12_begins_20_f12 f fp_19 → va_P D vwCl (sgw 26 h (eM ca h) fp_19 L Q) H → va_S (sgA 26 h s.heap.size) s.heap H locs → lv_has ls 2 [(0, .ref (h 0))] → W p l e ({ frames := 0, cells := 0, slots := 0, locals := 0 }) s m ([.ref (h 0), .int 20] : List Value).toArray below meth cd H locs 0 0 Qz (F0 m 19 ls []) := by
    intro fp_19 H locs ls hy0_19 hI hF hP hS hl
    obtain ⟨v_2, ev_2⟩ : ∃ z : Int32, z = fp_19 0 48 := ⟨_, rfl⟩
    have q_3 : 0 ≤ v_2.toInt ∧ v_2.toInt ≤ 19 := by rw [ev_2]; exact hI 0 48
    have q_4 : (fp_19 0 48).toInt = v_2.toInt := by rw [ev_2]
    refine lv_aload_n hx hb dX12_begins_19 rfl (lv_at hl 0 rfl) ?_
    refine lv_dup hx hb dX12_begins_20 rfl ?_
    refine sg_get (ci := 12) (v := .int v_2) (C := RX12) (T := TX12) (N := 55) hx hb hts (fun w h => List.mem_cons_of_mem _ (gx_12 w h)) hown hK hP 0 (by decide) rfl rfl 48 (by decide) (hts _ (List.mem_cons_of_mem _ mw_621)) (fun _ h9 => h9) (congrArg (fun z => some (Value.int z)) (show fp_19 0 48 = v_2 from ev_2.symm)) dX12_begins_21 ?_
    refine lv_iconst (v := 1) hx hb dX12_begins_24 (by decide) ?_
    refine lv_iadd hx hb dX12_begins_25 ?_
    refine lv_topi (fun v_5 ev_5 => ?_)
    have q_6 : v_5.toInt = v_2.toInt + 1 := by rw [ev_5]; have k1 : (1 : Int32).toInt = 1 := (by decide); exact (bn_addI (by omega) (by omega)).trans (by omega)
    refine sg_put (ci := 12) (x := v_5) (ty := .int) (C := RX12) (T := TX12) (N := 55) hx hb hts (fun w h => List.mem_cons_of_mem _ (gx_12 w h)) tyX12 tyX12_ok nmX12 hown hh hA hK hP hS 0 (by decide) rfl rfl 48 (by decide) (hts _ (List.mem_cons_of_mem _ mw_621)) (fun _ h9 => h9) rfl rfl (by decide +kernel) rfl rfl (Nat.le_of_ble_eq_true rfl) dX12_begins_26 (fun f_7 H locs ef_7 hP hS => ?_)
    have hI : sgI loM hiM f_7 := by rw [ef_7]; exact sgI.put hI 0 48 (show 0 ≤ (v_5 : Int32).toInt ∧ (v_5 : Int32).toInt ≤ 19 from by omega)
    have hF : sgK WkX12_begins_20_f12 f f_7 := sgK.put hF ef_7 (by rfl)
    have q_8 : (f_7 0 48).toInt = v_5.toInt := (congrArg Int32.toInt (show f_7 0 48 = v_5 from (by rw [ef_7, sg_up_s, sgu_s])))
    have q_9 : (f_7 0 48).toInt = v_5.toInt := (congrArg Int32.toInt (show f_7 0 48 = v_5 from (by rw [ef_7, sg_up_s, sgu_s])))
    exact hret _ _ _ _ f_7 L Q dX12_begins_29 hP hS ⟨⟨hI, hF, rfl, rfl⟩, (by omega)⟩
  refine lv_aload_n hx hb dX12_begins_0 rfl (lv_at hl 0 rfl) ?_
  refine sg_get (ci := 12) (v := .int 12) (C := RX12) (T := TX12) (N := 55) hx hb hts (fun w h => List.mem_cons_of_mem _ (gx_12 w h)) hown hK hP 0 (by decide) rfl rfl 48 (by decide) (hts _ (List.mem_cons_of_mem _ mw_621)) (fun _ h9 => h9) (congrArg (fun z => some (Value.int z)) (show f 0 48 = 12 from hf_0_48)) dX12_begins_1 ?_
  refine lv_bipush (v := 24) hx hb dX12_begins_4 (by decide) ?_
  refine lv_icmp_ge (tgt := 19) hx hb dX12_begins_6 (by decide) (fun c => absurd c (by decide)) (fun c => ?_)
  refine lv_aload_n hx hb dX12_begins_9 rfl (lv_at hl 0 rfl) ?_
  refine sg_get (ci := 12) (v := .ref (h 21)) (C := RX12) (T := TX12) (N := 55) hx hb hts (fun w h => List.mem_cons_of_mem _ (gx_12 w h)) hown hK hP 0 (by decide) rfl rfl 47 (by decide) (hts _ (List.mem_cons_of_mem _ mw_718)) (fun _ h9 => h9) rfl dX12_begins_10 ?_
  refine lv_aload_n hx hb dX12_begins_13 rfl (lv_at hl 0 rfl) ?_
  refine sg_get (ci := 12) (v := .int 12) (C := RX12) (T := TX12) (N := 55) hx hb hts (fun w h => List.mem_cons_of_mem _ (gx_12 w h)) hown hK hP 0 (by decide) rfl rfl 48 (by decide) (hts _ (List.mem_cons_of_mem _ mw_621)) (fun _ h9 => h9) (congrArg (fun z => some (Value.int z)) (show f 0 48 = 12 from hf_0_48)) dX12_begins_14 ?_
  refine lv_iload_n hx hb dX12_begins_17 rfl (lv_at hl 1 rfl) ?_
  refine sg_iast hx hb hh hA hK hP hS 21 (by decide) 0 (fun _ => rfl) rfl (i := 12) (x := 20) (vp_in_iff.mpr (by decide)) dX12_begins_18 (fun f_10 H locs ef_10 hP hS => ?_)
  have hI : sgI loM hiM f_10 := by rw [ef_10]; exact sgI.put hI 21 (Int32.toNatClampNeg 12) (show 0 ≤ (20 : Int32).toInt ∧ (20 : Int32).toInt ≤ 81 from by decide)
  have hF : sgK WkX12_begins_20_f12 f f_10 := sgK.put hF ef_10 (by rfl)
  exact blk_19 f_10 _ _ _ (by have zz0_48 : (f_10 0 48).toInt = 12 := (congrArg Int32.toInt (show f_10 0 48 = 12 from (by rw [ef_10, sg_up_n (by decide)]; exact hf_0_48))).trans (by decide); omega) hI hF hP hS (lv_sub hl [0] rfl)

abbrev WkX12_begins_1_f13 : List (Nat × Nat × Option Nat) := [(0, 0, some 48), (21, 21, none)]
set_option maxHeartbeats 4000000 in
set_option maxRecDepth 100000 in
theorem kX12_begins_1_f13 (l : Launch) (D : va_G) (ca : Nat → ClassId) (za h : Nat → Nat) (hh : sgH 26 h) (f : sg_F) (L : sg_L) (Q : sg_Q) (hI : sgI loM hiM f) (hf_0_48 : f 0 48 = 13) (p0 : 13 ≤ (f 0 48).toInt ∧ (f 0 48).toInt ≤ 13) (sz : Nat) : Met l yX12_begins gwX12_begins { frames := 0, cells := 0, slots := 0, locals := 0 } (sgP D vwCl (tyX ca) 26 h (eM ca h) zcM za f L Q sz [.ref (h 0), .int 1]) (sgQv D vwCl 26 h (eM ca h) sz (fun f1 L1 Q1 => ((sgI loM hiM f1 ∧ sgK WkX12_begins_1_f13 f f1 ∧ L1 = L ∧ Q1 = Q) ∧ (14 ≤ (f1 0 48).toInt ∧ (f1 0 48).toInt ≤ 14)))) 0 0 (sgA 26 h sz) := by
  refine sg_ofWv (cc := cX12_begins) (maxL := 2) RX12 (by decide) rfl rfl (Nat.le_of_ble_eq_true rfl) ?_
  intro p e s m below meth cd Qz ls hx hb hml hown hts hK hZ hP hS hl hret
  have hA := sgY.self (n := 26) (h := h) (sz := s.heap.size)
  have hl : lv_has ls 2 [(0, .ref (h 0)), (1, .int 1)] := hl
  obtain ⟨H, hH⟩ : ∃ z : Heap, z = s.heap := ⟨_, rfl⟩
  obtain ⟨locs, hlo⟩ : ∃ z : List Loc, z = [] := ⟨_, rfl⟩
  have hP : va_P D vwCl (sgw 26 h (eM ca h) f L Q) H := by rw [hH]; exact hP
  have hS : va_S (sgA 26 h s.heap.size) s.heap H locs := by rw [hH, hlo]; exact hS
  suffices hgo : W p l e ({ frames := 0, cells := 0, slots := 0, locals := 0 }) s m ([.ref (h 0), .int 1] : List Value).toArray below meth cd H locs 0 0 Qz (F0 m 0 ls []) by rw [hH, hlo] at hgo; exact hgo
  clear hH hlo
  have o_1 : (f 0 48).toInt = 13 := (congrArg Int32.toInt (show f 0 48 = 13 from hf_0_48)).trans (by decide)
  have hF : sgK WkX12_begins_1_f13 f f := sgK.rf
  have blk_19 : ∀ (fp_19 : sg_F) (H : Heap) (locs : List Loc) (ls : Array Slot), 13 ≤ (fp_19 0 48).toInt ∧ (fp_19 0 48).toInt ≤ 13 → sgI loM hiM fp_19 → sgK WkX12_begins_1_f13 f fp_19 → va_P D vwCl (sgw 26 h (eM ca h) fp_19 L Q) H → va_S (sgA 26 h s.heap.size) s.heap H locs → lv_has ls 2 [(0, .ref (h 0))] → W p l e ({ frames := 0, cells := 0, slots := 0, locals := 0 }) s m ([.ref (h 0), .int 1] : List Value).toArray below meth cd H locs 0 0 Qz (F0 m 19 ls []) := by
    intro fp_19 H locs ls hy0_19 hI hF hP hS hl
    obtain ⟨v_2, ev_2⟩ : ∃ z : Int32, z = fp_19 0 48 := ⟨_, rfl⟩
    have q_3 : 0 ≤ v_2.toInt ∧ v_2.toInt ≤ 19 := by rw [ev_2]; exact hI 0 48
    have q_4 : (fp_19 0 48).toInt = v_2.toInt := by rw [ev_2]
    refine lv_aload_n hx hb dX12_begins_19 rfl (lv_at hl 0 rfl) ?_
    refine lv_dup hx hb dX12_begins_20 rfl ?_
    refine sg_get (ci := 12) (v := .int v_2) (C := RX12) (T := TX12) (N := 55) hx hb hts (fun w h => List.mem_cons_of_mem _ (gx_12 w h)) hown hK hP 0 (by decide) rfl rfl 48 (by decide) (hts _ (List.mem_cons_of_mem _ mw_621)) (fun _ h9 => h9) (congrArg (fun z => some (Value.int z)) (show fp_19 0 48 = v_2 from ev_2.symm)) dX12_begins_21 ?_
    refine lv_iconst (v := 1) hx hb dX12_begins_24 (by decide) ?_
    refine lv_iadd hx hb dX12_begins_25 ?_
    refine lv_topi (fun v_5 ev_5 => ?_)
    have q_6 : v_5.toInt = v_2.toInt + 1 := by rw [ev_5]; have k1 : (1 : Int32).toInt = 1 := (by decide); exact (bn_addI (by omega) (by omega)).trans (by omega)
    refine sg_put (ci := 12) (x := v_5) (ty := .int) (C := RX12) (T := TX12) (N := 55) hx hb hts (fun w h => List.mem_cons_of_mem _ (gx_12 w h)) tyX12 tyX12_ok nmX12 hown hh hA hK hP hS 0 (by decide) rfl rfl 48 (by decide) (hts _ (List.mem_cons_of_mem _ mw_621)) (fun _ h9 => h9) rfl rfl (by decide +kernel) rfl rfl (Nat.le_of_ble_eq_true rfl) dX12_begins_26 (fun f_7 H locs ef_7 hP hS => ?_)
    have hI : sgI loM hiM f_7 := by rw [ef_7]; exact sgI.put hI 0 48 (show 0 ≤ (v_5 : Int32).toInt ∧ (v_5 : Int32).toInt ≤ 19 from by omega)
    have hF : sgK WkX12_begins_1_f13 f f_7 := sgK.put hF ef_7 (by rfl)
    have q_8 : (f_7 0 48).toInt = v_5.toInt := (congrArg Int32.toInt (show f_7 0 48 = v_5 from (by rw [ef_7, sg_up_s, sgu_s])))
    have q_9 : (f_7 0 48).toInt = v_5.toInt := (congrArg Int32.toInt (show f_7 0 48 = v_5 from (by rw [ef_7, sg_up_s, sgu_s])))
    exact hret _ _ _ _ f_7 L Q dX12_begins_29 hP hS ⟨⟨hI, hF, rfl, rfl⟩, (by omega)⟩
  refine lv_aload_n hx hb dX12_begins_0 rfl (lv_at hl 0 rfl) ?_
  refine sg_get (ci := 12) (v := .int 13) (C := RX12) (T := TX12) (N := 55) hx hb hts (fun w h => List.mem_cons_of_mem _ (gx_12 w h)) hown hK hP 0 (by decide) rfl rfl 48 (by decide) (hts _ (List.mem_cons_of_mem _ mw_621)) (fun _ h9 => h9) (congrArg (fun z => some (Value.int z)) (show f 0 48 = 13 from hf_0_48)) dX12_begins_1 ?_
  refine lv_bipush (v := 24) hx hb dX12_begins_4 (by decide) ?_
  refine lv_icmp_ge (tgt := 19) hx hb dX12_begins_6 (by decide) (fun c => absurd c (by decide)) (fun c => ?_)
  refine lv_aload_n hx hb dX12_begins_9 rfl (lv_at hl 0 rfl) ?_
  refine sg_get (ci := 12) (v := .ref (h 21)) (C := RX12) (T := TX12) (N := 55) hx hb hts (fun w h => List.mem_cons_of_mem _ (gx_12 w h)) hown hK hP 0 (by decide) rfl rfl 47 (by decide) (hts _ (List.mem_cons_of_mem _ mw_718)) (fun _ h9 => h9) rfl dX12_begins_10 ?_
  refine lv_aload_n hx hb dX12_begins_13 rfl (lv_at hl 0 rfl) ?_
  refine sg_get (ci := 12) (v := .int 13) (C := RX12) (T := TX12) (N := 55) hx hb hts (fun w h => List.mem_cons_of_mem _ (gx_12 w h)) hown hK hP 0 (by decide) rfl rfl 48 (by decide) (hts _ (List.mem_cons_of_mem _ mw_621)) (fun _ h9 => h9) (congrArg (fun z => some (Value.int z)) (show f 0 48 = 13 from hf_0_48)) dX12_begins_14 ?_
  refine lv_iload_n hx hb dX12_begins_17 rfl (lv_at hl 1 rfl) ?_
  refine sg_iast hx hb hh hA hK hP hS 21 (by decide) 0 (fun _ => rfl) rfl (i := 13) (x := 1) (vp_in_iff.mpr (by decide)) dX12_begins_18 (fun f_10 H locs ef_10 hP hS => ?_)
  have hI : sgI loM hiM f_10 := by rw [ef_10]; exact sgI.put hI 21 (Int32.toNatClampNeg 13) (show 0 ≤ (1 : Int32).toInt ∧ (1 : Int32).toInt ≤ 81 from by decide)
  have hF : sgK WkX12_begins_1_f13 f f_10 := sgK.put hF ef_10 (by rfl)
  exact blk_19 f_10 _ _ _ (by have zz0_48 : (f_10 0 48).toInt = 13 := (congrArg Int32.toInt (show f_10 0 48 = 13 from (by rw [ef_10, sg_up_n (by decide)]; exact hf_0_48))).trans (by decide); omega) hI hF hP hS (lv_sub hl [0] rfl)

abbrev WkX12_setsAs_0_f13_f7 : List (Nat × Nat × Option Nat) := [(0, 0, some 48), (21, 21, none)]
set_option maxHeartbeats 4000000 in
set_option maxRecDepth 100000 in
theorem kX12_setsAs_0_f13_f7 (l : Launch) (D : va_G) (ca : Nat → ClassId) (za h : Nat → Nat) (hh : sgH 26 h) (f : sg_F) (L : sg_L) (Q : sg_Q) (hI : sgI loM hiM f) (x1 : Int32) (hf_0_48 : f 0 48 = 13) (hf_0_49 : f 0 49 = 7) (b1 : 2 ≤ x1.toInt ∧ x1.toInt ≤ 2) (p0 : 13 ≤ (f 0 48).toInt ∧ (f 0 48).toInt ≤ 13) (sz : Nat) : Met l yX12_setsAs gwX12_setsAs { frames := 1, cells := 0, slots := 0, locals := 21 } (sgP D vwCl (tyX ca) 26 h (eM ca h) zcM za f L Q sz [.ref (h 0), .int 0, .int x1]) (sgQi D vwCl 26 h (eM ca h) sz (fun r f1 L1 Q1 => ((sgI loM hiM f1 ∧ sgK WkX12_setsAs_0_f13_f7 f f1 ∧ L1 = L ∧ Q1 = Q) ∧ (2 ≤ r.toInt ∧ r.toInt ≤ 51) ∧ (14 ≤ (f1 0 48).toInt ∧ (f1 0 48).toInt ≤ 14)))) 0 0 (sgA 26 h sz) := by
  refine sg_ofWi (cc := cX12_setsAs) (maxL := 3) RX12 (by decide) rfl rfl (Nat.le_of_ble_eq_true rfl) ?_
  intro p e s m below meth cd Qz ls hx hb hml hown hts hK hZ hP hS hl hret
  have hA := sgY.self (n := 26) (h := h) (sz := s.heap.size)
  have hl : lv_has ls 3 [(0, .ref (h 0)), (1, .int 0), (2, .int x1)] := hl
  obtain ⟨H, hH⟩ : ∃ z : Heap, z = s.heap := ⟨_, rfl⟩
  obtain ⟨locs, hlo⟩ : ∃ z : List Loc, z = [] := ⟨_, rfl⟩
  have hP : va_P D vwCl (sgw 26 h (eM ca h) f L Q) H := by rw [hH]; exact hP
  have hS : va_S (sgA 26 h s.heap.size) s.heap H locs := by rw [hH, hlo]; exact hS
  suffices hgo : W p l e ({ frames := 1, cells := 0, slots := 0, locals := 21 }) s m ([.ref (h 0), .int 0, .int x1] : List Value).toArray below meth cd H locs 0 0 Qz (F0 m 0 ls []) by rw [hH, hlo] at hgo; exact hgo
  clear hH hlo
  have o_1 : (f 0 48).toInt = 13 := (congrArg Int32.toInt (show f 0 48 = 13 from hf_0_48)).trans (by decide)
  have hF : sgK WkX12_setsAs_0_f13_f7 f f := sgK.rf
  refine lv_iload_n hx hb dX12_setsAs_0 rfl (lv_at hl 1 rfl) ?_
  refine lv_iconst (v := 1) hx hb dX12_setsAs_1 (by decide) ?_
  refine lv_icmp_eq (tgt := 16) hx hb dX12_setsAs_2 (by decide) (fun c => absurd c (by decide)) (fun c => ?_)
  refine lv_iload_n hx hb dX12_setsAs_5 rfl (lv_at hl 1 rfl) ?_
  refine lv_iconst (v := 4) hx hb dX12_setsAs_6 (by decide) ?_
  refine lv_icmp_eq (tgt := 16) hx hb dX12_setsAs_7 (by decide) (fun c => absurd c (by decide)) (fun c => ?_)
  refine lv_iload_n hx hb dX12_setsAs_10 rfl (lv_at hl 1 rfl) ?_
  refine lv_bipush (v := 7) hx hb dX12_setsAs_11 (by decide) ?_
  refine lv_icmp_ne (tgt := 31) hx hb dX12_setsAs_13 (by decide) (fun c => ?_) (fun c => absurd c (by decide))
  refine lv_iload_n hx hb dX12_setsAs_31 rfl (lv_at hl 1 rfl) ?_
  refine lv_bipush (v := 6) hx hb dX12_setsAs_32 (by decide) ?_
  refine lv_icmp_ne (tgt := 52) hx hb dX12_setsAs_34 (by decide) (fun c => ?_) (fun c => absurd c (by decide))
  refine lv_aload_n hx hb dX12_setsAs_52 rfl (lv_at hl 0 rfl) ?_
  refine lv_iconst (v := 1) hx hb dX12_setsAs_53 (by decide) ?_
  have q_2 : (f 0 48).toInt = 13 := (congrArg Int32.toInt (show f 0 48 = 13 from hf_0_48)).trans (by decide)
  have q_3 : (f 0 48).toInt = 13 := (congrArg Int32.toInt (show f 0 48 = 13 from hf_0_48)).trans (by decide)
  refine sg_callv (va_runV (As := [.int 1]) (rest := []) ⟨hx, hb, hml, hown, hts⟩ (kX12_begins_1_f13 l D ca za h hh f L Q hI hf_0_48 (by have k0 : (1 : Int32).toInt = 1 := (by decide); omega) H.size) (cwV 1 hts (gw_V (fun _ h => List.mem_cons_of_mem _ h) mw_734 mw_735 mw_736 mw_619 mw_733) rfl rfl rfl (by decide +kernel) ⟨Nat.le_of_ble_eq_true rfl, Nat.le_of_ble_eq_true rfl⟩) (sg_preV (ci := 12) (C := RX12) (T := TX12) (N := 55) hA hK hP hS hZ 0 (by decide) rfl rfl) rfl rfl hl.1 rfl (lv_room (Nat.le_of_ble_eq_true rfl)) dX12_setsAs_54 ⟨Nat.le_refl _, Nat.le_refl _⟩) hA hS (fun f_4 L_5 Q_6 H locs hq hP hS => ?_)
  obtain ⟨⟨hI, hk_f_4, eL9, eQ9⟩, p_7⟩ := hq
  rw [eL9, eQ9] at hP; clear eL9 eQ9
  have hF : sgK WkX12_setsAs_0_f13_f7 f f_4 := sgK.tr hF hk_f_4 (by decide)
  obtain ⟨v_8, ev_8⟩ : ∃ z : Int32, z = f_4 0 48 := ⟨_, rfl⟩
  have q_9 : 0 ≤ v_8.toInt ∧ v_8.toInt ≤ 19 := by rw [ev_8]; exact hI 0 48
  have q_10 : (f_4 0 48).toInt = v_8.toInt := (congrArg Int32.toInt (show f_4 0 48 = v_8 from ev_8.symm))
  have q_11 : (f_4 0 48).toInt = v_8.toInt := (congrArg Int32.toInt (show f_4 0 48 = v_8 from ev_8.symm))
  refine lv_iload_n hx hb dX12_setsAs_57 rfl (lv_at hl 2 rfl) ?_
  refine lv_aload_n hx hb dX12_setsAs_58 rfl (lv_at hl 0 rfl) ?_
  refine sg_get (ci := 12) (v := .int (f_4 0 50)) (C := RX12) (T := TX12) (N := 55) hx hb hts (fun w h => List.mem_cons_of_mem _ (gx_12 w h)) hown hK hP 0 (by decide) rfl rfl 50 (by decide) (hts _ (List.mem_cons_of_mem _ mw_680)) (fun _ h9 => h9) rfl dX12_setsAs_59 ?_
  refine lv_topi (fun v_12 ev_12 => ?_)
  have q_13 : 0 ≤ v_12.toInt ∧ v_12.toInt ≤ 49 := by rw [ev_12]; exact hI 0 50
  refine lv_iadd hx hb dX12_setsAs_62 ?_
  refine lv_topi (fun v_14 ev_14 => ?_)
  have q_15 : v_14.toInt = x1.toInt + v_12.toInt := by rw [ev_14]; exact (bn_addI (by omega) (by omega)).trans (by omega)
  have q_16 : (f_4 0 48).toInt = v_8.toInt := (congrArg Int32.toInt (show f_4 0 48 = v_8 from ev_8.symm))
  have q_17 : (f_4 0 48).toInt = v_8.toInt := (congrArg Int32.toInt (show f_4 0 48 = v_8 from ev_8.symm))
  exact hret _ _ _ _ (v_14) f_4 L Q dX12_setsAs_63 hP hS ⟨⟨hI, hF, rfl, rfl⟩, (by omega), (by omega)⟩

abbrev WkX12_setsAs_7_f12_f7 : List (Nat × Nat × Option Nat) := [(0, 0, some 48), (21, 21, none)]
set_option maxHeartbeats 4000000 in
set_option maxRecDepth 100000 in
theorem kX12_setsAs_7_f12_f7 (l : Launch) (D : va_G) (ca : Nat → ClassId) (za h : Nat → Nat) (hh : sgH 26 h) (f : sg_F) (L : sg_L) (Q : sg_Q) (hI : sgI loM hiM f) (x1 : Int32) (hf_0_48 : f 0 48 = 12) (hf_0_49 : f 0 49 = 7) (b1 : 2 ≤ x1.toInt ∧ x1.toInt ≤ 2) (p0 : 12 ≤ (f 0 48).toInt ∧ (f 0 48).toInt ≤ 12) (sz : Nat) : Met l yX12_setsAs gwX12_setsAs { frames := 2, cells := 0, slots := 0, locals := 43 } (sgP D vwCl (tyX ca) 26 h (eM ca h) zcM za f L Q sz [.ref (h 0), .int 7, .int x1]) (sgQi D vwCl 26 h (eM ca h) sz (fun r f1 L1 Q1 => ((sgI loM hiM f1 ∧ sgK WkX12_setsAs_7_f12_f7 f f1 ∧ L1 = L ∧ Q1 = Q) ∧ (5 ≤ r.toInt ∧ r.toInt ≤ 54) ∧ (14 ≤ (f1 0 48).toInt ∧ (f1 0 48).toInt ≤ 14)))) 0 0 (sgA 26 h sz) := by
  refine sg_ofWi (cc := cX12_setsAs) (maxL := 3) RX12 (by decide) rfl rfl (Nat.le_of_ble_eq_true rfl) ?_
  intro p e s m below meth cd Qz ls hx hb hml hown hts hK hZ hP hS hl hret
  have hA := sgY.self (n := 26) (h := h) (sz := s.heap.size)
  have hl : lv_has ls 3 [(0, .ref (h 0)), (1, .int 7), (2, .int x1)] := hl
  obtain ⟨H, hH⟩ : ∃ z : Heap, z = s.heap := ⟨_, rfl⟩
  obtain ⟨locs, hlo⟩ : ∃ z : List Loc, z = [] := ⟨_, rfl⟩
  have hP : va_P D vwCl (sgw 26 h (eM ca h) f L Q) H := by rw [hH]; exact hP
  have hS : va_S (sgA 26 h s.heap.size) s.heap H locs := by rw [hH, hlo]; exact hS
  suffices hgo : W p l e ({ frames := 2, cells := 0, slots := 0, locals := 43 }) s m ([.ref (h 0), .int 7, .int x1] : List Value).toArray below meth cd H locs 0 0 Qz (F0 m 0 ls []) by rw [hH, hlo] at hgo; exact hgo
  clear hH hlo
  have o_1 : (f 0 48).toInt = 12 := (congrArg Int32.toInt (show f 0 48 = 12 from hf_0_48)).trans (by decide)
  have hF : sgK WkX12_setsAs_7_f12_f7 f f := sgK.rf
  have blk_16 : ∀ (fp_16 : sg_F) (H : Heap) (locs : List Loc) (ls : Array Slot), 12 ≤ (fp_16 0 48).toInt ∧ (fp_16 0 48).toInt ≤ 12 → 7 ≤ (fp_16 0 49).toInt ∧ (fp_16 0 49).toInt ≤ 7 → sgI loM hiM fp_16 → sgK WkX12_setsAs_7_f12_f7 f fp_16 → va_P D vwCl (sgw 26 h (eM ca h) fp_16 L Q) H → va_S (sgA 26 h s.heap.size) s.heap H locs → lv_has ls 3 [(0, .ref (h 0)), (2, .int x1)] → W p l e ({ frames := 2, cells := 0, slots := 0, locals := 43 }) s m ([.ref (h 0), .int 7, .int x1] : List Value).toArray below meth cd H locs 0 0 Qz (F0 m 16 ls []) := by
    intro fp_16 H locs ls hy0_16 hy1_16 hI hF hP hS hl
    obtain ⟨v_2, ev_2⟩ : ∃ z : Int32, z = fp_16 0 48 := ⟨_, rfl⟩
    have q_3 : 0 ≤ v_2.toInt ∧ v_2.toInt ≤ 19 := by rw [ev_2]; exact hI 0 48
    have q_4 : (fp_16 0 48).toInt = v_2.toInt := by rw [ev_2]
    obtain ⟨v_5, ev_5⟩ : ∃ z : Int32, z = fp_16 0 49 := ⟨_, rfl⟩
    have q_6 : 0 ≤ v_5.toInt ∧ v_5.toInt ≤ 7 := by rw [ev_5]; exact hI 0 49
    have q_7 : (fp_16 0 49).toInt = v_5.toInt := by rw [ev_5]
    have m_8 : fp_16 0 49 = 7 := (hF 0 49 (by decide)).trans hf_0_49
    refine lv_aload_n hx hb dX12_setsAs_16 rfl (lv_at hl 0 rfl) ?_
    refine lv_bipush (v := 20) hx hb dX12_setsAs_17 (by decide) ?_
    have c_9 : v_2 = 12 := Int32.toInt_inj.mp (by have k9 : (12 : Int32).toInt = 12 := (by decide); omega)
    have q_10 : (fp_16 0 48).toInt = 12 := (congrArg Int32.toInt (show fp_16 0 48 = 12 from (Eq.trans ev_2.symm c_9))).trans (by decide)
    have q_11 : (fp_16 0 48).toInt = 12 := (congrArg Int32.toInt (show fp_16 0 48 = 12 from (Eq.trans ev_2.symm c_9))).trans (by decide)
    refine sg_callv (va_runV (As := [.int 20]) (rest := []) ⟨hx, hb, hml, hown, hts⟩ (kX12_begins_20_f12 l D ca za h hh fp_16 L Q hI (Eq.trans ev_2.symm c_9) (by have k0 : (20 : Int32).toInt = 20 := (by decide); omega) H.size) (cwV 1 hts (gw_V (fun _ h => List.mem_cons_of_mem _ h) mw_734 mw_735 mw_736 mw_619 mw_733) rfl rfl rfl (by decide +kernel) ⟨Nat.le_of_ble_eq_true rfl, Nat.le_of_ble_eq_true rfl⟩) (sg_preV (ci := 12) (C := RX12) (T := TX12) (N := 55) hA hK hP hS hZ 0 (by decide) rfl rfl) rfl rfl hl.1 rfl (lv_room (Nat.le_of_ble_eq_true rfl)) dX12_setsAs_19 ⟨Nat.le_refl _, Nat.le_refl _⟩) hA hS (fun f_12 L_13 Q_14 H locs hq hP hS => ?_)
    obtain ⟨⟨hI, hk_f_12, eL9, eQ9⟩, p_15⟩ := hq
    rw [eL9, eQ9] at hP; clear eL9 eQ9
    have hF : sgK WkX12_setsAs_7_f12_f7 f f_12 := sgK.tr hF hk_f_12 (by decide)
    obtain ⟨v_16, ev_16⟩ : ∃ z : Int32, z = f_12 0 48 := ⟨_, rfl⟩
    have q_17 : 0 ≤ v_16.toInt ∧ v_16.toInt ≤ 19 := by rw [ev_16]; exact hI 0 48
    have q_18 : (f_12 0 48).toInt = v_16.toInt := (congrArg Int32.toInt (show f_12 0 48 = v_16 from ev_16.symm))
    have q_19 : (f_12 0 48).toInt = v_16.toInt := (congrArg Int32.toInt (show f_12 0 48 = v_16 from ev_16.symm))
    refine lv_aload_n hx hb dX12_setsAs_22 rfl (lv_at hl 0 rfl) ?_
    refine lv_iconst (v := 0) hx hb dX12_setsAs_23 (by decide) ?_
    refine lv_iload_n hx hb dX12_setsAs_24 rfl (lv_at hl 1 rfl) ?_
    have c_20 : v_16 = 13 := Int32.toInt_inj.mp (by have k9 : (13 : Int32).toInt = 13 := (by decide); omega)
    have q_21 : (f_12 0 48).toInt = 13 := (congrArg Int32.toInt (show f_12 0 48 = 13 from (Eq.trans ev_16.symm c_20))).trans (by decide)
    have q_22 : (f_12 0 48).toInt = 13 := (congrArg Int32.toInt (show f_12 0 48 = 13 from (Eq.trans ev_16.symm c_20))).trans (by decide)
    refine sg_calli (va_runV (As := [.int 0, .int x1]) (rest := []) ⟨hx, hb, hml, hown, hts⟩ (kX12_setsAs_0_f13_f7 l D ca za h hh f_12 L Q hI x1 (Eq.trans ev_16.symm c_20) ((hk_f_12 0 49 (by decide)).trans m_8) (by omega) (by have k0 : (0 : Int32).toInt = 0 := (by decide); omega) H.size) (cwV 2 hts (gw_V (fun _ h => List.mem_cons_of_mem _ h) mw_744 mw_745 mw_746 mw_619 mw_743) rfl rfl rfl (by decide +kernel) ⟨Nat.le_of_ble_eq_true rfl, Nat.le_of_ble_eq_true rfl⟩) (sg_preV (ci := 12) (C := RX12) (T := TX12) (N := 55) hA hK hP hS hZ 0 (by decide) rfl rfl) rfl rfl hl.1 rfl (lv_room (Nat.le_of_ble_eq_true rfl)) dX12_setsAs_25 ⟨Nat.le_refl _, Nat.le_refl _⟩) hA hS (fun r_26 f_23 L_24 Q_25 H locs hq hP hS => ?_)
    obtain ⟨⟨hI, hk_f_23, eL9, eQ9⟩, hq, p_27⟩ := hq
    rw [eL9, eQ9] at hP; clear eL9 eQ9
    have hF : sgK WkX12_setsAs_7_f12_f7 f f_23 := sgK.tr hF hk_f_23 (by decide)
    obtain ⟨v_28, ev_28⟩ : ∃ z : Int32, z = f_23 0 48 := ⟨_, rfl⟩
    have q_29 : 0 ≤ v_28.toInt ∧ v_28.toInt ≤ 19 := by rw [ev_28]; exact hI 0 48
    have q_30 : (f_23 0 48).toInt = v_28.toInt := (congrArg Int32.toInt (show f_23 0 48 = v_28 from ev_28.symm))
    have q_31 : (f_23 0 48).toInt = v_28.toInt := (congrArg Int32.toInt (show f_23 0 48 = v_28 from ev_28.symm))
    have k_32 : (0 : Int32).toInt = 0 := by decide
    refine lv_iconst (v := 3) hx hb dX12_setsAs_28 (by decide) ?_
    refine lv_iadd hx hb dX12_setsAs_29 ?_
    refine lv_topi (fun v_33 ev_33 => ?_)
    have q_34 : v_33.toInt = r_26.toInt + 3 := by rw [ev_33]; have k1 : (3 : Int32).toInt = 3 := (by decide); exact (bn_addI (by omega) (by omega)).trans (by omega)
    have q_35 : (f_23 0 48).toInt = v_28.toInt := (congrArg Int32.toInt (show f_23 0 48 = v_28 from ev_28.symm))
    have q_36 : (f_23 0 48).toInt = v_28.toInt := (congrArg Int32.toInt (show f_23 0 48 = v_28 from ev_28.symm))
    exact hret _ _ _ _ (v_33) f_23 L Q dX12_setsAs_30 hP hS ⟨⟨hI, hF, rfl, rfl⟩, (by omega), (by omega)⟩
  refine lv_iload_n hx hb dX12_setsAs_0 rfl (lv_at hl 1 rfl) ?_
  refine lv_iconst (v := 1) hx hb dX12_setsAs_1 (by decide) ?_
  refine lv_icmp_eq (tgt := 16) hx hb dX12_setsAs_2 (by decide) (fun c => absurd c (by decide)) (fun c => ?_)
  refine lv_iload_n hx hb dX12_setsAs_5 rfl (lv_at hl 1 rfl) ?_
  refine lv_iconst (v := 4) hx hb dX12_setsAs_6 (by decide) ?_
  refine lv_icmp_eq (tgt := 16) hx hb dX12_setsAs_7 (by decide) (fun c => absurd c (by decide)) (fun c => ?_)
  refine lv_iload_n hx hb dX12_setsAs_10 rfl (lv_at hl 1 rfl) ?_
  refine lv_bipush (v := 7) hx hb dX12_setsAs_11 (by decide) ?_
  refine lv_icmp_ne (tgt := 31) hx hb dX12_setsAs_13 (by decide) (fun c => absurd c (by decide)) (fun c => ?_)
  exact blk_16 f _ _ _ (by have zz0_48 : (f 0 48).toInt = 12 := (congrArg Int32.toInt (show f 0 48 = 12 from hf_0_48)).trans (by decide); omega) (by have zz0_49 : (f 0 49).toInt = 7 := (congrArg Int32.toInt (show f 0 49 = 7 from hf_0_49)).trans (by decide); omega) hI hF hP hS (lv_sub hl [0, 2] rfl)

abbrev WkX12_slipsAs_7_f10_f7 : List (Nat × Nat × Option Nat) := [(0, 0, some 48), (21, 21, none)]
set_option maxHeartbeats 4000000 in
set_option maxRecDepth 100000 in
theorem kX12_slipsAs_7_f10_f7 (l : Launch) (D : va_G) (ca : Nat → ClassId) (za h : Nat → Nat) (hh : sgH 26 h) (f : sg_F) (L : sg_L) (Q : sg_Q) (hI : sgI loM hiM f) (x1 : Int32) (hf_0_48 : f 0 48 = 10) (hf_0_49 : f 0 49 = 7) (b1 : 1 ≤ x1.toInt ∧ x1.toInt ≤ 1) (p0 : 10 ≤ (f 0 48).toInt ∧ (f 0 48).toInt ≤ 10) (sz : Nat) : Met l yX12_slipsAs gwX12_slipsAs { frames := 3, cells := 0, slots := 0, locals := 65 } (sgP D vwCl (tyX ca) 26 h (eM ca h) zcM za f L Q sz [.ref (h 0), .int 7, .int x1]) (sgQi D vwCl 26 h (eM ca h) sz (fun r f1 L1 Q1 => ((sgI loM hiM f1 ∧ sgK WkX12_slipsAs_7_f10_f7 f f1 ∧ L1 = L ∧ Q1 = Q) ∧ True ∧ (14 ≤ (f1 0 48).toInt ∧ (f1 0 48).toInt ≤ 14)))) 0 0 (sgA 26 h sz) := by
  refine sg_ofWi (cc := cX12_slipsAs) (maxL := 4) RX12 (by decide) rfl rfl (Nat.le_of_ble_eq_true rfl) ?_
  intro p e s m below meth cd Qz ls hx hb hml hown hts hK hZ hP hS hl hret
  have hA := sgY.self (n := 26) (h := h) (sz := s.heap.size)
  have hl : lv_has ls 4 [(0, .ref (h 0)), (1, .int 7), (2, .int x1)] := hl
  obtain ⟨H, hH⟩ : ∃ z : Heap, z = s.heap := ⟨_, rfl⟩
  obtain ⟨locs, hlo⟩ : ∃ z : List Loc, z = [] := ⟨_, rfl⟩
  have hP : va_P D vwCl (sgw 26 h (eM ca h) f L Q) H := by rw [hH]; exact hP
  have hS : va_S (sgA 26 h s.heap.size) s.heap H locs := by rw [hH, hlo]; exact hS
  suffices hgo : W p l e ({ frames := 3, cells := 0, slots := 0, locals := 65 }) s m ([.ref (h 0), .int 7, .int x1] : List Value).toArray below meth cd H locs 0 0 Qz (F0 m 0 ls []) by rw [hH, hlo] at hgo; exact hgo
  clear hH hlo
  have o_1 : (f 0 48).toInt = 10 := (congrArg Int32.toInt (show f 0 48 = 10 from hf_0_48)).trans (by decide)
  have hF : sgK WkX12_slipsAs_7_f10_f7 f f := sgK.rf
  have blk_36 : ∀ (fp_36 : sg_F) (H : Heap) (locs : List Loc) (ls : Array Slot), 10 ≤ (fp_36 0 48).toInt ∧ (fp_36 0 48).toInt ≤ 10 → 7 ≤ (fp_36 0 49).toInt ∧ (fp_36 0 49).toInt ≤ 7 → sgI loM hiM fp_36 → sgK WkX12_slipsAs_7_f10_f7 f fp_36 → va_P D vwCl (sgw 26 h (eM ca h) fp_36 L Q) H → va_S (sgA 26 h s.heap.size) s.heap H locs → lv_has ls 4 [(0, .ref (h 0)), (2, .int x1)] → W p l e ({ frames := 3, cells := 0, slots := 0, locals := 65 }) s m ([.ref (h 0), .int 7, .int x1] : List Value).toArray below meth cd H locs 0 0 Qz (F0 m 36 ls []) := by
    intro fp_36 H locs ls hy0_36 hy1_36 hI hF hP hS hl
    obtain ⟨v_2, ev_2⟩ : ∃ z : Int32, z = fp_36 0 48 := ⟨_, rfl⟩
    have q_3 : 0 ≤ v_2.toInt ∧ v_2.toInt ≤ 19 := by rw [ev_2]; exact hI 0 48
    have q_4 : (fp_36 0 48).toInt = v_2.toInt := by rw [ev_2]
    obtain ⟨v_5, ev_5⟩ : ∃ z : Int32, z = fp_36 0 49 := ⟨_, rfl⟩
    have q_6 : 0 ≤ v_5.toInt ∧ v_5.toInt ≤ 7 := by rw [ev_5]; exact hI 0 49
    have q_7 : (fp_36 0 49).toInt = v_5.toInt := by rw [ev_5]
    have m_8 : fp_36 0 49 = 7 := (hF 0 49 (by decide)).trans hf_0_49
    refine lv_aload_n hx hb dX12_slipsAs_36 rfl (lv_at hl 0 rfl) ?_
    refine lv_bipush (v := 50) hx hb dX12_slipsAs_37 (by decide) ?_
    have c_9 : v_2 = 10 := Int32.toInt_inj.mp (by have k9 : (10 : Int32).toInt = 10 := (by decide); omega)
    have q_10 : (fp_36 0 48).toInt = 10 := (congrArg Int32.toInt (show fp_36 0 48 = 10 from (Eq.trans ev_2.symm c_9))).trans (by decide)
    have q_11 : (fp_36 0 48).toInt = 10 := (congrArg Int32.toInt (show fp_36 0 48 = 10 from (Eq.trans ev_2.symm c_9))).trans (by decide)
    refine sg_callv (va_runV (As := [.int 50]) (rest := []) ⟨hx, hb, hml, hown, hts⟩ (kX12_begins_50_f10 l D ca za h hh fp_36 L Q hI (Eq.trans ev_2.symm c_9) (by have k0 : (50 : Int32).toInt = 50 := (by decide); omega) H.size) (cwV 1 hts (gw_V (fun _ h => List.mem_cons_of_mem _ h) mw_734 mw_735 mw_736 mw_619 mw_733) rfl rfl rfl (by decide +kernel) ⟨Nat.le_of_ble_eq_true rfl, Nat.le_of_ble_eq_true rfl⟩) (sg_preV (ci := 12) (C := RX12) (T := TX12) (N := 55) hA hK hP hS hZ 0 (by decide) rfl rfl) rfl rfl hl.1 rfl (lv_room (Nat.le_of_ble_eq_true rfl)) dX12_slipsAs_39 ⟨Nat.le_refl _, Nat.le_refl _⟩) hA hS (fun f_12 L_13 Q_14 H locs hq hP hS => ?_)
    obtain ⟨⟨hI, hk_f_12, eL9, eQ9⟩, p_15⟩ := hq
    rw [eL9, eQ9] at hP; clear eL9 eQ9
    have hF : sgK WkX12_slipsAs_7_f10_f7 f f_12 := sgK.tr hF hk_f_12 (by decide)
    obtain ⟨v_16, ev_16⟩ : ∃ z : Int32, z = f_12 0 48 := ⟨_, rfl⟩
    have q_17 : 0 ≤ v_16.toInt ∧ v_16.toInt ≤ 19 := by rw [ev_16]; exact hI 0 48
    have q_18 : (f_12 0 48).toInt = v_16.toInt := (congrArg Int32.toInt (show f_12 0 48 = v_16 from ev_16.symm))
    have q_19 : (f_12 0 48).toInt = v_16.toInt := (congrArg Int32.toInt (show f_12 0 48 = v_16 from ev_16.symm))
    refine lv_aload_n hx hb dX12_slipsAs_42 rfl (lv_at hl 0 rfl) ?_
    refine lv_iconst (v := 1) hx hb dX12_slipsAs_43 (by decide) ?_
    refine lv_iload_n hx hb dX12_slipsAs_44 rfl (lv_at hl 1 rfl) ?_
    have c_20 : v_16 = 11 := Int32.toInt_inj.mp (by have k9 : (11 : Int32).toInt = 11 := (by decide); omega)
    have q_21 : (f_12 0 48).toInt = 11 := (congrArg Int32.toInt (show f_12 0 48 = 11 from (Eq.trans ev_16.symm c_20))).trans (by decide)
    have q_22 : (f_12 0 48).toInt = 11 := (congrArg Int32.toInt (show f_12 0 48 = 11 from (Eq.trans ev_16.symm c_20))).trans (by decide)
    refine sg_calli (va_runV (As := [.int 1, .int x1]) (rest := []) ⟨hx, hb, hml, hown, hts⟩ (kX12_slipsAs_1_f11_f7 l D ca za h hh f_12 L Q hI x1 (Eq.trans ev_16.symm c_20) ((hk_f_12 0 49 (by decide)).trans m_8) (by omega) (by have k0 : (1 : Int32).toInt = 1 := (by decide); omega) H.size) (cwV 2 hts (gw_V (fun _ h => List.mem_cons_of_mem _ h) mw_748 mw_749 mw_750 mw_619 mw_747) rfl rfl rfl (by decide +kernel) ⟨Nat.le_of_ble_eq_true rfl, Nat.le_of_ble_eq_true rfl⟩) (sg_preV (ci := 12) (C := RX12) (T := TX12) (N := 55) hA hK hP hS hZ 0 (by decide) rfl rfl) rfl rfl hl.1 rfl (lv_room (Nat.le_of_ble_eq_true rfl)) dX12_slipsAs_45 ⟨Nat.le_refl _, Nat.le_refl _⟩) hA hS (fun r_26 f_23 L_24 Q_25 H locs hq hP hS => ?_)
    obtain ⟨⟨hI, hk_f_23, eL9, eQ9⟩, hq, p_27⟩ := hq
    rw [eL9, eQ9] at hP; clear eL9 eQ9
    have hF : sgK WkX12_slipsAs_7_f10_f7 f f_23 := sgK.tr hF hk_f_23 (by decide)
    obtain ⟨v_28, ev_28⟩ : ∃ z : Int32, z = f_23 0 48 := ⟨_, rfl⟩
    have q_29 : 0 ≤ v_28.toInt ∧ v_28.toInt ≤ 19 := by rw [ev_28]; exact hI 0 48
    have q_30 : (f_23 0 48).toInt = v_28.toInt := (congrArg Int32.toInt (show f_23 0 48 = v_28 from ev_28.symm))
    have q_31 : (f_23 0 48).toInt = v_28.toInt := (congrArg Int32.toInt (show f_23 0 48 = v_28 from ev_28.symm))
    have k_32 : (1 : Int32).toInt = 1 := by decide
    refine lv_istore_n (lv' := [(3, .int r_26), (0, .ref (h 0)), (2, .int x1)]) hx hb dX12_slipsAs_48 rfl hl (by decide) rfl (fun ls hl => ?_)
    refine lv_iload_n hx hb dX12_slipsAs_49 rfl (lv_at hl 0 rfl) ?_
    refine lv_aload_n hx hb dX12_slipsAs_50 rfl (lv_at hl 1 rfl) ?_
    refine lv_aload_n hx hb dX12_slipsAs_51 rfl (lv_at hl 1 rfl) ?_
    refine sg_get (ci := 12) (v := .int 7) (C := RX12) (T := TX12) (N := 55) hx hb hts (fun w h => List.mem_cons_of_mem _ (gx_12 w h)) hown hK hP 0 (by decide) rfl rfl 49 (by decide) (hts _ (List.mem_cons_of_mem _ mw_679)) (fun _ h9 => h9) (congrArg (fun z => some (Value.int z)) (show f_23 0 49 = 7 from ((hk_f_23 0 49 (by decide)).trans ((hk_f_12 0 49 (by decide)).trans m_8)))) dX12_slipsAs_52 ?_
    refine lv_iconst (v := 2) hx hb dX12_slipsAs_55 (by decide) ?_
    have c_33 : v_28 = 12 := Int32.toInt_inj.mp (by have k9 : (12 : Int32).toInt = 12 := (by decide); omega)
    have q_34 : (f_23 0 48).toInt = 12 := (congrArg Int32.toInt (show f_23 0 48 = 12 from (Eq.trans ev_28.symm c_33))).trans (by decide)
    have q_35 : (f_23 0 48).toInt = 12 := (congrArg Int32.toInt (show f_23 0 48 = 12 from (Eq.trans ev_28.symm c_33))).trans (by decide)
    refine sg_calli (va_runV (As := [.int 7, .int 2]) (rest := [.int r_26]) ⟨hx, hb, hml, hown, hts⟩ (kX12_setsAs_7_f12_f7 l D ca za h hh f_23 L Q hI 2 (Eq.trans ev_28.symm c_33) ((hk_f_23 0 49 (by decide)).trans ((hk_f_12 0 49 (by decide)).trans m_8)) (by decide) (by have k0 : (7 : Int32).toInt = 7 := (by decide); have k1 : (2 : Int32).toInt = 2 := (by decide); omega) H.size) (cwV 2 hts (gw_V (fun _ h => List.mem_cons_of_mem _ h) mw_744 mw_745 mw_746 mw_619 mw_743) rfl rfl rfl (by decide +kernel) ⟨Nat.le_of_ble_eq_true rfl, Nat.le_of_ble_eq_true rfl⟩) (sg_preV (ci := 12) (C := RX12) (T := TX12) (N := 55) hA hK hP hS hZ 0 (by decide) rfl rfl) rfl rfl hl.1 rfl (lv_room (Nat.le_of_ble_eq_true rfl)) dX12_slipsAs_56 ⟨Nat.le_refl _, Nat.le_refl _⟩) hA hS (fun r_39 f_36 L_37 Q_38 H locs hq hP hS => ?_)
    obtain ⟨⟨hI, hk_f_36, eL9, eQ9⟩, hq, p_40⟩ := hq
    rw [eL9, eQ9] at hP; clear eL9 eQ9
    have hF : sgK WkX12_slipsAs_7_f10_f7 f f_36 := sgK.tr hF hk_f_36 (by decide)
    obtain ⟨v_41, ev_41⟩ : ∃ z : Int32, z = f_36 0 48 := ⟨_, rfl⟩
    have q_42 : 0 ≤ v_41.toInt ∧ v_41.toInt ≤ 19 := by rw [ev_41]; exact hI 0 48
    have q_43 : (f_36 0 48).toInt = v_41.toInt := (congrArg Int32.toInt (show f_36 0 48 = v_41 from ev_41.symm))
    have q_44 : (f_36 0 48).toInt = v_41.toInt := (congrArg Int32.toInt (show f_36 0 48 = v_41 from ev_41.symm))
    have k_45 : (7 : Int32).toInt = 7 := by decide
    have k_46 : (2 : Int32).toInt = 2 := by decide
    refine lv_isub hx hb dX12_slipsAs_59 ?_
    refine lv_topi (fun v_47 ev_47 => ?_)
    have q_48 : (f_36 0 48).toInt = v_41.toInt := (congrArg Int32.toInt (show f_36 0 48 = v_41 from ev_41.symm))
    have q_49 : (f_36 0 48).toInt = v_41.toInt := (congrArg Int32.toInt (show f_36 0 48 = v_41 from ev_41.symm))
    exact hret _ _ _ _ (v_47) f_36 L Q dX12_slipsAs_60 hP hS ⟨⟨hI, hF, rfl, rfl⟩, trivial, (by omega)⟩
  refine lv_iload_n hx hb dX12_slipsAs_0 rfl (lv_at hl 1 rfl) ?_
  refine lv_iconst (v := 3) hx hb dX12_slipsAs_1 (by decide) ?_
  refine lv_icmp_eq (tgt := 10) hx hb dX12_slipsAs_2 (by decide) (fun c => absurd c (by decide)) (fun c => ?_)
  refine lv_iload_n hx hb dX12_slipsAs_5 rfl (lv_at hl 1 rfl) ?_
  refine lv_iconst (v := 5) hx hb dX12_slipsAs_6 (by decide) ?_
  refine lv_icmp_ne (tgt := 25) hx hb dX12_slipsAs_7 (by decide) (fun c => ?_) (fun c => absurd c (by decide))
  refine lv_iload_n hx hb dX12_slipsAs_25 rfl (lv_at hl 1 rfl) ?_
  refine lv_iconst (v := 4) hx hb dX12_slipsAs_26 (by decide) ?_
  refine lv_icmp_eq (tgt := 36) hx hb dX12_slipsAs_27 (by decide) (fun c => absurd c (by decide)) (fun c => ?_)
  refine lv_iload_n hx hb dX12_slipsAs_30 rfl (lv_at hl 1 rfl) ?_
  refine lv_bipush (v := 7) hx hb dX12_slipsAs_31 (by decide) ?_
  refine lv_icmp_ne (tgt := 61) hx hb dX12_slipsAs_33 (by decide) (fun c => absurd c (by decide)) (fun c => ?_)
  exact blk_36 f _ _ _ (by have zz0_48 : (f 0 48).toInt = 10 := (congrArg Int32.toInt (show f 0 48 = 10 from hf_0_48)).trans (by decide); omega) (by have zz0_49 : (f 0 49).toInt = 7 := (congrArg Int32.toInt (show f 0 49 = 7 from hf_0_49)).trans (by decide); omega) hI hF hP hS (lv_sub hl [0, 2] rfl)

abbrev WkX12_tellsAs_4_f1_f7 : List (Nat × Nat × Option Nat) := [(0, 0, some 48), (21, 21, none)]
set_option maxHeartbeats 4000000 in
set_option maxRecDepth 100000 in
theorem kX12_tellsAs_4_f1_f7 (l : Launch) (D : va_G) (ca : Nat → ClassId) (za h : Nat → Nat) (hh : sgH 26 h) (f : sg_F) (L : sg_L) (Q : sg_Q) (hI : sgI loM hiM f) (x1 : Int32) (hf_0_48 : f 0 48 = 1) (hf_0_49 : f 0 49 = 7) (p0 : 1 ≤ (f 0 48).toInt ∧ (f 0 48).toInt ≤ 1) (sz : Nat) : Met l yX12_tellsAs gwX12_tellsAs { frames := 5, cells := 0, slots := 0, locals := 111 } (sgP D vwCl (tyX ca) 26 h (eM ca h) zcM za f L Q sz [.ref (h 0), .int 4, .int x1]) (sgQi D vwCl 26 h (eM ca h) sz (fun r f1 L1 Q1 => ((sgI loM hiM f1 ∧ sgK WkX12_tellsAs_4_f1_f7 f f1 ∧ L1 = L ∧ Q1 = Q) ∧ True ∧ (14 ≤ (f1 0 48).toInt ∧ (f1 0 48).toInt ≤ 14)))) 0 0 (sgA 26 h sz) := by
  refine sg_ofWi (cc := cX12_tellsAs) (maxL := 4) RX12 (by decide) rfl rfl (Nat.le_of_ble_eq_true rfl) ?_
  intro p e s m below meth cd Qz ls hx hb hml hown hts hK hZ hP hS hl hret
  have hA := sgY.self (n := 26) (h := h) (sz := s.heap.size)
  have hl : lv_has ls 4 [(0, .ref (h 0)), (1, .int 4), (2, .int x1)] := hl
  obtain ⟨H, hH⟩ : ∃ z : Heap, z = s.heap := ⟨_, rfl⟩
  obtain ⟨locs, hlo⟩ : ∃ z : List Loc, z = [] := ⟨_, rfl⟩
  have hP : va_P D vwCl (sgw 26 h (eM ca h) f L Q) H := by rw [hH]; exact hP
  have hS : va_S (sgA 26 h s.heap.size) s.heap H locs := by rw [hH, hlo]; exact hS
  suffices hgo : W p l e ({ frames := 5, cells := 0, slots := 0, locals := 111 }) s m ([.ref (h 0), .int 4, .int x1] : List Value).toArray below meth cd H locs 0 0 Qz (F0 m 0 ls []) by rw [hH, hlo] at hgo; exact hgo
  clear hH hlo
  have o_1 : (f 0 48).toInt = 1 := (congrArg Int32.toInt (show f 0 48 = 1 from hf_0_48)).trans (by decide)
  have hF : sgK WkX12_tellsAs_4_f1_f7 f f := sgK.rf
  refine lv_iload_n hx hb dX12_tellsAs_0 rfl (lv_at hl 1 rfl) ?_
  refine lv_iconst (v := 5) hx hb dX12_tellsAs_1 (by decide) ?_
  refine lv_icmp_ne (tgt := 20) hx hb dX12_tellsAs_2 (by decide) (fun c => ?_) (fun c => absurd c (by decide))
  refine lv_iload_n hx hb dX12_tellsAs_20 rfl (lv_at hl 1 rfl) ?_
  refine lv_bipush (v := 7) hx hb dX12_tellsAs_21 (by decide) ?_
  refine lv_icmp_ne (tgt := 41) hx hb dX12_tellsAs_23 (by decide) (fun c => ?_) (fun c => absurd c (by decide))
  refine lv_aload_n hx hb dX12_tellsAs_41 rfl (lv_at hl 0 rfl) ?_
  refine lv_iconst (v := 2) hx hb dX12_tellsAs_42 (by decide) ?_
  have q_2 : (f 0 48).toInt = 1 := (congrArg Int32.toInt (show f 0 48 = 1 from hf_0_48)).trans (by decide)
  have q_3 : (f 0 48).toInt = 1 := (congrArg Int32.toInt (show f 0 48 = 1 from hf_0_48)).trans (by decide)
  refine sg_callv (va_runV (As := [.int 2]) (rest := []) ⟨hx, hb, hml, hown, hts⟩ (kX12_begins_2_f1 l D ca za h hh f L Q hI hf_0_48 (by have k0 : (2 : Int32).toInt = 2 := (by decide); omega) H.size) (cwV 1 hts (gw_V (fun _ h => List.mem_cons_of_mem _ h) mw_734 mw_735 mw_736 mw_619 mw_733) rfl rfl rfl (by decide +kernel) ⟨Nat.le_of_ble_eq_true rfl, Nat.le_of_ble_eq_true rfl⟩) (sg_preV (ci := 12) (C := RX12) (T := TX12) (N := 55) hA hK hP hS hZ 0 (by decide) rfl rfl) rfl rfl hl.1 rfl (lv_room (Nat.le_of_ble_eq_true rfl)) dX12_tellsAs_43 ⟨Nat.le_refl _, Nat.le_refl _⟩) hA hS (fun f_4 L_5 Q_6 H locs hq hP hS => ?_)
  obtain ⟨⟨hI, hk_f_4, eL9, eQ9⟩, p_7⟩ := hq
  rw [eL9, eQ9] at hP; clear eL9 eQ9
  have hF : sgK WkX12_tellsAs_4_f1_f7 f f_4 := sgK.tr hF hk_f_4 (by decide)
  obtain ⟨v_8, ev_8⟩ : ∃ z : Int32, z = f_4 0 48 := ⟨_, rfl⟩
  have q_9 : 0 ≤ v_8.toInt ∧ v_8.toInt ≤ 19 := by rw [ev_8]; exact hI 0 48
  have q_10 : (f_4 0 48).toInt = v_8.toInt := (congrArg Int32.toInt (show f_4 0 48 = v_8 from ev_8.symm))
  have q_11 : (f_4 0 48).toInt = v_8.toInt := (congrArg Int32.toInt (show f_4 0 48 = v_8 from ev_8.symm))
  refine lv_aload_n hx hb dX12_tellsAs_46 rfl (lv_at hl 0 rfl) ?_
  refine lv_aload_n hx hb dX12_tellsAs_47 rfl (lv_at hl 0 rfl) ?_
  refine sg_get (ci := 12) (v := .int 7) (C := RX12) (T := TX12) (N := 55) hx hb hts (fun w h => List.mem_cons_of_mem _ (gx_12 w h)) hown hK hP 0 (by decide) rfl rfl 49 (by decide) (hts _ (List.mem_cons_of_mem _ mw_679)) (fun _ h9 => h9) (congrArg (fun z => some (Value.int z)) (show f_4 0 49 = 7 from ((hk_f_4 0 49 (by decide)).trans hf_0_49))) dX12_tellsAs_48 ?_
  refine lv_iload_n hx hb dX12_tellsAs_51 rfl (lv_at hl 2 rfl) ?_
  have c_12 : v_8 = 2 := Int32.toInt_inj.mp (by have k9 : (2 : Int32).toInt = 2 := (by decide); omega)
  have q_13 : (f_4 0 48).toInt = 2 := (congrArg Int32.toInt (show f_4 0 48 = 2 from (Eq.trans ev_8.symm c_12))).trans (by decide)
  have q_14 : (f_4 0 48).toInt = 2 := (congrArg Int32.toInt (show f_4 0 48 = 2 from (Eq.trans ev_8.symm c_12))).trans (by decide)
  refine sg_calli (va_runV (As := [.int 7, .int x1]) (rest := []) ⟨hx, hb, hml, hown, hts⟩ (kX12_sitsAs_7_f2_f7 l D ca za h hh f_4 L Q hI x1 (Eq.trans ev_8.symm c_12) ((hk_f_4 0 49 (by decide)).trans hf_0_49) (by have k0 : (7 : Int32).toInt = 7 := (by decide); omega) H.size) (cwV 2 hts (gw_V (fun _ h => List.mem_cons_of_mem _ h) mw_801 mw_802 mw_803 mw_619 mw_800) rfl rfl rfl (by decide +kernel) ⟨Nat.le_of_ble_eq_true rfl, Nat.le_of_ble_eq_true rfl⟩) (sg_preV (ci := 12) (C := RX12) (T := TX12) (N := 55) hA hK hP hS hZ 0 (by decide) rfl rfl) rfl rfl hl.1 rfl (lv_room (Nat.le_of_ble_eq_true rfl)) dX12_tellsAs_52 ⟨Nat.le_refl _, Nat.le_refl _⟩) hA hS (fun r_18 f_15 L_16 Q_17 H locs hq hP hS => ?_)
  obtain ⟨⟨hI, hk_f_15, eL9, eQ9⟩, hq, p_19⟩ := hq
  rw [eL9, eQ9] at hP; clear eL9 eQ9
  have hF : sgK WkX12_tellsAs_4_f1_f7 f f_15 := sgK.tr hF hk_f_15 (by decide)
  obtain ⟨v_20, ev_20⟩ : ∃ z : Int32, z = f_15 0 48 := ⟨_, rfl⟩
  have q_21 : 0 ≤ v_20.toInt ∧ v_20.toInt ≤ 19 := by rw [ev_20]; exact hI 0 48
  have q_22 : (f_15 0 48).toInt = v_20.toInt := (congrArg Int32.toInt (show f_15 0 48 = v_20 from ev_20.symm))
  have q_23 : (f_15 0 48).toInt = v_20.toInt := (congrArg Int32.toInt (show f_15 0 48 = v_20 from ev_20.symm))
  have k_24 : (7 : Int32).toInt = 7 := by decide
  refine lv_istore_n (lv' := [(3, .int r_18), (0, .ref (h 0)), (1, .int 4), (2, .int x1)]) hx hb dX12_tellsAs_55 rfl hl (by decide) rfl (fun ls hl => ?_)
  refine lv_iload_n hx hb dX12_tellsAs_56 rfl (lv_at hl 0 rfl) ?_
  refine lv_aload_n hx hb dX12_tellsAs_57 rfl (lv_at hl 1 rfl) ?_
  refine lv_aload_n hx hb dX12_tellsAs_58 rfl (lv_at hl 1 rfl) ?_
  refine sg_get (ci := 12) (v := .int 7) (C := RX12) (T := TX12) (N := 55) hx hb hts (fun w h => List.mem_cons_of_mem _ (gx_12 w h)) hown hK hP 0 (by decide) rfl rfl 49 (by decide) (hts _ (List.mem_cons_of_mem _ mw_679)) (fun _ h9 => h9) (congrArg (fun z => some (Value.int z)) (show f_15 0 49 = 7 from ((hk_f_15 0 49 (by decide)).trans ((hk_f_4 0 49 (by decide)).trans hf_0_49)))) dX12_tellsAs_59 ?_
  refine lv_iconst (v := 1) hx hb dX12_tellsAs_62 (by decide) ?_
  have c_25 : v_20 = 10 := Int32.toInt_inj.mp (by have k9 : (10 : Int32).toInt = 10 := (by decide); omega)
  have q_26 : (f_15 0 48).toInt = 10 := (congrArg Int32.toInt (show f_15 0 48 = 10 from (Eq.trans ev_20.symm c_25))).trans (by decide)
  have q_27 : (f_15 0 48).toInt = 10 := (congrArg Int32.toInt (show f_15 0 48 = 10 from (Eq.trans ev_20.symm c_25))).trans (by decide)
  refine sg_calli (va_runV (As := [.int 7, .int 1]) (rest := [.int r_18]) ⟨hx, hb, hml, hown, hts⟩ (kX12_slipsAs_7_f10_f7 l D ca za h hh f_15 L Q hI 1 (Eq.trans ev_20.symm c_25) ((hk_f_15 0 49 (by decide)).trans ((hk_f_4 0 49 (by decide)).trans hf_0_49)) (by decide) (by have k0 : (7 : Int32).toInt = 7 := (by decide); have k1 : (1 : Int32).toInt = 1 := (by decide); omega) H.size) (cwV 2 hts (gw_V (fun _ h => List.mem_cons_of_mem _ h) mw_748 mw_749 mw_750 mw_619 mw_747) rfl rfl rfl (by decide +kernel) ⟨Nat.le_of_ble_eq_true rfl, Nat.le_of_ble_eq_true rfl⟩) (sg_preV (ci := 12) (C := RX12) (T := TX12) (N := 55) hA hK hP hS hZ 0 (by decide) rfl rfl) rfl rfl hl.1 rfl (lv_room (Nat.le_of_ble_eq_true rfl)) dX12_tellsAs_63 ⟨Nat.le_refl _, Nat.le_refl _⟩) hA hS (fun r_31 f_28 L_29 Q_30 H locs hq hP hS => ?_)
  obtain ⟨⟨hI, hk_f_28, eL9, eQ9⟩, hq, p_32⟩ := hq
  rw [eL9, eQ9] at hP; clear eL9 eQ9
  have hF : sgK WkX12_tellsAs_4_f1_f7 f f_28 := sgK.tr hF hk_f_28 (by decide)
  obtain ⟨v_33, ev_33⟩ : ∃ z : Int32, z = f_28 0 48 := ⟨_, rfl⟩
  have q_34 : 0 ≤ v_33.toInt ∧ v_33.toInt ≤ 19 := by rw [ev_33]; exact hI 0 48
  have q_35 : (f_28 0 48).toInt = v_33.toInt := (congrArg Int32.toInt (show f_28 0 48 = v_33 from ev_33.symm))
  have q_36 : (f_28 0 48).toInt = v_33.toInt := (congrArg Int32.toInt (show f_28 0 48 = v_33 from ev_33.symm))
  have k_37 : (7 : Int32).toInt = 7 := by decide
  have k_38 : (1 : Int32).toInt = 1 := by decide
  refine lv_isub hx hb dX12_tellsAs_66 ?_
  refine lv_topi (fun v_39 ev_39 => ?_)
  have q_40 : (f_28 0 48).toInt = v_33.toInt := (congrArg Int32.toInt (show f_28 0 48 = v_33 from ev_33.symm))
  have q_41 : (f_28 0 48).toInt = v_33.toInt := (congrArg Int32.toInt (show f_28 0 48 = v_33 from ev_33.symm))
  exact hret _ _ _ _ (v_39) f_28 L Q dX12_tellsAs_67 hP hS ⟨⟨hI, hF, rfl, rfl⟩, trivial, (by omega)⟩

abbrev WkX12_tellsAs_7_f0_f7 : List (Nat × Nat × Option Nat) := [(0, 0, some 48), (21, 21, none)]
set_option maxHeartbeats 4000000 in
set_option maxRecDepth 100000 in
theorem kX12_tellsAs_7_f0_f7 (l : Launch) (D : va_G) (ca : Nat → ClassId) (za h : Nat → Nat) (hh : sgH 26 h) (f : sg_F) (L : sg_L) (Q : sg_Q) (hI : sgI loM hiM f) (x1 : Int32) (hf_0_48 : f 0 48 = 0) (hf_0_49 : f 0 49 = 7) (p0 : 0 ≤ (f 0 48).toInt ∧ (f 0 48).toInt ≤ 0) (sz : Nat) : Met l yX12_tellsAs gwX12_tellsAs { frames := 6, cells := 0, slots := 0, locals := 134 } (sgP D vwCl (tyX ca) 26 h (eM ca h) zcM za f L Q sz [.ref (h 0), .int 7, .int x1]) (sgQi D vwCl 26 h (eM ca h) sz (fun r f1 L1 Q1 => ((sgI loM hiM f1 ∧ sgK WkX12_tellsAs_7_f0_f7 f f1 ∧ L1 = L ∧ Q1 = Q) ∧ True ∧ (14 ≤ (f1 0 48).toInt ∧ (f1 0 48).toInt ≤ 14)))) 0 0 (sgA 26 h sz) := by
  refine sg_ofWi (cc := cX12_tellsAs) (maxL := 4) RX12 (by decide) rfl rfl (Nat.le_of_ble_eq_true rfl) ?_
  intro p e s m below meth cd Qz ls hx hb hml hown hts hK hZ hP hS hl hret
  have hA := sgY.self (n := 26) (h := h) (sz := s.heap.size)
  have hl : lv_has ls 4 [(0, .ref (h 0)), (1, .int 7), (2, .int x1)] := hl
  obtain ⟨H, hH⟩ : ∃ z : Heap, z = s.heap := ⟨_, rfl⟩
  obtain ⟨locs, hlo⟩ : ∃ z : List Loc, z = [] := ⟨_, rfl⟩
  have hP : va_P D vwCl (sgw 26 h (eM ca h) f L Q) H := by rw [hH]; exact hP
  have hS : va_S (sgA 26 h s.heap.size) s.heap H locs := by rw [hH, hlo]; exact hS
  suffices hgo : W p l e ({ frames := 6, cells := 0, slots := 0, locals := 134 }) s m ([.ref (h 0), .int 7, .int x1] : List Value).toArray below meth cd H locs 0 0 Qz (F0 m 0 ls []) by rw [hH, hlo] at hgo; exact hgo
  clear hH hlo
  have o_1 : (f 0 48).toInt = 0 := (congrArg Int32.toInt (show f 0 48 = 0 from hf_0_48)).trans (by decide)
  have hF : sgK WkX12_tellsAs_7_f0_f7 f f := sgK.rf
  refine lv_iload_n hx hb dX12_tellsAs_0 rfl (lv_at hl 1 rfl) ?_
  refine lv_iconst (v := 5) hx hb dX12_tellsAs_1 (by decide) ?_
  refine lv_icmp_ne (tgt := 20) hx hb dX12_tellsAs_2 (by decide) (fun c => ?_) (fun c => absurd c (by decide))
  refine lv_iload_n hx hb dX12_tellsAs_20 rfl (lv_at hl 1 rfl) ?_
  refine lv_bipush (v := 7) hx hb dX12_tellsAs_21 (by decide) ?_
  refine lv_icmp_ne (tgt := 41) hx hb dX12_tellsAs_23 (by decide) (fun c => absurd c (by decide)) (fun c => ?_)
  refine lv_aload_n hx hb dX12_tellsAs_26 rfl (lv_at hl 0 rfl) ?_
  refine lv_bipush (v := 81) hx hb dX12_tellsAs_27 (by decide) ?_
  have q_2 : (f 0 48).toInt = 0 := (congrArg Int32.toInt (show f 0 48 = 0 from hf_0_48)).trans (by decide)
  have q_3 : (f 0 48).toInt = 0 := (congrArg Int32.toInt (show f 0 48 = 0 from hf_0_48)).trans (by decide)
  refine sg_callv (va_runV (As := [.int 81]) (rest := []) ⟨hx, hb, hml, hown, hts⟩ (kX12_begins_81_f0 l D ca za h hh f L Q hI hf_0_48 (by have k0 : (81 : Int32).toInt = 81 := (by decide); omega) H.size) (cwV 1 hts (gw_V (fun _ h => List.mem_cons_of_mem _ h) mw_734 mw_735 mw_736 mw_619 mw_733) rfl rfl rfl (by decide +kernel) ⟨Nat.le_of_ble_eq_true rfl, Nat.le_of_ble_eq_true rfl⟩) (sg_preV (ci := 12) (C := RX12) (T := TX12) (N := 55) hA hK hP hS hZ 0 (by decide) rfl rfl) rfl rfl hl.1 rfl (lv_room (Nat.le_of_ble_eq_true rfl)) dX12_tellsAs_29 ⟨Nat.le_refl _, Nat.le_refl _⟩) hA hS (fun f_4 L_5 Q_6 H locs hq hP hS => ?_)
  obtain ⟨⟨hI, hk_f_4, eL9, eQ9⟩, p_7⟩ := hq
  rw [eL9, eQ9] at hP; clear eL9 eQ9
  have hF : sgK WkX12_tellsAs_7_f0_f7 f f_4 := sgK.tr hF hk_f_4 (by decide)
  obtain ⟨v_8, ev_8⟩ : ∃ z : Int32, z = f_4 0 48 := ⟨_, rfl⟩
  have q_9 : 0 ≤ v_8.toInt ∧ v_8.toInt ≤ 19 := by rw [ev_8]; exact hI 0 48
  have q_10 : (f_4 0 48).toInt = v_8.toInt := (congrArg Int32.toInt (show f_4 0 48 = v_8 from ev_8.symm))
  have q_11 : (f_4 0 48).toInt = v_8.toInt := (congrArg Int32.toInt (show f_4 0 48 = v_8 from ev_8.symm))
  refine lv_aload_n hx hb dX12_tellsAs_32 rfl (lv_at hl 0 rfl) ?_
  refine lv_iconst (v := 4) hx hb dX12_tellsAs_33 (by decide) ?_
  refine lv_iload_n hx hb dX12_tellsAs_34 rfl (lv_at hl 2 rfl) ?_
  have c_12 : v_8 = 1 := Int32.toInt_inj.mp (by have k9 : (1 : Int32).toInt = 1 := (by decide); omega)
  have q_13 : (f_4 0 48).toInt = 1 := (congrArg Int32.toInt (show f_4 0 48 = 1 from (Eq.trans ev_8.symm c_12))).trans (by decide)
  have q_14 : (f_4 0 48).toInt = 1 := (congrArg Int32.toInt (show f_4 0 48 = 1 from (Eq.trans ev_8.symm c_12))).trans (by decide)
  refine sg_calli (va_runV (As := [.int 4, .int x1]) (rest := []) ⟨hx, hb, hml, hown, hts⟩ (kX12_tellsAs_4_f1_f7 l D ca za h hh f_4 L Q hI x1 (Eq.trans ev_8.symm c_12) ((hk_f_4 0 49 (by decide)).trans hf_0_49) (by have k0 : (4 : Int32).toInt = 4 := (by decide); omega) H.size) (cwV 2 hts (gw_V (fun _ h => List.mem_cons_of_mem _ h) mw_885 mw_886 mw_887 mw_619 mw_884) rfl rfl rfl (by decide +kernel) ⟨Nat.le_of_ble_eq_true rfl, Nat.le_of_ble_eq_true rfl⟩) (sg_preV (ci := 12) (C := RX12) (T := TX12) (N := 55) hA hK hP hS hZ 0 (by decide) rfl rfl) rfl rfl hl.1 rfl (lv_room (Nat.le_of_ble_eq_true rfl)) dX12_tellsAs_35 ⟨Nat.le_refl _, Nat.le_refl _⟩) hA hS (fun r_18 f_15 L_16 Q_17 H locs hq hP hS => ?_)
  obtain ⟨⟨hI, hk_f_15, eL9, eQ9⟩, hq, p_19⟩ := hq
  rw [eL9, eQ9] at hP; clear eL9 eQ9
  have hF : sgK WkX12_tellsAs_7_f0_f7 f f_15 := sgK.tr hF hk_f_15 (by decide)
  obtain ⟨v_20, ev_20⟩ : ∃ z : Int32, z = f_15 0 48 := ⟨_, rfl⟩
  have q_21 : 0 ≤ v_20.toInt ∧ v_20.toInt ≤ 19 := by rw [ev_20]; exact hI 0 48
  have q_22 : (f_15 0 48).toInt = v_20.toInt := (congrArg Int32.toInt (show f_15 0 48 = v_20 from ev_20.symm))
  have q_23 : (f_15 0 48).toInt = v_20.toInt := (congrArg Int32.toInt (show f_15 0 48 = v_20 from ev_20.symm))
  have k_24 : (4 : Int32).toInt = 4 := by decide
  refine lv_iconst (v := 1) hx hb dX12_tellsAs_38 (by decide) ?_
  refine lv_isub hx hb dX12_tellsAs_39 ?_
  refine lv_topi (fun v_25 ev_25 => ?_)
  have q_26 : (f_15 0 48).toInt = v_20.toInt := (congrArg Int32.toInt (show f_15 0 48 = v_20 from ev_20.symm))
  have q_27 : (f_15 0 48).toInt = v_20.toInt := (congrArg Int32.toInt (show f_15 0 48 = v_20 from ev_20.symm))
  exact hret _ _ _ _ (v_25) f_15 L Q dX12_tellsAs_40 hP hS ⟨⟨hI, hF, rfl, rfl⟩, trivial, (by omega)⟩

abbrev WkX12_act : List (Nat × Nat × Option Nat) := [(0, 0, some 48), (0, 0, some 49), (0, 0, some 50), (21, 21, none)]
set_option maxHeartbeats 4000000 in
set_option maxRecDepth 100000 in
theorem kX12_act (l : Launch) (D : va_G) (ca : Nat → ClassId) (za h : Nat → Nat) (hh : sgH 26 h) (f : sg_F) (L : sg_L) (Q : sg_Q) (hI : sgI loM hiM f) (x0 : Int32) (x1 : Int32) (x2 : Int32) (sz : Nat) : Met l yX12_act gwX12_act { frames := 7, cells := 0, slots := 0, locals := 158 } (sgP D vwCl (tyX ca) 26 h (eM ca h) zcM za f L Q sz [.ref (h 0), .int x0, .int x1, .int x2]) (sgQi D vwCl 26 h (eM ca h) sz (fun r f1 L1 Q1 => ((sgI loM hiM f1 ∧ sgK WkX12_act f f1 ∧ L1 = L ∧ Q1 = Q) ∧ True))) 0 0 (sgA 26 h sz) := by
  refine sg_ofWi (cc := cX12_act) (maxL := 4) RX12 (by decide) rfl rfl (Nat.le_of_ble_eq_true rfl) ?_
  intro p e s m below meth cd Qz ls hx hb hml hown hts hK hZ hP hS hl hret
  have hA := sgY.self (n := 26) (h := h) (sz := s.heap.size)
  have hl : lv_has ls 4 [(0, .ref (h 0)), (1, .int x0), (2, .int x1), (3, .int x2)] := hl
  obtain ⟨H, hH⟩ : ∃ z : Heap, z = s.heap := ⟨_, rfl⟩
  obtain ⟨locs, hlo⟩ : ∃ z : List Loc, z = [] := ⟨_, rfl⟩
  have hP : va_P D vwCl (sgw 26 h (eM ca h) f L Q) H := by rw [hH]; exact hP
  have hS : va_S (sgA 26 h s.heap.size) s.heap H locs := by rw [hH, hlo]; exact hS
  suffices hgo : W p l e ({ frames := 7, cells := 0, slots := 0, locals := 158 }) s m ([.ref (h 0), .int x0, .int x1, .int x2] : List Value).toArray below meth cd H locs 0 0 Qz (F0 m 0 ls []) by rw [hH, hlo] at hgo; exact hgo
  clear hH hlo
  have hF : sgK WkX12_act f f := sgK.rf
  refine lv_aload_n hx hb dX12_act_0 rfl (lv_at hl 0 rfl) ?_
  refine lv_iconst (v := 0) hx hb dX12_act_1 (by decide) ?_
  refine sg_put (ci := 12) (x := 0) (ty := .int) (C := RX12) (T := TX12) (N := 55) hx hb hts (fun w h => List.mem_cons_of_mem _ (gx_12 w h)) tyX12 tyX12_ok nmX12 hown hh hA hK hP hS 0 (by decide) rfl rfl 48 (by decide) (hts _ (List.mem_cons_of_mem _ mw_621)) (fun _ h9 => h9) rfl rfl (by decide +kernel) rfl rfl (Nat.le_of_ble_eq_true rfl) dX12_act_2 (fun f_1 H locs ef_1 hP hS => ?_)
  have hI : sgI loM hiM f_1 := by rw [ef_1]; exact sgI.put hI 0 48 (show 0 ≤ (0 : Int32).toInt ∧ (0 : Int32).toInt ≤ 19 from by decide)
  have hF : sgK WkX12_act f f_1 := sgK.put hF ef_1 (by rfl)
  refine lv_aload_n hx hb dX12_act_5 rfl (lv_at hl 0 rfl) ?_
  refine lv_iload_n hx hb dX12_act_6 rfl (lv_at hl 1 rfl) ?_
  obtain ⟨v_2, ev_2⟩ : ∃ z : Int32, z = f_1 0 45 := ⟨_, rfl⟩
  have q_3 : 0 ≤ v_2.toInt ∧ v_2.toInt ≤ 50 := by rw [ev_2]; exact hI 0 45
  have q_4 : (f_1 0 45).toInt = v_2.toInt := (congrArg Int32.toInt (show f_1 0 45 = v_2 from ev_2.symm))
  have q_5 : (f_1 0 45).toInt = v_2.toInt := (congrArg Int32.toInt (show f_1 0 45 = v_2 from ev_2.symm))
  refine sg_calli (va_runV (As := [.int x0]) (rest := []) ⟨hx, hb, hml, hown, hts⟩ (kX12_isBody l D ca za h hh f_1 L Q hI x0 H.size) (cwV 1 hts (gw_V (fun _ h => List.mem_cons_of_mem _ h) mw_676 mw_677 mw_678 mw_619 mw_675) rfl rfl rfl (by decide +kernel) ⟨Nat.le_of_ble_eq_true rfl, Nat.le_of_ble_eq_true rfl⟩) (sg_preV (ci := 12) (C := RX12) (T := TX12) (N := 55) hA hK hP hS hZ 0 (by decide) rfl rfl) rfl rfl hl.1 rfl (lv_room (Nat.le_of_ble_eq_true rfl)) dX12_act_7 ⟨Nat.le_refl _, Nat.le_refl _⟩) hA hS (fun r_9 f_6 L_7 Q_8 H locs hq hP hS => ?_)
  obtain ⟨⟨ef9, eL9, eQ9⟩, hq⟩ := hq
  rw [ef9, eL9, eQ9] at hP; clear ef9 eL9 eQ9
  rcases hq with ⟨rfl, hq⟩ | ⟨rfl, hq⟩
  · skip
    have q_10 := hq
    refine lv_if_ne (tgt := 15) hx hb dX12_act_10 (by decide) (fun c => ?_) (fun c => absurd c (by decide))
    refine lv_aload_n hx hb dX12_act_15 rfl (lv_at hl 0 rfl) ?_
    refine lv_aload_n hx hb dX12_act_16 rfl (lv_at hl 0 rfl) ?_
    refine sg_get (ci := 12) (v := .ref (h 20)) (C := RX12) (T := TX12) (N := 55) hx hb hts (fun w h => List.mem_cons_of_mem _ (gx_12 w h)) hown hK hP 0 (by decide) rfl rfl 46 (by decide) (hts _ (List.mem_cons_of_mem _ mw_647)) (fun _ h9 => h9) rfl dX12_act_17 ?_
    refine lv_iload_n hx hb dX12_act_20 rfl (lv_at hl 1 rfl) ?_
    refine sg_iald hx hb hK hP 20 (by decide) 0 rfl rfl (i := x0) (vp_in_iff.mpr ⟨by omega, by omega⟩) dX12_act_21 ?_
    refine lv_topi (fun v_11 ev_11 => ?_)
    have q_12 : 0 ≤ v_11.toInt ∧ v_11.toInt ≤ 7 := by rw [ev_11]; exact hI 20 _
    refine sg_put (ci := 12) (x := v_11) (ty := .int) (C := RX12) (T := TX12) (N := 55) hx hb hts (fun w h => List.mem_cons_of_mem _ (gx_12 w h)) tyX12 tyX12_ok nmX12 hown hh hA hK hP hS 0 (by decide) rfl rfl 49 (by decide) (hts _ (List.mem_cons_of_mem _ mw_679)) (fun _ h9 => h9) rfl rfl (by decide +kernel) rfl rfl (Nat.le_of_ble_eq_true rfl) dX12_act_22 (fun f_13 H locs ef_13 hP hS => ?_)
    have hI : sgI loM hiM f_13 := by rw [ef_13]; exact sgI.put hI 0 49 (show 0 ≤ (v_11 : Int32).toInt ∧ (v_11 : Int32).toInt ≤ 7 from by omega)
    have hF : sgK WkX12_act f f_13 := sgK.put hF ef_13 (by rfl)
    refine lv_aload_n hx hb dX12_act_25 rfl (lv_at hl 0 rfl) ?_
    refine lv_iload_n hx hb dX12_act_26 rfl (lv_at hl 1 rfl) ?_
    refine sg_put (ci := 12) (x := x0) (ty := .int) (C := RX12) (T := TX12) (N := 55) hx hb hts (fun w h => List.mem_cons_of_mem _ (gx_12 w h)) tyX12 tyX12_ok nmX12 hown hh hA hK hP hS 0 (by decide) rfl rfl 50 (by decide) (hts _ (List.mem_cons_of_mem _ mw_680)) (fun _ h9 => h9) rfl rfl (by decide +kernel) rfl rfl (Nat.le_of_ble_eq_true rfl) dX12_act_27 (fun f_14 H locs ef_14 hP hS => ?_)
    have hI : sgI loM hiM f_14 := by rw [ef_14]; exact sgI.put hI 0 50 (show 0 ≤ (x0 : Int32).toInt ∧ (x0 : Int32).toInt ≤ 49 from by omega)
    have hF : sgK WkX12_act f f_14 := sgK.put hF ef_14 (by rfl)
    refine lv_iload_n hx hb dX12_act_30 rfl (lv_at hl 2 rfl) ?_
    rcases (show (x1.toInt ≠ 0 ∧ x1.toInt ≠ 1 ∧ x1.toInt ≠ 2 ∧ x1.toInt ≠ 3) ∨ x1.toInt = 0 ∨ x1.toInt = 1 ∨ x1.toInt = 2 ∨ x1.toInt = 3 from by omega) with c | c | c | c | c
    · skip
      refine lv_tableOut (x := x1) (tgt := 100) hx hb dX12_act_31 (by omega) (by decide) ?_
      refine lv_iconst (v := 0) hx hb dX12_act_100 (by decide) ?_
      have k99 : (0 : Int32).toInt = 0 := (by decide)
      exact hret _ _ _ _ (0) f_14 L Q dX12_act_101 hP hS ⟨⟨hI, hF, rfl, rfl⟩, trivial⟩
    · skip
      have c_15 := c
      refine lv_tableIn (x := x1) (tgt := 60) hx hb dX12_act_31 (by omega) (by omega) (by rw [c]; rfl) (by decide) ?_
      refine lv_aload_n hx hb dX12_act_60 rfl (lv_at hl 0 rfl) ?_
      refine lv_aload_n hx hb dX12_act_61 rfl (lv_at hl 0 rfl) ?_
      refine sg_get (ci := 12) (v := .int v_11) (C := RX12) (T := TX12) (N := 55) hx hb hts (fun w h => List.mem_cons_of_mem _ (gx_12 w h)) hown hK hP 0 (by decide) rfl rfl 49 (by decide) (hts _ (List.mem_cons_of_mem _ mw_679)) (fun _ h9 => h9) (congrArg (fun z => some (Value.int z)) (show f_14 0 49 = v_11 from (by rw [ef_14, sg_up_s, sgu_n (by decide)]; exact (by rw [ef_13, sg_up_s, sgu_s])))) dX12_act_62 ?_
      refine lv_iload_n hx hb dX12_act_65 rfl (lv_at hl 3 rfl) ?_
      rcases (show v_11.toInt = 0 ∨ v_11.toInt = 1 ∨ v_11.toInt = 2 ∨ v_11.toInt = 3 ∨ v_11.toInt = 4 ∨ v_11.toInt = 5 ∨ v_11.toInt = 6 ∨ v_11.toInt = 7 from by omega) with c | c | c | c | c | c | c | c
      · skip
        have c_16 : v_11 = 0 := Int32.toInt_inj.mp (by have k9 : (0 : Int32).toInt = 0 := (by decide); omega)
        refine W.eq (g2 := F0 m 66 ls [.int x2, .int 0, .ref (h 0)]) (by rw [c_16]) ?_
        have q_17 : (f_14 0 48).toInt = 0 := (congrArg Int32.toInt (show f_14 0 48 = 0 from (by rw [ef_14, sg_up_s, sgu_n (by decide)]; exact (by rw [ef_13, sg_up_s, sgu_n (by decide)]; exact (by rw [ef_1, sg_up_s, sgu_s]))))).trans (by decide)
        have q_18 : (f_14 0 48).toInt = 0 := (congrArg Int32.toInt (show f_14 0 48 = 0 from (by rw [ef_14, sg_up_s, sgu_n (by decide)]; exact (by rw [ef_13, sg_up_s, sgu_n (by decide)]; exact (by rw [ef_1, sg_up_s, sgu_s]))))).trans (by decide)
        refine sg_calli (va_runV (As := [.int 0, .int x2]) (rest := []) ⟨hx, hb, hml, hown, hts⟩ (kX12_setsAs_0_f0_f0 l D ca za h hh f_14 L Q hI x2 (by rw [ef_14, sg_up_s, sgu_n (by decide)]; exact (by rw [ef_13, sg_up_s, sgu_n (by decide)]; exact (by rw [ef_1, sg_up_s, sgu_s]))) (Eq.trans (by rw [ef_14, sg_up_s, sgu_n (by decide)]; exact (by rw [ef_13, sg_up_s, sgu_s])) c_16) (by have k0 : (0 : Int32).toInt = 0 := (by decide); omega) H.size) (cwV 2 hts (gw_V (fun _ h => List.mem_cons_of_mem _ h) mw_744 mw_745 mw_746 mw_619 mw_743) rfl rfl rfl (by decide +kernel) ⟨Nat.le_of_ble_eq_true rfl, Nat.le_of_ble_eq_true rfl⟩) (sg_preV (ci := 12) (C := RX12) (T := TX12) (N := 55) hA hK hP hS hZ 0 (by decide) rfl rfl) rfl rfl hl.1 rfl (lv_room (Nat.le_of_ble_eq_true rfl)) dX12_act_66 ⟨Nat.le_refl _, Nat.le_refl _⟩) hA hS (fun r_22 f_19 L_20 Q_21 H locs hq hP hS => ?_)
        obtain ⟨⟨hI, hk_f_19, eL9, eQ9⟩, hq, p_23⟩ := hq
        rw [eL9, eQ9] at hP; clear eL9 eQ9
        have hF : sgK WkX12_act f f_19 := sgK.tr hF hk_f_19 (by decide)
        obtain ⟨v_24, ev_24⟩ : ∃ z : Int32, z = f_19 0 48 := ⟨_, rfl⟩
        have q_25 : 0 ≤ v_24.toInt ∧ v_24.toInt ≤ 19 := by rw [ev_24]; exact hI 0 48
        have q_26 : (f_19 0 48).toInt = v_24.toInt := (congrArg Int32.toInt (show f_19 0 48 = v_24 from ev_24.symm))
        have q_27 : (f_19 0 48).toInt = v_24.toInt := (congrArg Int32.toInt (show f_19 0 48 = v_24 from ev_24.symm))
        have k_28 : (0 : Int32).toInt = 0 := by decide
        exact hret _ _ _ _ (r_22) f_19 L Q dX12_act_69 hP hS ⟨⟨hI, hF, rfl, rfl⟩, trivial⟩
      · skip
        have c_29 : v_11 = 1 := Int32.toInt_inj.mp (by have k9 : (1 : Int32).toInt = 1 := (by decide); omega)
        refine W.eq (g2 := F0 m 66 ls [.int x2, .int 1, .ref (h 0)]) (by rw [c_29]) ?_
        have q_30 : (f_14 0 48).toInt = 0 := (congrArg Int32.toInt (show f_14 0 48 = 0 from (by rw [ef_14, sg_up_s, sgu_n (by decide)]; exact (by rw [ef_13, sg_up_s, sgu_n (by decide)]; exact (by rw [ef_1, sg_up_s, sgu_s]))))).trans (by decide)
        have q_31 : (f_14 0 48).toInt = 0 := (congrArg Int32.toInt (show f_14 0 48 = 0 from (by rw [ef_14, sg_up_s, sgu_n (by decide)]; exact (by rw [ef_13, sg_up_s, sgu_n (by decide)]; exact (by rw [ef_1, sg_up_s, sgu_s]))))).trans (by decide)
        refine sg_calli (va_runV (As := [.int 1, .int x2]) (rest := []) ⟨hx, hb, hml, hown, hts⟩ (kX12_setsAs_1_f0_f1 l D ca za h hh f_14 L Q hI x2 (by rw [ef_14, sg_up_s, sgu_n (by decide)]; exact (by rw [ef_13, sg_up_s, sgu_n (by decide)]; exact (by rw [ef_1, sg_up_s, sgu_s]))) (Eq.trans (by rw [ef_14, sg_up_s, sgu_n (by decide)]; exact (by rw [ef_13, sg_up_s, sgu_s])) c_29) (by have k0 : (1 : Int32).toInt = 1 := (by decide); omega) H.size) (cwV 2 hts (gw_V (fun _ h => List.mem_cons_of_mem _ h) mw_744 mw_745 mw_746 mw_619 mw_743) rfl rfl rfl (by decide +kernel) ⟨Nat.le_of_ble_eq_true rfl, Nat.le_of_ble_eq_true rfl⟩) (sg_preV (ci := 12) (C := RX12) (T := TX12) (N := 55) hA hK hP hS hZ 0 (by decide) rfl rfl) rfl rfl hl.1 rfl (lv_room (Nat.le_of_ble_eq_true rfl)) dX12_act_66 ⟨Nat.le_refl _, Nat.le_refl _⟩) hA hS (fun r_35 f_32 L_33 Q_34 H locs hq hP hS => ?_)
        obtain ⟨⟨hI, hk_f_32, eL9, eQ9⟩, hq, p_36⟩ := hq
        rw [eL9, eQ9] at hP; clear eL9 eQ9
        have hF : sgK WkX12_act f f_32 := sgK.tr hF hk_f_32 (by decide)
        obtain ⟨v_37, ev_37⟩ : ∃ z : Int32, z = f_32 0 48 := ⟨_, rfl⟩
        have q_38 : 0 ≤ v_37.toInt ∧ v_37.toInt ≤ 19 := by rw [ev_37]; exact hI 0 48
        have q_39 : (f_32 0 48).toInt = v_37.toInt := (congrArg Int32.toInt (show f_32 0 48 = v_37 from ev_37.symm))
        have q_40 : (f_32 0 48).toInt = v_37.toInt := (congrArg Int32.toInt (show f_32 0 48 = v_37 from ev_37.symm))
        have k_41 : (1 : Int32).toInt = 1 := by decide
        exact hret _ _ _ _ (r_35) f_32 L Q dX12_act_69 hP hS ⟨⟨hI, hF, rfl, rfl⟩, trivial⟩
      · skip
        have c_42 : v_11 = 2 := Int32.toInt_inj.mp (by have k9 : (2 : Int32).toInt = 2 := (by decide); omega)
        refine W.eq (g2 := F0 m 66 ls [.int x2, .int 2, .ref (h 0)]) (by rw [c_42]) ?_
        have q_43 : (f_14 0 48).toInt = 0 := (congrArg Int32.toInt (show f_14 0 48 = 0 from (by rw [ef_14, sg_up_s, sgu_n (by decide)]; exact (by rw [ef_13, sg_up_s, sgu_n (by decide)]; exact (by rw [ef_1, sg_up_s, sgu_s]))))).trans (by decide)
        have q_44 : (f_14 0 48).toInt = 0 := (congrArg Int32.toInt (show f_14 0 48 = 0 from (by rw [ef_14, sg_up_s, sgu_n (by decide)]; exact (by rw [ef_13, sg_up_s, sgu_n (by decide)]; exact (by rw [ef_1, sg_up_s, sgu_s]))))).trans (by decide)
        refine sg_calli (va_runV (As := [.int 2, .int x2]) (rest := []) ⟨hx, hb, hml, hown, hts⟩ (kX12_setsAs_2_f0_f2 l D ca za h hh f_14 L Q hI x2 (by rw [ef_14, sg_up_s, sgu_n (by decide)]; exact (by rw [ef_13, sg_up_s, sgu_n (by decide)]; exact (by rw [ef_1, sg_up_s, sgu_s]))) (Eq.trans (by rw [ef_14, sg_up_s, sgu_n (by decide)]; exact (by rw [ef_13, sg_up_s, sgu_s])) c_42) (by have k0 : (2 : Int32).toInt = 2 := (by decide); omega) H.size) (cwV 2 hts (gw_V (fun _ h => List.mem_cons_of_mem _ h) mw_744 mw_745 mw_746 mw_619 mw_743) rfl rfl rfl (by decide +kernel) ⟨Nat.le_of_ble_eq_true rfl, Nat.le_of_ble_eq_true rfl⟩) (sg_preV (ci := 12) (C := RX12) (T := TX12) (N := 55) hA hK hP hS hZ 0 (by decide) rfl rfl) rfl rfl hl.1 rfl (lv_room (Nat.le_of_ble_eq_true rfl)) dX12_act_66 ⟨Nat.le_refl _, Nat.le_refl _⟩) hA hS (fun r_48 f_45 L_46 Q_47 H locs hq hP hS => ?_)
        obtain ⟨⟨hI, hk_f_45, eL9, eQ9⟩, hq, p_49⟩ := hq
        rw [eL9, eQ9] at hP; clear eL9 eQ9
        have hF : sgK WkX12_act f f_45 := sgK.tr hF hk_f_45 (by decide)
        obtain ⟨v_50, ev_50⟩ : ∃ z : Int32, z = f_45 0 48 := ⟨_, rfl⟩
        have q_51 : 0 ≤ v_50.toInt ∧ v_50.toInt ≤ 19 := by rw [ev_50]; exact hI 0 48
        have q_52 : (f_45 0 48).toInt = v_50.toInt := (congrArg Int32.toInt (show f_45 0 48 = v_50 from ev_50.symm))
        have q_53 : (f_45 0 48).toInt = v_50.toInt := (congrArg Int32.toInt (show f_45 0 48 = v_50 from ev_50.symm))
        have k_54 : (2 : Int32).toInt = 2 := by decide
        exact hret _ _ _ _ (r_48) f_45 L Q dX12_act_69 hP hS ⟨⟨hI, hF, rfl, rfl⟩, trivial⟩
      · skip
        have c_55 : v_11 = 3 := Int32.toInt_inj.mp (by have k9 : (3 : Int32).toInt = 3 := (by decide); omega)
        refine W.eq (g2 := F0 m 66 ls [.int x2, .int 3, .ref (h 0)]) (by rw [c_55]) ?_
        have q_56 : (f_14 0 48).toInt = 0 := (congrArg Int32.toInt (show f_14 0 48 = 0 from (by rw [ef_14, sg_up_s, sgu_n (by decide)]; exact (by rw [ef_13, sg_up_s, sgu_n (by decide)]; exact (by rw [ef_1, sg_up_s, sgu_s]))))).trans (by decide)
        have q_57 : (f_14 0 48).toInt = 0 := (congrArg Int32.toInt (show f_14 0 48 = 0 from (by rw [ef_14, sg_up_s, sgu_n (by decide)]; exact (by rw [ef_13, sg_up_s, sgu_n (by decide)]; exact (by rw [ef_1, sg_up_s, sgu_s]))))).trans (by decide)
        refine sg_calli (va_runV (As := [.int 3, .int x2]) (rest := []) ⟨hx, hb, hml, hown, hts⟩ (kX12_setsAs_3_f0_f3 l D ca za h hh f_14 L Q hI x2 (by rw [ef_14, sg_up_s, sgu_n (by decide)]; exact (by rw [ef_13, sg_up_s, sgu_n (by decide)]; exact (by rw [ef_1, sg_up_s, sgu_s]))) (Eq.trans (by rw [ef_14, sg_up_s, sgu_n (by decide)]; exact (by rw [ef_13, sg_up_s, sgu_s])) c_55) (by have k0 : (3 : Int32).toInt = 3 := (by decide); omega) H.size) (cwV 2 hts (gw_V (fun _ h => List.mem_cons_of_mem _ h) mw_744 mw_745 mw_746 mw_619 mw_743) rfl rfl rfl (by decide +kernel) ⟨Nat.le_of_ble_eq_true rfl, Nat.le_of_ble_eq_true rfl⟩) (sg_preV (ci := 12) (C := RX12) (T := TX12) (N := 55) hA hK hP hS hZ 0 (by decide) rfl rfl) rfl rfl hl.1 rfl (lv_room (Nat.le_of_ble_eq_true rfl)) dX12_act_66 ⟨Nat.le_refl _, Nat.le_refl _⟩) hA hS (fun r_61 f_58 L_59 Q_60 H locs hq hP hS => ?_)
        obtain ⟨⟨hI, hk_f_58, eL9, eQ9⟩, hq, p_62⟩ := hq
        rw [eL9, eQ9] at hP; clear eL9 eQ9
        have hF : sgK WkX12_act f f_58 := sgK.tr hF hk_f_58 (by decide)
        obtain ⟨v_63, ev_63⟩ : ∃ z : Int32, z = f_58 0 48 := ⟨_, rfl⟩
        have q_64 : 0 ≤ v_63.toInt ∧ v_63.toInt ≤ 19 := by rw [ev_63]; exact hI 0 48
        have q_65 : (f_58 0 48).toInt = v_63.toInt := (congrArg Int32.toInt (show f_58 0 48 = v_63 from ev_63.symm))
        have q_66 : (f_58 0 48).toInt = v_63.toInt := (congrArg Int32.toInt (show f_58 0 48 = v_63 from ev_63.symm))
        have k_67 : (3 : Int32).toInt = 3 := by decide
        exact hret _ _ _ _ (r_61) f_58 L Q dX12_act_69 hP hS ⟨⟨hI, hF, rfl, rfl⟩, trivial⟩
      · skip
        have c_68 : v_11 = 4 := Int32.toInt_inj.mp (by have k9 : (4 : Int32).toInt = 4 := (by decide); omega)
        refine W.eq (g2 := F0 m 66 ls [.int x2, .int 4, .ref (h 0)]) (by rw [c_68]) ?_
        have q_69 : (f_14 0 48).toInt = 0 := (congrArg Int32.toInt (show f_14 0 48 = 0 from (by rw [ef_14, sg_up_s, sgu_n (by decide)]; exact (by rw [ef_13, sg_up_s, sgu_n (by decide)]; exact (by rw [ef_1, sg_up_s, sgu_s]))))).trans (by decide)
        have q_70 : (f_14 0 48).toInt = 0 := (congrArg Int32.toInt (show f_14 0 48 = 0 from (by rw [ef_14, sg_up_s, sgu_n (by decide)]; exact (by rw [ef_13, sg_up_s, sgu_n (by decide)]; exact (by rw [ef_1, sg_up_s, sgu_s]))))).trans (by decide)
        refine sg_calli (va_runV (As := [.int 4, .int x2]) (rest := []) ⟨hx, hb, hml, hown, hts⟩ (kX12_setsAs_4_f0_f4 l D ca za h hh f_14 L Q hI x2 (by rw [ef_14, sg_up_s, sgu_n (by decide)]; exact (by rw [ef_13, sg_up_s, sgu_n (by decide)]; exact (by rw [ef_1, sg_up_s, sgu_s]))) (Eq.trans (by rw [ef_14, sg_up_s, sgu_n (by decide)]; exact (by rw [ef_13, sg_up_s, sgu_s])) c_68) (by have k0 : (4 : Int32).toInt = 4 := (by decide); omega) H.size) (cwV 2 hts (gw_V (fun _ h => List.mem_cons_of_mem _ h) mw_744 mw_745 mw_746 mw_619 mw_743) rfl rfl rfl (by decide +kernel) ⟨Nat.le_of_ble_eq_true rfl, Nat.le_of_ble_eq_true rfl⟩) (sg_preV (ci := 12) (C := RX12) (T := TX12) (N := 55) hA hK hP hS hZ 0 (by decide) rfl rfl) rfl rfl hl.1 rfl (lv_room (Nat.le_of_ble_eq_true rfl)) dX12_act_66 ⟨Nat.le_refl _, Nat.le_refl _⟩) hA hS (fun r_74 f_71 L_72 Q_73 H locs hq hP hS => ?_)
        obtain ⟨⟨hI, hk_f_71, eL9, eQ9⟩, hq, p_75⟩ := hq
        rw [eL9, eQ9] at hP; clear eL9 eQ9
        have hF : sgK WkX12_act f f_71 := sgK.tr hF hk_f_71 (by decide)
        obtain ⟨v_76, ev_76⟩ : ∃ z : Int32, z = f_71 0 48 := ⟨_, rfl⟩
        have q_77 : 0 ≤ v_76.toInt ∧ v_76.toInt ≤ 19 := by rw [ev_76]; exact hI 0 48
        have q_78 : (f_71 0 48).toInt = v_76.toInt := (congrArg Int32.toInt (show f_71 0 48 = v_76 from ev_76.symm))
        have q_79 : (f_71 0 48).toInt = v_76.toInt := (congrArg Int32.toInt (show f_71 0 48 = v_76 from ev_76.symm))
        have k_80 : (4 : Int32).toInt = 4 := by decide
        exact hret _ _ _ _ (r_74) f_71 L Q dX12_act_69 hP hS ⟨⟨hI, hF, rfl, rfl⟩, trivial⟩
      · skip
        have c_81 : v_11 = 5 := Int32.toInt_inj.mp (by have k9 : (5 : Int32).toInt = 5 := (by decide); omega)
        refine W.eq (g2 := F0 m 66 ls [.int x2, .int 5, .ref (h 0)]) (by rw [c_81]) ?_
        have q_82 : (f_14 0 48).toInt = 0 := (congrArg Int32.toInt (show f_14 0 48 = 0 from (by rw [ef_14, sg_up_s, sgu_n (by decide)]; exact (by rw [ef_13, sg_up_s, sgu_n (by decide)]; exact (by rw [ef_1, sg_up_s, sgu_s]))))).trans (by decide)
        have q_83 : (f_14 0 48).toInt = 0 := (congrArg Int32.toInt (show f_14 0 48 = 0 from (by rw [ef_14, sg_up_s, sgu_n (by decide)]; exact (by rw [ef_13, sg_up_s, sgu_n (by decide)]; exact (by rw [ef_1, sg_up_s, sgu_s]))))).trans (by decide)
        refine sg_calli (va_runV (As := [.int 5, .int x2]) (rest := []) ⟨hx, hb, hml, hown, hts⟩ (kX12_setsAs_5_f0_f5 l D ca za h hh f_14 L Q hI x2 (by rw [ef_14, sg_up_s, sgu_n (by decide)]; exact (by rw [ef_13, sg_up_s, sgu_n (by decide)]; exact (by rw [ef_1, sg_up_s, sgu_s]))) (Eq.trans (by rw [ef_14, sg_up_s, sgu_n (by decide)]; exact (by rw [ef_13, sg_up_s, sgu_s])) c_81) (by have k0 : (5 : Int32).toInt = 5 := (by decide); omega) H.size) (cwV 2 hts (gw_V (fun _ h => List.mem_cons_of_mem _ h) mw_744 mw_745 mw_746 mw_619 mw_743) rfl rfl rfl (by decide +kernel) ⟨Nat.le_of_ble_eq_true rfl, Nat.le_of_ble_eq_true rfl⟩) (sg_preV (ci := 12) (C := RX12) (T := TX12) (N := 55) hA hK hP hS hZ 0 (by decide) rfl rfl) rfl rfl hl.1 rfl (lv_room (Nat.le_of_ble_eq_true rfl)) dX12_act_66 ⟨Nat.le_refl _, Nat.le_refl _⟩) hA hS (fun r_87 f_84 L_85 Q_86 H locs hq hP hS => ?_)
        obtain ⟨⟨hI, hk_f_84, eL9, eQ9⟩, hq, p_88⟩ := hq
        rw [eL9, eQ9] at hP; clear eL9 eQ9
        have hF : sgK WkX12_act f f_84 := sgK.tr hF hk_f_84 (by decide)
        obtain ⟨v_89, ev_89⟩ : ∃ z : Int32, z = f_84 0 48 := ⟨_, rfl⟩
        have q_90 : 0 ≤ v_89.toInt ∧ v_89.toInt ≤ 19 := by rw [ev_89]; exact hI 0 48
        have q_91 : (f_84 0 48).toInt = v_89.toInt := (congrArg Int32.toInt (show f_84 0 48 = v_89 from ev_89.symm))
        have q_92 : (f_84 0 48).toInt = v_89.toInt := (congrArg Int32.toInt (show f_84 0 48 = v_89 from ev_89.symm))
        have k_93 : (5 : Int32).toInt = 5 := by decide
        exact hret _ _ _ _ (r_87) f_84 L Q dX12_act_69 hP hS ⟨⟨hI, hF, rfl, rfl⟩, trivial⟩
      · skip
        have c_94 : v_11 = 6 := Int32.toInt_inj.mp (by have k9 : (6 : Int32).toInt = 6 := (by decide); omega)
        refine W.eq (g2 := F0 m 66 ls [.int x2, .int 6, .ref (h 0)]) (by rw [c_94]) ?_
        have q_95 : (f_14 0 48).toInt = 0 := (congrArg Int32.toInt (show f_14 0 48 = 0 from (by rw [ef_14, sg_up_s, sgu_n (by decide)]; exact (by rw [ef_13, sg_up_s, sgu_n (by decide)]; exact (by rw [ef_1, sg_up_s, sgu_s]))))).trans (by decide)
        have q_96 : (f_14 0 48).toInt = 0 := (congrArg Int32.toInt (show f_14 0 48 = 0 from (by rw [ef_14, sg_up_s, sgu_n (by decide)]; exact (by rw [ef_13, sg_up_s, sgu_n (by decide)]; exact (by rw [ef_1, sg_up_s, sgu_s]))))).trans (by decide)
        refine sg_calli (va_runV (As := [.int 6, .int x2]) (rest := []) ⟨hx, hb, hml, hown, hts⟩ (kX12_setsAs_6_f0_f6 l D ca za h hh f_14 L Q hI x2 (by rw [ef_14, sg_up_s, sgu_n (by decide)]; exact (by rw [ef_13, sg_up_s, sgu_n (by decide)]; exact (by rw [ef_1, sg_up_s, sgu_s]))) (Eq.trans (by rw [ef_14, sg_up_s, sgu_n (by decide)]; exact (by rw [ef_13, sg_up_s, sgu_s])) c_94) (by have k0 : (6 : Int32).toInt = 6 := (by decide); omega) H.size) (cwV 2 hts (gw_V (fun _ h => List.mem_cons_of_mem _ h) mw_744 mw_745 mw_746 mw_619 mw_743) rfl rfl rfl (by decide +kernel) ⟨Nat.le_of_ble_eq_true rfl, Nat.le_of_ble_eq_true rfl⟩) (sg_preV (ci := 12) (C := RX12) (T := TX12) (N := 55) hA hK hP hS hZ 0 (by decide) rfl rfl) rfl rfl hl.1 rfl (lv_room (Nat.le_of_ble_eq_true rfl)) dX12_act_66 ⟨Nat.le_refl _, Nat.le_refl _⟩) hA hS (fun r_100 f_97 L_98 Q_99 H locs hq hP hS => ?_)
        obtain ⟨⟨hI, hk_f_97, eL9, eQ9⟩, hq, p_101⟩ := hq
        rw [eL9, eQ9] at hP; clear eL9 eQ9
        have hF : sgK WkX12_act f f_97 := sgK.tr hF hk_f_97 (by decide)
        obtain ⟨v_102, ev_102⟩ : ∃ z : Int32, z = f_97 0 48 := ⟨_, rfl⟩
        have q_103 : 0 ≤ v_102.toInt ∧ v_102.toInt ≤ 19 := by rw [ev_102]; exact hI 0 48
        have q_104 : (f_97 0 48).toInt = v_102.toInt := (congrArg Int32.toInt (show f_97 0 48 = v_102 from ev_102.symm))
        have q_105 : (f_97 0 48).toInt = v_102.toInt := (congrArg Int32.toInt (show f_97 0 48 = v_102 from ev_102.symm))
        have k_106 : (6 : Int32).toInt = 6 := by decide
        exact hret _ _ _ _ (r_100) f_97 L Q dX12_act_69 hP hS ⟨⟨hI, hF, rfl, rfl⟩, trivial⟩
      · skip
        have c_107 : v_11 = 7 := Int32.toInt_inj.mp (by have k9 : (7 : Int32).toInt = 7 := (by decide); omega)
        refine W.eq (g2 := F0 m 66 ls [.int x2, .int 7, .ref (h 0)]) (by rw [c_107]) ?_
        have q_108 : (f_14 0 48).toInt = 0 := (congrArg Int32.toInt (show f_14 0 48 = 0 from (by rw [ef_14, sg_up_s, sgu_n (by decide)]; exact (by rw [ef_13, sg_up_s, sgu_n (by decide)]; exact (by rw [ef_1, sg_up_s, sgu_s]))))).trans (by decide)
        have q_109 : (f_14 0 48).toInt = 0 := (congrArg Int32.toInt (show f_14 0 48 = 0 from (by rw [ef_14, sg_up_s, sgu_n (by decide)]; exact (by rw [ef_13, sg_up_s, sgu_n (by decide)]; exact (by rw [ef_1, sg_up_s, sgu_s]))))).trans (by decide)
        refine sg_calli (va_runV (As := [.int 7, .int x2]) (rest := []) ⟨hx, hb, hml, hown, hts⟩ (kX12_setsAs_7_f0_f7 l D ca za h hh f_14 L Q hI x2 (by rw [ef_14, sg_up_s, sgu_n (by decide)]; exact (by rw [ef_13, sg_up_s, sgu_n (by decide)]; exact (by rw [ef_1, sg_up_s, sgu_s]))) (Eq.trans (by rw [ef_14, sg_up_s, sgu_n (by decide)]; exact (by rw [ef_13, sg_up_s, sgu_s])) c_107) (by have k0 : (7 : Int32).toInt = 7 := (by decide); omega) H.size) (cwV 2 hts (gw_V (fun _ h => List.mem_cons_of_mem _ h) mw_744 mw_745 mw_746 mw_619 mw_743) rfl rfl rfl (by decide +kernel) ⟨Nat.le_of_ble_eq_true rfl, Nat.le_of_ble_eq_true rfl⟩) (sg_preV (ci := 12) (C := RX12) (T := TX12) (N := 55) hA hK hP hS hZ 0 (by decide) rfl rfl) rfl rfl hl.1 rfl (lv_room (Nat.le_of_ble_eq_true rfl)) dX12_act_66 ⟨Nat.le_refl _, Nat.le_refl _⟩) hA hS (fun r_113 f_110 L_111 Q_112 H locs hq hP hS => ?_)
        obtain ⟨⟨hI, hk_f_110, eL9, eQ9⟩, hq, p_114⟩ := hq
        rw [eL9, eQ9] at hP; clear eL9 eQ9
        have hF : sgK WkX12_act f f_110 := sgK.tr hF hk_f_110 (by decide)
        obtain ⟨v_115, ev_115⟩ : ∃ z : Int32, z = f_110 0 48 := ⟨_, rfl⟩
        have q_116 : 0 ≤ v_115.toInt ∧ v_115.toInt ≤ 19 := by rw [ev_115]; exact hI 0 48
        have q_117 : (f_110 0 48).toInt = v_115.toInt := (congrArg Int32.toInt (show f_110 0 48 = v_115 from ev_115.symm))
        have q_118 : (f_110 0 48).toInt = v_115.toInt := (congrArg Int32.toInt (show f_110 0 48 = v_115 from ev_115.symm))
        have k_119 : (7 : Int32).toInt = 7 := by decide
        exact hret _ _ _ _ (r_113) f_110 L Q dX12_act_69 hP hS ⟨⟨hI, hF, rfl, rfl⟩, trivial⟩
    · skip
      have c_120 := c
      refine lv_tableIn (x := x1) (tgt := 70) hx hb dX12_act_31 (by omega) (by omega) (by rw [c]; rfl) (by decide) ?_
      refine lv_aload_n hx hb dX12_act_70 rfl (lv_at hl 0 rfl) ?_
      refine lv_aload_n hx hb dX12_act_71 rfl (lv_at hl 0 rfl) ?_
      refine sg_get (ci := 12) (v := .int v_11) (C := RX12) (T := TX12) (N := 55) hx hb hts (fun w h => List.mem_cons_of_mem _ (gx_12 w h)) hown hK hP 0 (by decide) rfl rfl 49 (by decide) (hts _ (List.mem_cons_of_mem _ mw_679)) (fun _ h9 => h9) (congrArg (fun z => some (Value.int z)) (show f_14 0 49 = v_11 from (by rw [ef_14, sg_up_s, sgu_n (by decide)]; exact (by rw [ef_13, sg_up_s, sgu_s])))) dX12_act_72 ?_
      refine lv_iload_n hx hb dX12_act_75 rfl (lv_at hl 3 rfl) ?_
      rcases (show v_11.toInt = 0 ∨ v_11.toInt = 1 ∨ v_11.toInt = 2 ∨ v_11.toInt = 3 ∨ v_11.toInt = 4 ∨ v_11.toInt = 5 ∨ v_11.toInt = 6 ∨ v_11.toInt = 7 from by omega) with c | c | c | c | c | c | c | c
      · skip
        have c_121 : v_11 = 0 := Int32.toInt_inj.mp (by have k9 : (0 : Int32).toInt = 0 := (by decide); omega)
        refine W.eq (g2 := F0 m 76 ls [.int x2, .int 0, .ref (h 0)]) (by rw [c_121]) ?_
        have q_122 : (f_14 0 48).toInt = 0 := (congrArg Int32.toInt (show f_14 0 48 = 0 from (by rw [ef_14, sg_up_s, sgu_n (by decide)]; exact (by rw [ef_13, sg_up_s, sgu_n (by decide)]; exact (by rw [ef_1, sg_up_s, sgu_s]))))).trans (by decide)
        have q_123 : (f_14 0 48).toInt = 0 := (congrArg Int32.toInt (show f_14 0 48 = 0 from (by rw [ef_14, sg_up_s, sgu_n (by decide)]; exact (by rw [ef_13, sg_up_s, sgu_n (by decide)]; exact (by rw [ef_1, sg_up_s, sgu_s]))))).trans (by decide)
        refine sg_calli (va_runV (As := [.int 0, .int x2]) (rest := []) ⟨hx, hb, hml, hown, hts⟩ (kX12_sitsAs_0_f0_f0 l D ca za h hh f_14 L Q hI x2 (by rw [ef_14, sg_up_s, sgu_n (by decide)]; exact (by rw [ef_13, sg_up_s, sgu_n (by decide)]; exact (by rw [ef_1, sg_up_s, sgu_s]))) (Eq.trans (by rw [ef_14, sg_up_s, sgu_n (by decide)]; exact (by rw [ef_13, sg_up_s, sgu_s])) c_121) (by have k0 : (0 : Int32).toInt = 0 := (by decide); omega) H.size) (cwV 2 hts (gw_V (fun _ h => List.mem_cons_of_mem _ h) mw_801 mw_802 mw_803 mw_619 mw_800) rfl rfl rfl (by decide +kernel) ⟨Nat.le_of_ble_eq_true rfl, Nat.le_of_ble_eq_true rfl⟩) (sg_preV (ci := 12) (C := RX12) (T := TX12) (N := 55) hA hK hP hS hZ 0 (by decide) rfl rfl) rfl rfl hl.1 rfl (lv_room (Nat.le_of_ble_eq_true rfl)) dX12_act_76 ⟨Nat.le_refl _, Nat.le_refl _⟩) hA hS (fun r_127 f_124 L_125 Q_126 H locs hq hP hS => ?_)
        obtain ⟨⟨hI, hk_f_124, eL9, eQ9⟩, hq, p_128⟩ := hq
        rw [eL9, eQ9] at hP; clear eL9 eQ9
        have hF : sgK WkX12_act f f_124 := sgK.tr hF hk_f_124 (by decide)
        obtain ⟨v_129, ev_129⟩ : ∃ z : Int32, z = f_124 0 48 := ⟨_, rfl⟩
        have q_130 : 0 ≤ v_129.toInt ∧ v_129.toInt ≤ 19 := by rw [ev_129]; exact hI 0 48
        have q_131 : (f_124 0 48).toInt = v_129.toInt := (congrArg Int32.toInt (show f_124 0 48 = v_129 from ev_129.symm))
        have q_132 : (f_124 0 48).toInt = v_129.toInt := (congrArg Int32.toInt (show f_124 0 48 = v_129 from ev_129.symm))
        have k_133 : (0 : Int32).toInt = 0 := by decide
        exact hret _ _ _ _ (r_127) f_124 L Q dX12_act_79 hP hS ⟨⟨hI, hF, rfl, rfl⟩, trivial⟩
      · skip
        have c_134 : v_11 = 1 := Int32.toInt_inj.mp (by have k9 : (1 : Int32).toInt = 1 := (by decide); omega)
        refine W.eq (g2 := F0 m 76 ls [.int x2, .int 1, .ref (h 0)]) (by rw [c_134]) ?_
        have q_135 : (f_14 0 48).toInt = 0 := (congrArg Int32.toInt (show f_14 0 48 = 0 from (by rw [ef_14, sg_up_s, sgu_n (by decide)]; exact (by rw [ef_13, sg_up_s, sgu_n (by decide)]; exact (by rw [ef_1, sg_up_s, sgu_s]))))).trans (by decide)
        have q_136 : (f_14 0 48).toInt = 0 := (congrArg Int32.toInt (show f_14 0 48 = 0 from (by rw [ef_14, sg_up_s, sgu_n (by decide)]; exact (by rw [ef_13, sg_up_s, sgu_n (by decide)]; exact (by rw [ef_1, sg_up_s, sgu_s]))))).trans (by decide)
        refine sg_calli (va_runV (As := [.int 1, .int x2]) (rest := []) ⟨hx, hb, hml, hown, hts⟩ (kX12_sitsAs_1_f0_f1 l D ca za h hh f_14 L Q hI x2 (by rw [ef_14, sg_up_s, sgu_n (by decide)]; exact (by rw [ef_13, sg_up_s, sgu_n (by decide)]; exact (by rw [ef_1, sg_up_s, sgu_s]))) (Eq.trans (by rw [ef_14, sg_up_s, sgu_n (by decide)]; exact (by rw [ef_13, sg_up_s, sgu_s])) c_134) (by have k0 : (1 : Int32).toInt = 1 := (by decide); omega) H.size) (cwV 2 hts (gw_V (fun _ h => List.mem_cons_of_mem _ h) mw_801 mw_802 mw_803 mw_619 mw_800) rfl rfl rfl (by decide +kernel) ⟨Nat.le_of_ble_eq_true rfl, Nat.le_of_ble_eq_true rfl⟩) (sg_preV (ci := 12) (C := RX12) (T := TX12) (N := 55) hA hK hP hS hZ 0 (by decide) rfl rfl) rfl rfl hl.1 rfl (lv_room (Nat.le_of_ble_eq_true rfl)) dX12_act_76 ⟨Nat.le_refl _, Nat.le_refl _⟩) hA hS (fun r_140 f_137 L_138 Q_139 H locs hq hP hS => ?_)
        obtain ⟨⟨hI, hk_f_137, eL9, eQ9⟩, hq, p_141⟩ := hq
        rw [eL9, eQ9] at hP; clear eL9 eQ9
        have hF : sgK WkX12_act f f_137 := sgK.tr hF hk_f_137 (by decide)
        obtain ⟨v_142, ev_142⟩ : ∃ z : Int32, z = f_137 0 48 := ⟨_, rfl⟩
        have q_143 : 0 ≤ v_142.toInt ∧ v_142.toInt ≤ 19 := by rw [ev_142]; exact hI 0 48
        have q_144 : (f_137 0 48).toInt = v_142.toInt := (congrArg Int32.toInt (show f_137 0 48 = v_142 from ev_142.symm))
        have q_145 : (f_137 0 48).toInt = v_142.toInt := (congrArg Int32.toInt (show f_137 0 48 = v_142 from ev_142.symm))
        have k_146 : (1 : Int32).toInt = 1 := by decide
        exact hret _ _ _ _ (r_140) f_137 L Q dX12_act_79 hP hS ⟨⟨hI, hF, rfl, rfl⟩, trivial⟩
      · skip
        have c_147 : v_11 = 2 := Int32.toInt_inj.mp (by have k9 : (2 : Int32).toInt = 2 := (by decide); omega)
        refine W.eq (g2 := F0 m 76 ls [.int x2, .int 2, .ref (h 0)]) (by rw [c_147]) ?_
        have q_148 : (f_14 0 48).toInt = 0 := (congrArg Int32.toInt (show f_14 0 48 = 0 from (by rw [ef_14, sg_up_s, sgu_n (by decide)]; exact (by rw [ef_13, sg_up_s, sgu_n (by decide)]; exact (by rw [ef_1, sg_up_s, sgu_s]))))).trans (by decide)
        have q_149 : (f_14 0 48).toInt = 0 := (congrArg Int32.toInt (show f_14 0 48 = 0 from (by rw [ef_14, sg_up_s, sgu_n (by decide)]; exact (by rw [ef_13, sg_up_s, sgu_n (by decide)]; exact (by rw [ef_1, sg_up_s, sgu_s]))))).trans (by decide)
        refine sg_calli (va_runV (As := [.int 2, .int x2]) (rest := []) ⟨hx, hb, hml, hown, hts⟩ (kX12_sitsAs_2_f0_f2 l D ca za h hh f_14 L Q hI x2 (by rw [ef_14, sg_up_s, sgu_n (by decide)]; exact (by rw [ef_13, sg_up_s, sgu_n (by decide)]; exact (by rw [ef_1, sg_up_s, sgu_s]))) (Eq.trans (by rw [ef_14, sg_up_s, sgu_n (by decide)]; exact (by rw [ef_13, sg_up_s, sgu_s])) c_147) (by have k0 : (2 : Int32).toInt = 2 := (by decide); omega) H.size) (cwV 2 hts (gw_V (fun _ h => List.mem_cons_of_mem _ h) mw_801 mw_802 mw_803 mw_619 mw_800) rfl rfl rfl (by decide +kernel) ⟨Nat.le_of_ble_eq_true rfl, Nat.le_of_ble_eq_true rfl⟩) (sg_preV (ci := 12) (C := RX12) (T := TX12) (N := 55) hA hK hP hS hZ 0 (by decide) rfl rfl) rfl rfl hl.1 rfl (lv_room (Nat.le_of_ble_eq_true rfl)) dX12_act_76 ⟨Nat.le_refl _, Nat.le_refl _⟩) hA hS (fun r_153 f_150 L_151 Q_152 H locs hq hP hS => ?_)
        obtain ⟨⟨hI, hk_f_150, eL9, eQ9⟩, hq, p_154⟩ := hq
        rw [eL9, eQ9] at hP; clear eL9 eQ9
        have hF : sgK WkX12_act f f_150 := sgK.tr hF hk_f_150 (by decide)
        obtain ⟨v_155, ev_155⟩ : ∃ z : Int32, z = f_150 0 48 := ⟨_, rfl⟩
        have q_156 : 0 ≤ v_155.toInt ∧ v_155.toInt ≤ 19 := by rw [ev_155]; exact hI 0 48
        have q_157 : (f_150 0 48).toInt = v_155.toInt := (congrArg Int32.toInt (show f_150 0 48 = v_155 from ev_155.symm))
        have q_158 : (f_150 0 48).toInt = v_155.toInt := (congrArg Int32.toInt (show f_150 0 48 = v_155 from ev_155.symm))
        have k_159 : (2 : Int32).toInt = 2 := by decide
        exact hret _ _ _ _ (r_153) f_150 L Q dX12_act_79 hP hS ⟨⟨hI, hF, rfl, rfl⟩, trivial⟩
      · skip
        have c_160 : v_11 = 3 := Int32.toInt_inj.mp (by have k9 : (3 : Int32).toInt = 3 := (by decide); omega)
        refine W.eq (g2 := F0 m 76 ls [.int x2, .int 3, .ref (h 0)]) (by rw [c_160]) ?_
        have q_161 : (f_14 0 48).toInt = 0 := (congrArg Int32.toInt (show f_14 0 48 = 0 from (by rw [ef_14, sg_up_s, sgu_n (by decide)]; exact (by rw [ef_13, sg_up_s, sgu_n (by decide)]; exact (by rw [ef_1, sg_up_s, sgu_s]))))).trans (by decide)
        have q_162 : (f_14 0 48).toInt = 0 := (congrArg Int32.toInt (show f_14 0 48 = 0 from (by rw [ef_14, sg_up_s, sgu_n (by decide)]; exact (by rw [ef_13, sg_up_s, sgu_n (by decide)]; exact (by rw [ef_1, sg_up_s, sgu_s]))))).trans (by decide)
        refine sg_calli (va_runV (As := [.int 3, .int x2]) (rest := []) ⟨hx, hb, hml, hown, hts⟩ (kX12_sitsAs_3_f0_f3 l D ca za h hh f_14 L Q hI x2 (by rw [ef_14, sg_up_s, sgu_n (by decide)]; exact (by rw [ef_13, sg_up_s, sgu_n (by decide)]; exact (by rw [ef_1, sg_up_s, sgu_s]))) (Eq.trans (by rw [ef_14, sg_up_s, sgu_n (by decide)]; exact (by rw [ef_13, sg_up_s, sgu_s])) c_160) (by have k0 : (3 : Int32).toInt = 3 := (by decide); omega) H.size) (cwV 2 hts (gw_V (fun _ h => List.mem_cons_of_mem _ h) mw_801 mw_802 mw_803 mw_619 mw_800) rfl rfl rfl (by decide +kernel) ⟨Nat.le_of_ble_eq_true rfl, Nat.le_of_ble_eq_true rfl⟩) (sg_preV (ci := 12) (C := RX12) (T := TX12) (N := 55) hA hK hP hS hZ 0 (by decide) rfl rfl) rfl rfl hl.1 rfl (lv_room (Nat.le_of_ble_eq_true rfl)) dX12_act_76 ⟨Nat.le_refl _, Nat.le_refl _⟩) hA hS (fun r_166 f_163 L_164 Q_165 H locs hq hP hS => ?_)
        obtain ⟨⟨hI, hk_f_163, eL9, eQ9⟩, hq, p_167⟩ := hq
        rw [eL9, eQ9] at hP; clear eL9 eQ9
        have hF : sgK WkX12_act f f_163 := sgK.tr hF hk_f_163 (by decide)
        obtain ⟨v_168, ev_168⟩ : ∃ z : Int32, z = f_163 0 48 := ⟨_, rfl⟩
        have q_169 : 0 ≤ v_168.toInt ∧ v_168.toInt ≤ 19 := by rw [ev_168]; exact hI 0 48
        have q_170 : (f_163 0 48).toInt = v_168.toInt := (congrArg Int32.toInt (show f_163 0 48 = v_168 from ev_168.symm))
        have q_171 : (f_163 0 48).toInt = v_168.toInt := (congrArg Int32.toInt (show f_163 0 48 = v_168 from ev_168.symm))
        have k_172 : (3 : Int32).toInt = 3 := by decide
        exact hret _ _ _ _ (r_166) f_163 L Q dX12_act_79 hP hS ⟨⟨hI, hF, rfl, rfl⟩, trivial⟩
      · skip
        have c_173 : v_11 = 4 := Int32.toInt_inj.mp (by have k9 : (4 : Int32).toInt = 4 := (by decide); omega)
        refine W.eq (g2 := F0 m 76 ls [.int x2, .int 4, .ref (h 0)]) (by rw [c_173]) ?_
        have q_174 : (f_14 0 48).toInt = 0 := (congrArg Int32.toInt (show f_14 0 48 = 0 from (by rw [ef_14, sg_up_s, sgu_n (by decide)]; exact (by rw [ef_13, sg_up_s, sgu_n (by decide)]; exact (by rw [ef_1, sg_up_s, sgu_s]))))).trans (by decide)
        have q_175 : (f_14 0 48).toInt = 0 := (congrArg Int32.toInt (show f_14 0 48 = 0 from (by rw [ef_14, sg_up_s, sgu_n (by decide)]; exact (by rw [ef_13, sg_up_s, sgu_n (by decide)]; exact (by rw [ef_1, sg_up_s, sgu_s]))))).trans (by decide)
        refine sg_calli (va_runV (As := [.int 4, .int x2]) (rest := []) ⟨hx, hb, hml, hown, hts⟩ (kX12_sitsAs_4_f0_f4 l D ca za h hh f_14 L Q hI x2 (by rw [ef_14, sg_up_s, sgu_n (by decide)]; exact (by rw [ef_13, sg_up_s, sgu_n (by decide)]; exact (by rw [ef_1, sg_up_s, sgu_s]))) (Eq.trans (by rw [ef_14, sg_up_s, sgu_n (by decide)]; exact (by rw [ef_13, sg_up_s, sgu_s])) c_173) (by have k0 : (4 : Int32).toInt = 4 := (by decide); omega) H.size) (cwV 2 hts (gw_V (fun _ h => List.mem_cons_of_mem _ h) mw_801 mw_802 mw_803 mw_619 mw_800) rfl rfl rfl (by decide +kernel) ⟨Nat.le_of_ble_eq_true rfl, Nat.le_of_ble_eq_true rfl⟩) (sg_preV (ci := 12) (C := RX12) (T := TX12) (N := 55) hA hK hP hS hZ 0 (by decide) rfl rfl) rfl rfl hl.1 rfl (lv_room (Nat.le_of_ble_eq_true rfl)) dX12_act_76 ⟨Nat.le_refl _, Nat.le_refl _⟩) hA hS (fun r_179 f_176 L_177 Q_178 H locs hq hP hS => ?_)
        obtain ⟨⟨hI, hk_f_176, eL9, eQ9⟩, hq, p_180⟩ := hq
        rw [eL9, eQ9] at hP; clear eL9 eQ9
        have hF : sgK WkX12_act f f_176 := sgK.tr hF hk_f_176 (by decide)
        obtain ⟨v_181, ev_181⟩ : ∃ z : Int32, z = f_176 0 48 := ⟨_, rfl⟩
        have q_182 : 0 ≤ v_181.toInt ∧ v_181.toInt ≤ 19 := by rw [ev_181]; exact hI 0 48
        have q_183 : (f_176 0 48).toInt = v_181.toInt := (congrArg Int32.toInt (show f_176 0 48 = v_181 from ev_181.symm))
        have q_184 : (f_176 0 48).toInt = v_181.toInt := (congrArg Int32.toInt (show f_176 0 48 = v_181 from ev_181.symm))
        have k_185 : (4 : Int32).toInt = 4 := by decide
        exact hret _ _ _ _ (r_179) f_176 L Q dX12_act_79 hP hS ⟨⟨hI, hF, rfl, rfl⟩, trivial⟩
      · skip
        have c_186 : v_11 = 5 := Int32.toInt_inj.mp (by have k9 : (5 : Int32).toInt = 5 := (by decide); omega)
        refine W.eq (g2 := F0 m 76 ls [.int x2, .int 5, .ref (h 0)]) (by rw [c_186]) ?_
        have q_187 : (f_14 0 48).toInt = 0 := (congrArg Int32.toInt (show f_14 0 48 = 0 from (by rw [ef_14, sg_up_s, sgu_n (by decide)]; exact (by rw [ef_13, sg_up_s, sgu_n (by decide)]; exact (by rw [ef_1, sg_up_s, sgu_s]))))).trans (by decide)
        have q_188 : (f_14 0 48).toInt = 0 := (congrArg Int32.toInt (show f_14 0 48 = 0 from (by rw [ef_14, sg_up_s, sgu_n (by decide)]; exact (by rw [ef_13, sg_up_s, sgu_n (by decide)]; exact (by rw [ef_1, sg_up_s, sgu_s]))))).trans (by decide)
        refine sg_calli (va_runV (As := [.int 5, .int x2]) (rest := []) ⟨hx, hb, hml, hown, hts⟩ (kX12_sitsAs_5_f0_f5 l D ca za h hh f_14 L Q hI x2 (by rw [ef_14, sg_up_s, sgu_n (by decide)]; exact (by rw [ef_13, sg_up_s, sgu_n (by decide)]; exact (by rw [ef_1, sg_up_s, sgu_s]))) (Eq.trans (by rw [ef_14, sg_up_s, sgu_n (by decide)]; exact (by rw [ef_13, sg_up_s, sgu_s])) c_186) (by have k0 : (5 : Int32).toInt = 5 := (by decide); omega) H.size) (cwV 2 hts (gw_V (fun _ h => List.mem_cons_of_mem _ h) mw_801 mw_802 mw_803 mw_619 mw_800) rfl rfl rfl (by decide +kernel) ⟨Nat.le_of_ble_eq_true rfl, Nat.le_of_ble_eq_true rfl⟩) (sg_preV (ci := 12) (C := RX12) (T := TX12) (N := 55) hA hK hP hS hZ 0 (by decide) rfl rfl) rfl rfl hl.1 rfl (lv_room (Nat.le_of_ble_eq_true rfl)) dX12_act_76 ⟨Nat.le_refl _, Nat.le_refl _⟩) hA hS (fun r_192 f_189 L_190 Q_191 H locs hq hP hS => ?_)
        obtain ⟨⟨hI, hk_f_189, eL9, eQ9⟩, hq, p_193⟩ := hq
        rw [eL9, eQ9] at hP; clear eL9 eQ9
        have hF : sgK WkX12_act f f_189 := sgK.tr hF hk_f_189 (by decide)
        obtain ⟨v_194, ev_194⟩ : ∃ z : Int32, z = f_189 0 48 := ⟨_, rfl⟩
        have q_195 : 0 ≤ v_194.toInt ∧ v_194.toInt ≤ 19 := by rw [ev_194]; exact hI 0 48
        have q_196 : (f_189 0 48).toInt = v_194.toInt := (congrArg Int32.toInt (show f_189 0 48 = v_194 from ev_194.symm))
        have q_197 : (f_189 0 48).toInt = v_194.toInt := (congrArg Int32.toInt (show f_189 0 48 = v_194 from ev_194.symm))
        have k_198 : (5 : Int32).toInt = 5 := by decide
        exact hret _ _ _ _ (r_192) f_189 L Q dX12_act_79 hP hS ⟨⟨hI, hF, rfl, rfl⟩, trivial⟩
      · skip
        have c_199 : v_11 = 6 := Int32.toInt_inj.mp (by have k9 : (6 : Int32).toInt = 6 := (by decide); omega)
        refine W.eq (g2 := F0 m 76 ls [.int x2, .int 6, .ref (h 0)]) (by rw [c_199]) ?_
        have q_200 : (f_14 0 48).toInt = 0 := (congrArg Int32.toInt (show f_14 0 48 = 0 from (by rw [ef_14, sg_up_s, sgu_n (by decide)]; exact (by rw [ef_13, sg_up_s, sgu_n (by decide)]; exact (by rw [ef_1, sg_up_s, sgu_s]))))).trans (by decide)
        have q_201 : (f_14 0 48).toInt = 0 := (congrArg Int32.toInt (show f_14 0 48 = 0 from (by rw [ef_14, sg_up_s, sgu_n (by decide)]; exact (by rw [ef_13, sg_up_s, sgu_n (by decide)]; exact (by rw [ef_1, sg_up_s, sgu_s]))))).trans (by decide)
        refine sg_calli (va_runV (As := [.int 6, .int x2]) (rest := []) ⟨hx, hb, hml, hown, hts⟩ (kX12_sitsAs_6_f0_f6 l D ca za h hh f_14 L Q hI x2 (by rw [ef_14, sg_up_s, sgu_n (by decide)]; exact (by rw [ef_13, sg_up_s, sgu_n (by decide)]; exact (by rw [ef_1, sg_up_s, sgu_s]))) (Eq.trans (by rw [ef_14, sg_up_s, sgu_n (by decide)]; exact (by rw [ef_13, sg_up_s, sgu_s])) c_199) (by have k0 : (6 : Int32).toInt = 6 := (by decide); omega) H.size) (cwV 2 hts (gw_V (fun _ h => List.mem_cons_of_mem _ h) mw_801 mw_802 mw_803 mw_619 mw_800) rfl rfl rfl (by decide +kernel) ⟨Nat.le_of_ble_eq_true rfl, Nat.le_of_ble_eq_true rfl⟩) (sg_preV (ci := 12) (C := RX12) (T := TX12) (N := 55) hA hK hP hS hZ 0 (by decide) rfl rfl) rfl rfl hl.1 rfl (lv_room (Nat.le_of_ble_eq_true rfl)) dX12_act_76 ⟨Nat.le_refl _, Nat.le_refl _⟩) hA hS (fun r_205 f_202 L_203 Q_204 H locs hq hP hS => ?_)
        obtain ⟨⟨hI, hk_f_202, eL9, eQ9⟩, hq, p_206⟩ := hq
        rw [eL9, eQ9] at hP; clear eL9 eQ9
        have hF : sgK WkX12_act f f_202 := sgK.tr hF hk_f_202 (by decide)
        obtain ⟨v_207, ev_207⟩ : ∃ z : Int32, z = f_202 0 48 := ⟨_, rfl⟩
        have q_208 : 0 ≤ v_207.toInt ∧ v_207.toInt ≤ 19 := by rw [ev_207]; exact hI 0 48
        have q_209 : (f_202 0 48).toInt = v_207.toInt := (congrArg Int32.toInt (show f_202 0 48 = v_207 from ev_207.symm))
        have q_210 : (f_202 0 48).toInt = v_207.toInt := (congrArg Int32.toInt (show f_202 0 48 = v_207 from ev_207.symm))
        have k_211 : (6 : Int32).toInt = 6 := by decide
        exact hret _ _ _ _ (r_205) f_202 L Q dX12_act_79 hP hS ⟨⟨hI, hF, rfl, rfl⟩, trivial⟩
      · skip
        have c_212 : v_11 = 7 := Int32.toInt_inj.mp (by have k9 : (7 : Int32).toInt = 7 := (by decide); omega)
        refine W.eq (g2 := F0 m 76 ls [.int x2, .int 7, .ref (h 0)]) (by rw [c_212]) ?_
        have q_213 : (f_14 0 48).toInt = 0 := (congrArg Int32.toInt (show f_14 0 48 = 0 from (by rw [ef_14, sg_up_s, sgu_n (by decide)]; exact (by rw [ef_13, sg_up_s, sgu_n (by decide)]; exact (by rw [ef_1, sg_up_s, sgu_s]))))).trans (by decide)
        have q_214 : (f_14 0 48).toInt = 0 := (congrArg Int32.toInt (show f_14 0 48 = 0 from (by rw [ef_14, sg_up_s, sgu_n (by decide)]; exact (by rw [ef_13, sg_up_s, sgu_n (by decide)]; exact (by rw [ef_1, sg_up_s, sgu_s]))))).trans (by decide)
        refine sg_calli (va_runV (As := [.int 7, .int x2]) (rest := []) ⟨hx, hb, hml, hown, hts⟩ (kX12_sitsAs_7_f0_f7 l D ca za h hh f_14 L Q hI x2 (by rw [ef_14, sg_up_s, sgu_n (by decide)]; exact (by rw [ef_13, sg_up_s, sgu_n (by decide)]; exact (by rw [ef_1, sg_up_s, sgu_s]))) (Eq.trans (by rw [ef_14, sg_up_s, sgu_n (by decide)]; exact (by rw [ef_13, sg_up_s, sgu_s])) c_212) (by have k0 : (7 : Int32).toInt = 7 := (by decide); omega) H.size) (cwV 2 hts (gw_V (fun _ h => List.mem_cons_of_mem _ h) mw_801 mw_802 mw_803 mw_619 mw_800) rfl rfl rfl (by decide +kernel) ⟨Nat.le_of_ble_eq_true rfl, Nat.le_of_ble_eq_true rfl⟩) (sg_preV (ci := 12) (C := RX12) (T := TX12) (N := 55) hA hK hP hS hZ 0 (by decide) rfl rfl) rfl rfl hl.1 rfl (lv_room (Nat.le_of_ble_eq_true rfl)) dX12_act_76 ⟨Nat.le_refl _, Nat.le_refl _⟩) hA hS (fun r_218 f_215 L_216 Q_217 H locs hq hP hS => ?_)
        obtain ⟨⟨hI, hk_f_215, eL9, eQ9⟩, hq, p_219⟩ := hq
        rw [eL9, eQ9] at hP; clear eL9 eQ9
        have hF : sgK WkX12_act f f_215 := sgK.tr hF hk_f_215 (by decide)
        obtain ⟨v_220, ev_220⟩ : ∃ z : Int32, z = f_215 0 48 := ⟨_, rfl⟩
        have q_221 : 0 ≤ v_220.toInt ∧ v_220.toInt ≤ 19 := by rw [ev_220]; exact hI 0 48
        have q_222 : (f_215 0 48).toInt = v_220.toInt := (congrArg Int32.toInt (show f_215 0 48 = v_220 from ev_220.symm))
        have q_223 : (f_215 0 48).toInt = v_220.toInt := (congrArg Int32.toInt (show f_215 0 48 = v_220 from ev_220.symm))
        have k_224 : (7 : Int32).toInt = 7 := by decide
        exact hret _ _ _ _ (r_218) f_215 L Q dX12_act_79 hP hS ⟨⟨hI, hF, rfl, rfl⟩, trivial⟩
    · skip
      have c_225 := c
      refine lv_tableIn (x := x1) (tgt := 80) hx hb dX12_act_31 (by omega) (by omega) (by rw [c]; rfl) (by decide) ?_
      refine lv_aload_n hx hb dX12_act_80 rfl (lv_at hl 0 rfl) ?_
      refine lv_aload_n hx hb dX12_act_81 rfl (lv_at hl 0 rfl) ?_
      refine sg_get (ci := 12) (v := .int v_11) (C := RX12) (T := TX12) (N := 55) hx hb hts (fun w h => List.mem_cons_of_mem _ (gx_12 w h)) hown hK hP 0 (by decide) rfl rfl 49 (by decide) (hts _ (List.mem_cons_of_mem _ mw_679)) (fun _ h9 => h9) (congrArg (fun z => some (Value.int z)) (show f_14 0 49 = v_11 from (by rw [ef_14, sg_up_s, sgu_n (by decide)]; exact (by rw [ef_13, sg_up_s, sgu_s])))) dX12_act_82 ?_
      refine lv_iload_n hx hb dX12_act_85 rfl (lv_at hl 3 rfl) ?_
      rcases (show v_11.toInt = 0 ∨ v_11.toInt = 1 ∨ v_11.toInt = 2 ∨ v_11.toInt = 3 ∨ v_11.toInt = 4 ∨ v_11.toInt = 5 ∨ v_11.toInt = 6 ∨ v_11.toInt = 7 from by omega) with c | c | c | c | c | c | c | c
      · skip
        have c_226 : v_11 = 0 := Int32.toInt_inj.mp (by have k9 : (0 : Int32).toInt = 0 := (by decide); omega)
        refine W.eq (g2 := F0 m 86 ls [.int x2, .int 0, .ref (h 0)]) (by rw [c_226]) ?_
        have q_227 : (f_14 0 48).toInt = 0 := (congrArg Int32.toInt (show f_14 0 48 = 0 from (by rw [ef_14, sg_up_s, sgu_n (by decide)]; exact (by rw [ef_13, sg_up_s, sgu_n (by decide)]; exact (by rw [ef_1, sg_up_s, sgu_s]))))).trans (by decide)
        have q_228 : (f_14 0 48).toInt = 0 := (congrArg Int32.toInt (show f_14 0 48 = 0 from (by rw [ef_14, sg_up_s, sgu_n (by decide)]; exact (by rw [ef_13, sg_up_s, sgu_n (by decide)]; exact (by rw [ef_1, sg_up_s, sgu_s]))))).trans (by decide)
        refine sg_calli (va_runV (As := [.int 0, .int x2]) (rest := []) ⟨hx, hb, hml, hown, hts⟩ (kX12_slipsAs_0_f0_f0 l D ca za h hh f_14 L Q hI x2 (by rw [ef_14, sg_up_s, sgu_n (by decide)]; exact (by rw [ef_13, sg_up_s, sgu_n (by decide)]; exact (by rw [ef_1, sg_up_s, sgu_s]))) (Eq.trans (by rw [ef_14, sg_up_s, sgu_n (by decide)]; exact (by rw [ef_13, sg_up_s, sgu_s])) c_226) (by have k0 : (0 : Int32).toInt = 0 := (by decide); omega) H.size) (cwV 2 hts (gw_V (fun _ h => List.mem_cons_of_mem _ h) mw_748 mw_749 mw_750 mw_619 mw_747) rfl rfl rfl (by decide +kernel) ⟨Nat.le_of_ble_eq_true rfl, Nat.le_of_ble_eq_true rfl⟩) (sg_preV (ci := 12) (C := RX12) (T := TX12) (N := 55) hA hK hP hS hZ 0 (by decide) rfl rfl) rfl rfl hl.1 rfl (lv_room (Nat.le_of_ble_eq_true rfl)) dX12_act_86 ⟨Nat.le_refl _, Nat.le_refl _⟩) hA hS (fun r_232 f_229 L_230 Q_231 H locs hq hP hS => ?_)
        obtain ⟨⟨hI, hk_f_229, eL9, eQ9⟩, hq, p_233⟩ := hq
        rw [eL9, eQ9] at hP; clear eL9 eQ9
        have hF : sgK WkX12_act f f_229 := sgK.tr hF hk_f_229 (by decide)
        obtain ⟨v_234, ev_234⟩ : ∃ z : Int32, z = f_229 0 48 := ⟨_, rfl⟩
        have q_235 : 0 ≤ v_234.toInt ∧ v_234.toInt ≤ 19 := by rw [ev_234]; exact hI 0 48
        have q_236 : (f_229 0 48).toInt = v_234.toInt := (congrArg Int32.toInt (show f_229 0 48 = v_234 from ev_234.symm))
        have q_237 : (f_229 0 48).toInt = v_234.toInt := (congrArg Int32.toInt (show f_229 0 48 = v_234 from ev_234.symm))
        have k_238 : (0 : Int32).toInt = 0 := by decide
        exact hret _ _ _ _ (r_232) f_229 L Q dX12_act_89 hP hS ⟨⟨hI, hF, rfl, rfl⟩, trivial⟩
      · skip
        have c_239 : v_11 = 1 := Int32.toInt_inj.mp (by have k9 : (1 : Int32).toInt = 1 := (by decide); omega)
        refine W.eq (g2 := F0 m 86 ls [.int x2, .int 1, .ref (h 0)]) (by rw [c_239]) ?_
        have q_240 : (f_14 0 48).toInt = 0 := (congrArg Int32.toInt (show f_14 0 48 = 0 from (by rw [ef_14, sg_up_s, sgu_n (by decide)]; exact (by rw [ef_13, sg_up_s, sgu_n (by decide)]; exact (by rw [ef_1, sg_up_s, sgu_s]))))).trans (by decide)
        have q_241 : (f_14 0 48).toInt = 0 := (congrArg Int32.toInt (show f_14 0 48 = 0 from (by rw [ef_14, sg_up_s, sgu_n (by decide)]; exact (by rw [ef_13, sg_up_s, sgu_n (by decide)]; exact (by rw [ef_1, sg_up_s, sgu_s]))))).trans (by decide)
        refine sg_calli (va_runV (As := [.int 1, .int x2]) (rest := []) ⟨hx, hb, hml, hown, hts⟩ (kX12_slipsAs_1_f0_f1 l D ca za h hh f_14 L Q hI x2 (by rw [ef_14, sg_up_s, sgu_n (by decide)]; exact (by rw [ef_13, sg_up_s, sgu_n (by decide)]; exact (by rw [ef_1, sg_up_s, sgu_s]))) (Eq.trans (by rw [ef_14, sg_up_s, sgu_n (by decide)]; exact (by rw [ef_13, sg_up_s, sgu_s])) c_239) (by have k0 : (1 : Int32).toInt = 1 := (by decide); omega) H.size) (cwV 2 hts (gw_V (fun _ h => List.mem_cons_of_mem _ h) mw_748 mw_749 mw_750 mw_619 mw_747) rfl rfl rfl (by decide +kernel) ⟨Nat.le_of_ble_eq_true rfl, Nat.le_of_ble_eq_true rfl⟩) (sg_preV (ci := 12) (C := RX12) (T := TX12) (N := 55) hA hK hP hS hZ 0 (by decide) rfl rfl) rfl rfl hl.1 rfl (lv_room (Nat.le_of_ble_eq_true rfl)) dX12_act_86 ⟨Nat.le_refl _, Nat.le_refl _⟩) hA hS (fun r_245 f_242 L_243 Q_244 H locs hq hP hS => ?_)
        obtain ⟨⟨hI, hk_f_242, eL9, eQ9⟩, hq, p_246⟩ := hq
        rw [eL9, eQ9] at hP; clear eL9 eQ9
        have hF : sgK WkX12_act f f_242 := sgK.tr hF hk_f_242 (by decide)
        obtain ⟨v_247, ev_247⟩ : ∃ z : Int32, z = f_242 0 48 := ⟨_, rfl⟩
        have q_248 : 0 ≤ v_247.toInt ∧ v_247.toInt ≤ 19 := by rw [ev_247]; exact hI 0 48
        have q_249 : (f_242 0 48).toInt = v_247.toInt := (congrArg Int32.toInt (show f_242 0 48 = v_247 from ev_247.symm))
        have q_250 : (f_242 0 48).toInt = v_247.toInt := (congrArg Int32.toInt (show f_242 0 48 = v_247 from ev_247.symm))
        have k_251 : (1 : Int32).toInt = 1 := by decide
        exact hret _ _ _ _ (r_245) f_242 L Q dX12_act_89 hP hS ⟨⟨hI, hF, rfl, rfl⟩, trivial⟩
      · skip
        have c_252 : v_11 = 2 := Int32.toInt_inj.mp (by have k9 : (2 : Int32).toInt = 2 := (by decide); omega)
        refine W.eq (g2 := F0 m 86 ls [.int x2, .int 2, .ref (h 0)]) (by rw [c_252]) ?_
        have q_253 : (f_14 0 48).toInt = 0 := (congrArg Int32.toInt (show f_14 0 48 = 0 from (by rw [ef_14, sg_up_s, sgu_n (by decide)]; exact (by rw [ef_13, sg_up_s, sgu_n (by decide)]; exact (by rw [ef_1, sg_up_s, sgu_s]))))).trans (by decide)
        have q_254 : (f_14 0 48).toInt = 0 := (congrArg Int32.toInt (show f_14 0 48 = 0 from (by rw [ef_14, sg_up_s, sgu_n (by decide)]; exact (by rw [ef_13, sg_up_s, sgu_n (by decide)]; exact (by rw [ef_1, sg_up_s, sgu_s]))))).trans (by decide)
        refine sg_calli (va_runV (As := [.int 2, .int x2]) (rest := []) ⟨hx, hb, hml, hown, hts⟩ (kX12_slipsAs_2_f0_f2 l D ca za h hh f_14 L Q hI x2 (by rw [ef_14, sg_up_s, sgu_n (by decide)]; exact (by rw [ef_13, sg_up_s, sgu_n (by decide)]; exact (by rw [ef_1, sg_up_s, sgu_s]))) (Eq.trans (by rw [ef_14, sg_up_s, sgu_n (by decide)]; exact (by rw [ef_13, sg_up_s, sgu_s])) c_252) (by have k0 : (2 : Int32).toInt = 2 := (by decide); omega) H.size) (cwV 2 hts (gw_V (fun _ h => List.mem_cons_of_mem _ h) mw_748 mw_749 mw_750 mw_619 mw_747) rfl rfl rfl (by decide +kernel) ⟨Nat.le_of_ble_eq_true rfl, Nat.le_of_ble_eq_true rfl⟩) (sg_preV (ci := 12) (C := RX12) (T := TX12) (N := 55) hA hK hP hS hZ 0 (by decide) rfl rfl) rfl rfl hl.1 rfl (lv_room (Nat.le_of_ble_eq_true rfl)) dX12_act_86 ⟨Nat.le_refl _, Nat.le_refl _⟩) hA hS (fun r_258 f_255 L_256 Q_257 H locs hq hP hS => ?_)
        obtain ⟨⟨hI, hk_f_255, eL9, eQ9⟩, hq, p_259⟩ := hq
        rw [eL9, eQ9] at hP; clear eL9 eQ9
        have hF : sgK WkX12_act f f_255 := sgK.tr hF hk_f_255 (by decide)
        obtain ⟨v_260, ev_260⟩ : ∃ z : Int32, z = f_255 0 48 := ⟨_, rfl⟩
        have q_261 : 0 ≤ v_260.toInt ∧ v_260.toInt ≤ 19 := by rw [ev_260]; exact hI 0 48
        have q_262 : (f_255 0 48).toInt = v_260.toInt := (congrArg Int32.toInt (show f_255 0 48 = v_260 from ev_260.symm))
        have q_263 : (f_255 0 48).toInt = v_260.toInt := (congrArg Int32.toInt (show f_255 0 48 = v_260 from ev_260.symm))
        have k_264 : (2 : Int32).toInt = 2 := by decide
        exact hret _ _ _ _ (r_258) f_255 L Q dX12_act_89 hP hS ⟨⟨hI, hF, rfl, rfl⟩, trivial⟩
      · skip
        have c_265 : v_11 = 3 := Int32.toInt_inj.mp (by have k9 : (3 : Int32).toInt = 3 := (by decide); omega)
        refine W.eq (g2 := F0 m 86 ls [.int x2, .int 3, .ref (h 0)]) (by rw [c_265]) ?_
        have q_266 : (f_14 0 48).toInt = 0 := (congrArg Int32.toInt (show f_14 0 48 = 0 from (by rw [ef_14, sg_up_s, sgu_n (by decide)]; exact (by rw [ef_13, sg_up_s, sgu_n (by decide)]; exact (by rw [ef_1, sg_up_s, sgu_s]))))).trans (by decide)
        have q_267 : (f_14 0 48).toInt = 0 := (congrArg Int32.toInt (show f_14 0 48 = 0 from (by rw [ef_14, sg_up_s, sgu_n (by decide)]; exact (by rw [ef_13, sg_up_s, sgu_n (by decide)]; exact (by rw [ef_1, sg_up_s, sgu_s]))))).trans (by decide)
        refine sg_calli (va_runV (As := [.int 3, .int x2]) (rest := []) ⟨hx, hb, hml, hown, hts⟩ (kX12_slipsAs_3_f0_f3 l D ca za h hh f_14 L Q hI x2 (by rw [ef_14, sg_up_s, sgu_n (by decide)]; exact (by rw [ef_13, sg_up_s, sgu_n (by decide)]; exact (by rw [ef_1, sg_up_s, sgu_s]))) (Eq.trans (by rw [ef_14, sg_up_s, sgu_n (by decide)]; exact (by rw [ef_13, sg_up_s, sgu_s])) c_265) (by have k0 : (3 : Int32).toInt = 3 := (by decide); omega) H.size) (cwV 2 hts (gw_V (fun _ h => List.mem_cons_of_mem _ h) mw_748 mw_749 mw_750 mw_619 mw_747) rfl rfl rfl (by decide +kernel) ⟨Nat.le_of_ble_eq_true rfl, Nat.le_of_ble_eq_true rfl⟩) (sg_preV (ci := 12) (C := RX12) (T := TX12) (N := 55) hA hK hP hS hZ 0 (by decide) rfl rfl) rfl rfl hl.1 rfl (lv_room (Nat.le_of_ble_eq_true rfl)) dX12_act_86 ⟨Nat.le_refl _, Nat.le_refl _⟩) hA hS (fun r_271 f_268 L_269 Q_270 H locs hq hP hS => ?_)
        obtain ⟨⟨hI, hk_f_268, eL9, eQ9⟩, hq, p_272⟩ := hq
        rw [eL9, eQ9] at hP; clear eL9 eQ9
        have hF : sgK WkX12_act f f_268 := sgK.tr hF hk_f_268 (by decide)
        obtain ⟨v_273, ev_273⟩ : ∃ z : Int32, z = f_268 0 48 := ⟨_, rfl⟩
        have q_274 : 0 ≤ v_273.toInt ∧ v_273.toInt ≤ 19 := by rw [ev_273]; exact hI 0 48
        have q_275 : (f_268 0 48).toInt = v_273.toInt := (congrArg Int32.toInt (show f_268 0 48 = v_273 from ev_273.symm))
        have q_276 : (f_268 0 48).toInt = v_273.toInt := (congrArg Int32.toInt (show f_268 0 48 = v_273 from ev_273.symm))
        have k_277 : (3 : Int32).toInt = 3 := by decide
        exact hret _ _ _ _ (r_271) f_268 L Q dX12_act_89 hP hS ⟨⟨hI, hF, rfl, rfl⟩, trivial⟩
      · skip
        have c_278 : v_11 = 4 := Int32.toInt_inj.mp (by have k9 : (4 : Int32).toInt = 4 := (by decide); omega)
        refine W.eq (g2 := F0 m 86 ls [.int x2, .int 4, .ref (h 0)]) (by rw [c_278]) ?_
        have q_279 : (f_14 0 48).toInt = 0 := (congrArg Int32.toInt (show f_14 0 48 = 0 from (by rw [ef_14, sg_up_s, sgu_n (by decide)]; exact (by rw [ef_13, sg_up_s, sgu_n (by decide)]; exact (by rw [ef_1, sg_up_s, sgu_s]))))).trans (by decide)
        have q_280 : (f_14 0 48).toInt = 0 := (congrArg Int32.toInt (show f_14 0 48 = 0 from (by rw [ef_14, sg_up_s, sgu_n (by decide)]; exact (by rw [ef_13, sg_up_s, sgu_n (by decide)]; exact (by rw [ef_1, sg_up_s, sgu_s]))))).trans (by decide)
        refine sg_calli (va_runV (As := [.int 4, .int x2]) (rest := []) ⟨hx, hb, hml, hown, hts⟩ (kX12_slipsAs_4_f0_f4 l D ca za h hh f_14 L Q hI x2 (by rw [ef_14, sg_up_s, sgu_n (by decide)]; exact (by rw [ef_13, sg_up_s, sgu_n (by decide)]; exact (by rw [ef_1, sg_up_s, sgu_s]))) (Eq.trans (by rw [ef_14, sg_up_s, sgu_n (by decide)]; exact (by rw [ef_13, sg_up_s, sgu_s])) c_278) (by have k0 : (4 : Int32).toInt = 4 := (by decide); omega) H.size) (cwV 2 hts (gw_V (fun _ h => List.mem_cons_of_mem _ h) mw_748 mw_749 mw_750 mw_619 mw_747) rfl rfl rfl (by decide +kernel) ⟨Nat.le_of_ble_eq_true rfl, Nat.le_of_ble_eq_true rfl⟩) (sg_preV (ci := 12) (C := RX12) (T := TX12) (N := 55) hA hK hP hS hZ 0 (by decide) rfl rfl) rfl rfl hl.1 rfl (lv_room (Nat.le_of_ble_eq_true rfl)) dX12_act_86 ⟨Nat.le_refl _, Nat.le_refl _⟩) hA hS (fun r_284 f_281 L_282 Q_283 H locs hq hP hS => ?_)
        obtain ⟨⟨hI, hk_f_281, eL9, eQ9⟩, hq, p_285⟩ := hq
        rw [eL9, eQ9] at hP; clear eL9 eQ9
        have hF : sgK WkX12_act f f_281 := sgK.tr hF hk_f_281 (by decide)
        obtain ⟨v_286, ev_286⟩ : ∃ z : Int32, z = f_281 0 48 := ⟨_, rfl⟩
        have q_287 : 0 ≤ v_286.toInt ∧ v_286.toInt ≤ 19 := by rw [ev_286]; exact hI 0 48
        have q_288 : (f_281 0 48).toInt = v_286.toInt := (congrArg Int32.toInt (show f_281 0 48 = v_286 from ev_286.symm))
        have q_289 : (f_281 0 48).toInt = v_286.toInt := (congrArg Int32.toInt (show f_281 0 48 = v_286 from ev_286.symm))
        have k_290 : (4 : Int32).toInt = 4 := by decide
        exact hret _ _ _ _ (r_284) f_281 L Q dX12_act_89 hP hS ⟨⟨hI, hF, rfl, rfl⟩, trivial⟩
      · skip
        have c_291 : v_11 = 5 := Int32.toInt_inj.mp (by have k9 : (5 : Int32).toInt = 5 := (by decide); omega)
        refine W.eq (g2 := F0 m 86 ls [.int x2, .int 5, .ref (h 0)]) (by rw [c_291]) ?_
        have q_292 : (f_14 0 48).toInt = 0 := (congrArg Int32.toInt (show f_14 0 48 = 0 from (by rw [ef_14, sg_up_s, sgu_n (by decide)]; exact (by rw [ef_13, sg_up_s, sgu_n (by decide)]; exact (by rw [ef_1, sg_up_s, sgu_s]))))).trans (by decide)
        have q_293 : (f_14 0 48).toInt = 0 := (congrArg Int32.toInt (show f_14 0 48 = 0 from (by rw [ef_14, sg_up_s, sgu_n (by decide)]; exact (by rw [ef_13, sg_up_s, sgu_n (by decide)]; exact (by rw [ef_1, sg_up_s, sgu_s]))))).trans (by decide)
        refine sg_calli (va_runV (As := [.int 5, .int x2]) (rest := []) ⟨hx, hb, hml, hown, hts⟩ (kX12_slipsAs_5_f0_f5 l D ca za h hh f_14 L Q hI x2 (by rw [ef_14, sg_up_s, sgu_n (by decide)]; exact (by rw [ef_13, sg_up_s, sgu_n (by decide)]; exact (by rw [ef_1, sg_up_s, sgu_s]))) (Eq.trans (by rw [ef_14, sg_up_s, sgu_n (by decide)]; exact (by rw [ef_13, sg_up_s, sgu_s])) c_291) (by have k0 : (5 : Int32).toInt = 5 := (by decide); omega) H.size) (cwV 2 hts (gw_V (fun _ h => List.mem_cons_of_mem _ h) mw_748 mw_749 mw_750 mw_619 mw_747) rfl rfl rfl (by decide +kernel) ⟨Nat.le_of_ble_eq_true rfl, Nat.le_of_ble_eq_true rfl⟩) (sg_preV (ci := 12) (C := RX12) (T := TX12) (N := 55) hA hK hP hS hZ 0 (by decide) rfl rfl) rfl rfl hl.1 rfl (lv_room (Nat.le_of_ble_eq_true rfl)) dX12_act_86 ⟨Nat.le_refl _, Nat.le_refl _⟩) hA hS (fun r_297 f_294 L_295 Q_296 H locs hq hP hS => ?_)
        obtain ⟨⟨hI, hk_f_294, eL9, eQ9⟩, hq, p_298⟩ := hq
        rw [eL9, eQ9] at hP; clear eL9 eQ9
        have hF : sgK WkX12_act f f_294 := sgK.tr hF hk_f_294 (by decide)
        obtain ⟨v_299, ev_299⟩ : ∃ z : Int32, z = f_294 0 48 := ⟨_, rfl⟩
        have q_300 : 0 ≤ v_299.toInt ∧ v_299.toInt ≤ 19 := by rw [ev_299]; exact hI 0 48
        have q_301 : (f_294 0 48).toInt = v_299.toInt := (congrArg Int32.toInt (show f_294 0 48 = v_299 from ev_299.symm))
        have q_302 : (f_294 0 48).toInt = v_299.toInt := (congrArg Int32.toInt (show f_294 0 48 = v_299 from ev_299.symm))
        have k_303 : (5 : Int32).toInt = 5 := by decide
        exact hret _ _ _ _ (r_297) f_294 L Q dX12_act_89 hP hS ⟨⟨hI, hF, rfl, rfl⟩, trivial⟩
      · skip
        have c_304 : v_11 = 6 := Int32.toInt_inj.mp (by have k9 : (6 : Int32).toInt = 6 := (by decide); omega)
        refine W.eq (g2 := F0 m 86 ls [.int x2, .int 6, .ref (h 0)]) (by rw [c_304]) ?_
        have q_305 : (f_14 0 48).toInt = 0 := (congrArg Int32.toInt (show f_14 0 48 = 0 from (by rw [ef_14, sg_up_s, sgu_n (by decide)]; exact (by rw [ef_13, sg_up_s, sgu_n (by decide)]; exact (by rw [ef_1, sg_up_s, sgu_s]))))).trans (by decide)
        have q_306 : (f_14 0 48).toInt = 0 := (congrArg Int32.toInt (show f_14 0 48 = 0 from (by rw [ef_14, sg_up_s, sgu_n (by decide)]; exact (by rw [ef_13, sg_up_s, sgu_n (by decide)]; exact (by rw [ef_1, sg_up_s, sgu_s]))))).trans (by decide)
        refine sg_calli (va_runV (As := [.int 6, .int x2]) (rest := []) ⟨hx, hb, hml, hown, hts⟩ (kX12_slipsAs_6_f0_f6 l D ca za h hh f_14 L Q hI x2 (by rw [ef_14, sg_up_s, sgu_n (by decide)]; exact (by rw [ef_13, sg_up_s, sgu_n (by decide)]; exact (by rw [ef_1, sg_up_s, sgu_s]))) (Eq.trans (by rw [ef_14, sg_up_s, sgu_n (by decide)]; exact (by rw [ef_13, sg_up_s, sgu_s])) c_304) (by have k0 : (6 : Int32).toInt = 6 := (by decide); omega) H.size) (cwV 2 hts (gw_V (fun _ h => List.mem_cons_of_mem _ h) mw_748 mw_749 mw_750 mw_619 mw_747) rfl rfl rfl (by decide +kernel) ⟨Nat.le_of_ble_eq_true rfl, Nat.le_of_ble_eq_true rfl⟩) (sg_preV (ci := 12) (C := RX12) (T := TX12) (N := 55) hA hK hP hS hZ 0 (by decide) rfl rfl) rfl rfl hl.1 rfl (lv_room (Nat.le_of_ble_eq_true rfl)) dX12_act_86 ⟨Nat.le_refl _, Nat.le_refl _⟩) hA hS (fun r_310 f_307 L_308 Q_309 H locs hq hP hS => ?_)
        obtain ⟨⟨hI, hk_f_307, eL9, eQ9⟩, hq, p_311⟩ := hq
        rw [eL9, eQ9] at hP; clear eL9 eQ9
        have hF : sgK WkX12_act f f_307 := sgK.tr hF hk_f_307 (by decide)
        obtain ⟨v_312, ev_312⟩ : ∃ z : Int32, z = f_307 0 48 := ⟨_, rfl⟩
        have q_313 : 0 ≤ v_312.toInt ∧ v_312.toInt ≤ 19 := by rw [ev_312]; exact hI 0 48
        have q_314 : (f_307 0 48).toInt = v_312.toInt := (congrArg Int32.toInt (show f_307 0 48 = v_312 from ev_312.symm))
        have q_315 : (f_307 0 48).toInt = v_312.toInt := (congrArg Int32.toInt (show f_307 0 48 = v_312 from ev_312.symm))
        have k_316 : (6 : Int32).toInt = 6 := by decide
        exact hret _ _ _ _ (r_310) f_307 L Q dX12_act_89 hP hS ⟨⟨hI, hF, rfl, rfl⟩, trivial⟩
      · skip
        have c_317 : v_11 = 7 := Int32.toInt_inj.mp (by have k9 : (7 : Int32).toInt = 7 := (by decide); omega)
        refine W.eq (g2 := F0 m 86 ls [.int x2, .int 7, .ref (h 0)]) (by rw [c_317]) ?_
        have q_318 : (f_14 0 48).toInt = 0 := (congrArg Int32.toInt (show f_14 0 48 = 0 from (by rw [ef_14, sg_up_s, sgu_n (by decide)]; exact (by rw [ef_13, sg_up_s, sgu_n (by decide)]; exact (by rw [ef_1, sg_up_s, sgu_s]))))).trans (by decide)
        have q_319 : (f_14 0 48).toInt = 0 := (congrArg Int32.toInt (show f_14 0 48 = 0 from (by rw [ef_14, sg_up_s, sgu_n (by decide)]; exact (by rw [ef_13, sg_up_s, sgu_n (by decide)]; exact (by rw [ef_1, sg_up_s, sgu_s]))))).trans (by decide)
        refine sg_calli (va_runV (As := [.int 7, .int x2]) (rest := []) ⟨hx, hb, hml, hown, hts⟩ (kX12_slipsAs_7_f0_f7 l D ca za h hh f_14 L Q hI x2 (by rw [ef_14, sg_up_s, sgu_n (by decide)]; exact (by rw [ef_13, sg_up_s, sgu_n (by decide)]; exact (by rw [ef_1, sg_up_s, sgu_s]))) (Eq.trans (by rw [ef_14, sg_up_s, sgu_n (by decide)]; exact (by rw [ef_13, sg_up_s, sgu_s])) c_317) (by have k0 : (7 : Int32).toInt = 7 := (by decide); omega) H.size) (cwV 2 hts (gw_V (fun _ h => List.mem_cons_of_mem _ h) mw_748 mw_749 mw_750 mw_619 mw_747) rfl rfl rfl (by decide +kernel) ⟨Nat.le_of_ble_eq_true rfl, Nat.le_of_ble_eq_true rfl⟩) (sg_preV (ci := 12) (C := RX12) (T := TX12) (N := 55) hA hK hP hS hZ 0 (by decide) rfl rfl) rfl rfl hl.1 rfl (lv_room (Nat.le_of_ble_eq_true rfl)) dX12_act_86 ⟨Nat.le_refl _, Nat.le_refl _⟩) hA hS (fun r_323 f_320 L_321 Q_322 H locs hq hP hS => ?_)
        obtain ⟨⟨hI, hk_f_320, eL9, eQ9⟩, hq, p_324⟩ := hq
        rw [eL9, eQ9] at hP; clear eL9 eQ9
        have hF : sgK WkX12_act f f_320 := sgK.tr hF hk_f_320 (by decide)
        obtain ⟨v_325, ev_325⟩ : ∃ z : Int32, z = f_320 0 48 := ⟨_, rfl⟩
        have q_326 : 0 ≤ v_325.toInt ∧ v_325.toInt ≤ 19 := by rw [ev_325]; exact hI 0 48
        have q_327 : (f_320 0 48).toInt = v_325.toInt := (congrArg Int32.toInt (show f_320 0 48 = v_325 from ev_325.symm))
        have q_328 : (f_320 0 48).toInt = v_325.toInt := (congrArg Int32.toInt (show f_320 0 48 = v_325 from ev_325.symm))
        have k_329 : (7 : Int32).toInt = 7 := by decide
        exact hret _ _ _ _ (r_323) f_320 L Q dX12_act_89 hP hS ⟨⟨hI, hF, rfl, rfl⟩, trivial⟩
    · skip
      have c_330 := c
      refine lv_tableIn (x := x1) (tgt := 90) hx hb dX12_act_31 (by omega) (by omega) (by rw [c]; rfl) (by decide) ?_
      refine lv_aload_n hx hb dX12_act_90 rfl (lv_at hl 0 rfl) ?_
      refine lv_aload_n hx hb dX12_act_91 rfl (lv_at hl 0 rfl) ?_
      refine sg_get (ci := 12) (v := .int v_11) (C := RX12) (T := TX12) (N := 55) hx hb hts (fun w h => List.mem_cons_of_mem _ (gx_12 w h)) hown hK hP 0 (by decide) rfl rfl 49 (by decide) (hts _ (List.mem_cons_of_mem _ mw_679)) (fun _ h9 => h9) (congrArg (fun z => some (Value.int z)) (show f_14 0 49 = v_11 from (by rw [ef_14, sg_up_s, sgu_n (by decide)]; exact (by rw [ef_13, sg_up_s, sgu_s])))) dX12_act_92 ?_
      refine lv_iload_n hx hb dX12_act_95 rfl (lv_at hl 3 rfl) ?_
      rcases (show v_11.toInt = 0 ∨ v_11.toInt = 1 ∨ v_11.toInt = 2 ∨ v_11.toInt = 3 ∨ v_11.toInt = 4 ∨ v_11.toInt = 5 ∨ v_11.toInt = 6 ∨ v_11.toInt = 7 from by omega) with c | c | c | c | c | c | c | c
      · skip
        have c_331 : v_11 = 0 := Int32.toInt_inj.mp (by have k9 : (0 : Int32).toInt = 0 := (by decide); omega)
        refine W.eq (g2 := F0 m 96 ls [.int x2, .int 0, .ref (h 0)]) (by rw [c_331]) ?_
        have q_332 : (f_14 0 48).toInt = 0 := (congrArg Int32.toInt (show f_14 0 48 = 0 from (by rw [ef_14, sg_up_s, sgu_n (by decide)]; exact (by rw [ef_13, sg_up_s, sgu_n (by decide)]; exact (by rw [ef_1, sg_up_s, sgu_s]))))).trans (by decide)
        have q_333 : (f_14 0 48).toInt = 0 := (congrArg Int32.toInt (show f_14 0 48 = 0 from (by rw [ef_14, sg_up_s, sgu_n (by decide)]; exact (by rw [ef_13, sg_up_s, sgu_n (by decide)]; exact (by rw [ef_1, sg_up_s, sgu_s]))))).trans (by decide)
        refine sg_calli (va_runV (As := [.int 0, .int x2]) (rest := []) ⟨hx, hb, hml, hown, hts⟩ (kX12_tellsAs_0_f0_f0 l D ca za h hh f_14 L Q hI x2 (by rw [ef_14, sg_up_s, sgu_n (by decide)]; exact (by rw [ef_13, sg_up_s, sgu_n (by decide)]; exact (by rw [ef_1, sg_up_s, sgu_s]))) (Eq.trans (by rw [ef_14, sg_up_s, sgu_n (by decide)]; exact (by rw [ef_13, sg_up_s, sgu_s])) c_331) (by have k0 : (0 : Int32).toInt = 0 := (by decide); omega) H.size) (cwV 2 hts (gw_V (fun _ h => List.mem_cons_of_mem _ h) mw_885 mw_886 mw_887 mw_619 mw_884) rfl rfl rfl (by decide +kernel) ⟨Nat.le_of_ble_eq_true rfl, Nat.le_of_ble_eq_true rfl⟩) (sg_preV (ci := 12) (C := RX12) (T := TX12) (N := 55) hA hK hP hS hZ 0 (by decide) rfl rfl) rfl rfl hl.1 rfl (lv_room (Nat.le_of_ble_eq_true rfl)) dX12_act_96 ⟨Nat.le_refl _, Nat.le_refl _⟩) hA hS (fun r_337 f_334 L_335 Q_336 H locs hq hP hS => ?_)
        obtain ⟨⟨hI, hk_f_334, eL9, eQ9⟩, hq, p_338⟩ := hq
        rw [eL9, eQ9] at hP; clear eL9 eQ9
        have hF : sgK WkX12_act f f_334 := sgK.tr hF hk_f_334 (by decide)
        obtain ⟨v_339, ev_339⟩ : ∃ z : Int32, z = f_334 0 48 := ⟨_, rfl⟩
        have q_340 : 0 ≤ v_339.toInt ∧ v_339.toInt ≤ 19 := by rw [ev_339]; exact hI 0 48
        have q_341 : (f_334 0 48).toInt = v_339.toInt := (congrArg Int32.toInt (show f_334 0 48 = v_339 from ev_339.symm))
        have q_342 : (f_334 0 48).toInt = v_339.toInt := (congrArg Int32.toInt (show f_334 0 48 = v_339 from ev_339.symm))
        have k_343 : (0 : Int32).toInt = 0 := by decide
        exact hret _ _ _ _ (r_337) f_334 L Q dX12_act_99 hP hS ⟨⟨hI, hF, rfl, rfl⟩, trivial⟩
      · skip
        have c_344 : v_11 = 1 := Int32.toInt_inj.mp (by have k9 : (1 : Int32).toInt = 1 := (by decide); omega)
        refine W.eq (g2 := F0 m 96 ls [.int x2, .int 1, .ref (h 0)]) (by rw [c_344]) ?_
        have q_345 : (f_14 0 48).toInt = 0 := (congrArg Int32.toInt (show f_14 0 48 = 0 from (by rw [ef_14, sg_up_s, sgu_n (by decide)]; exact (by rw [ef_13, sg_up_s, sgu_n (by decide)]; exact (by rw [ef_1, sg_up_s, sgu_s]))))).trans (by decide)
        have q_346 : (f_14 0 48).toInt = 0 := (congrArg Int32.toInt (show f_14 0 48 = 0 from (by rw [ef_14, sg_up_s, sgu_n (by decide)]; exact (by rw [ef_13, sg_up_s, sgu_n (by decide)]; exact (by rw [ef_1, sg_up_s, sgu_s]))))).trans (by decide)
        refine sg_calli (va_runV (As := [.int 1, .int x2]) (rest := []) ⟨hx, hb, hml, hown, hts⟩ (kX12_tellsAs_1_f0_f1 l D ca za h hh f_14 L Q hI x2 (by rw [ef_14, sg_up_s, sgu_n (by decide)]; exact (by rw [ef_13, sg_up_s, sgu_n (by decide)]; exact (by rw [ef_1, sg_up_s, sgu_s]))) (Eq.trans (by rw [ef_14, sg_up_s, sgu_n (by decide)]; exact (by rw [ef_13, sg_up_s, sgu_s])) c_344) (by have k0 : (1 : Int32).toInt = 1 := (by decide); omega) H.size) (cwV 2 hts (gw_V (fun _ h => List.mem_cons_of_mem _ h) mw_885 mw_886 mw_887 mw_619 mw_884) rfl rfl rfl (by decide +kernel) ⟨Nat.le_of_ble_eq_true rfl, Nat.le_of_ble_eq_true rfl⟩) (sg_preV (ci := 12) (C := RX12) (T := TX12) (N := 55) hA hK hP hS hZ 0 (by decide) rfl rfl) rfl rfl hl.1 rfl (lv_room (Nat.le_of_ble_eq_true rfl)) dX12_act_96 ⟨Nat.le_refl _, Nat.le_refl _⟩) hA hS (fun r_350 f_347 L_348 Q_349 H locs hq hP hS => ?_)
        obtain ⟨⟨hI, hk_f_347, eL9, eQ9⟩, hq, p_351⟩ := hq
        rw [eL9, eQ9] at hP; clear eL9 eQ9
        have hF : sgK WkX12_act f f_347 := sgK.tr hF hk_f_347 (by decide)
        obtain ⟨v_352, ev_352⟩ : ∃ z : Int32, z = f_347 0 48 := ⟨_, rfl⟩
        have q_353 : 0 ≤ v_352.toInt ∧ v_352.toInt ≤ 19 := by rw [ev_352]; exact hI 0 48
        have q_354 : (f_347 0 48).toInt = v_352.toInt := (congrArg Int32.toInt (show f_347 0 48 = v_352 from ev_352.symm))
        have q_355 : (f_347 0 48).toInt = v_352.toInt := (congrArg Int32.toInt (show f_347 0 48 = v_352 from ev_352.symm))
        have k_356 : (1 : Int32).toInt = 1 := by decide
        exact hret _ _ _ _ (r_350) f_347 L Q dX12_act_99 hP hS ⟨⟨hI, hF, rfl, rfl⟩, trivial⟩
      · skip
        have c_357 : v_11 = 2 := Int32.toInt_inj.mp (by have k9 : (2 : Int32).toInt = 2 := (by decide); omega)
        refine W.eq (g2 := F0 m 96 ls [.int x2, .int 2, .ref (h 0)]) (by rw [c_357]) ?_
        have q_358 : (f_14 0 48).toInt = 0 := (congrArg Int32.toInt (show f_14 0 48 = 0 from (by rw [ef_14, sg_up_s, sgu_n (by decide)]; exact (by rw [ef_13, sg_up_s, sgu_n (by decide)]; exact (by rw [ef_1, sg_up_s, sgu_s]))))).trans (by decide)
        have q_359 : (f_14 0 48).toInt = 0 := (congrArg Int32.toInt (show f_14 0 48 = 0 from (by rw [ef_14, sg_up_s, sgu_n (by decide)]; exact (by rw [ef_13, sg_up_s, sgu_n (by decide)]; exact (by rw [ef_1, sg_up_s, sgu_s]))))).trans (by decide)
        refine sg_calli (va_runV (As := [.int 2, .int x2]) (rest := []) ⟨hx, hb, hml, hown, hts⟩ (kX12_tellsAs_2_f0_f2 l D ca za h hh f_14 L Q hI x2 (by rw [ef_14, sg_up_s, sgu_n (by decide)]; exact (by rw [ef_13, sg_up_s, sgu_n (by decide)]; exact (by rw [ef_1, sg_up_s, sgu_s]))) (Eq.trans (by rw [ef_14, sg_up_s, sgu_n (by decide)]; exact (by rw [ef_13, sg_up_s, sgu_s])) c_357) (by have k0 : (2 : Int32).toInt = 2 := (by decide); omega) H.size) (cwV 2 hts (gw_V (fun _ h => List.mem_cons_of_mem _ h) mw_885 mw_886 mw_887 mw_619 mw_884) rfl rfl rfl (by decide +kernel) ⟨Nat.le_of_ble_eq_true rfl, Nat.le_of_ble_eq_true rfl⟩) (sg_preV (ci := 12) (C := RX12) (T := TX12) (N := 55) hA hK hP hS hZ 0 (by decide) rfl rfl) rfl rfl hl.1 rfl (lv_room (Nat.le_of_ble_eq_true rfl)) dX12_act_96 ⟨Nat.le_refl _, Nat.le_refl _⟩) hA hS (fun r_363 f_360 L_361 Q_362 H locs hq hP hS => ?_)
        obtain ⟨⟨hI, hk_f_360, eL9, eQ9⟩, hq, p_364⟩ := hq
        rw [eL9, eQ9] at hP; clear eL9 eQ9
        have hF : sgK WkX12_act f f_360 := sgK.tr hF hk_f_360 (by decide)
        obtain ⟨v_365, ev_365⟩ : ∃ z : Int32, z = f_360 0 48 := ⟨_, rfl⟩
        have q_366 : 0 ≤ v_365.toInt ∧ v_365.toInt ≤ 19 := by rw [ev_365]; exact hI 0 48
        have q_367 : (f_360 0 48).toInt = v_365.toInt := (congrArg Int32.toInt (show f_360 0 48 = v_365 from ev_365.symm))
        have q_368 : (f_360 0 48).toInt = v_365.toInt := (congrArg Int32.toInt (show f_360 0 48 = v_365 from ev_365.symm))
        have k_369 : (2 : Int32).toInt = 2 := by decide
        exact hret _ _ _ _ (r_363) f_360 L Q dX12_act_99 hP hS ⟨⟨hI, hF, rfl, rfl⟩, trivial⟩
      · skip
        have c_370 : v_11 = 3 := Int32.toInt_inj.mp (by have k9 : (3 : Int32).toInt = 3 := (by decide); omega)
        refine W.eq (g2 := F0 m 96 ls [.int x2, .int 3, .ref (h 0)]) (by rw [c_370]) ?_
        have q_371 : (f_14 0 48).toInt = 0 := (congrArg Int32.toInt (show f_14 0 48 = 0 from (by rw [ef_14, sg_up_s, sgu_n (by decide)]; exact (by rw [ef_13, sg_up_s, sgu_n (by decide)]; exact (by rw [ef_1, sg_up_s, sgu_s]))))).trans (by decide)
        have q_372 : (f_14 0 48).toInt = 0 := (congrArg Int32.toInt (show f_14 0 48 = 0 from (by rw [ef_14, sg_up_s, sgu_n (by decide)]; exact (by rw [ef_13, sg_up_s, sgu_n (by decide)]; exact (by rw [ef_1, sg_up_s, sgu_s]))))).trans (by decide)
        refine sg_calli (va_runV (As := [.int 3, .int x2]) (rest := []) ⟨hx, hb, hml, hown, hts⟩ (kX12_tellsAs_3_f0_f3 l D ca za h hh f_14 L Q hI x2 (by rw [ef_14, sg_up_s, sgu_n (by decide)]; exact (by rw [ef_13, sg_up_s, sgu_n (by decide)]; exact (by rw [ef_1, sg_up_s, sgu_s]))) (Eq.trans (by rw [ef_14, sg_up_s, sgu_n (by decide)]; exact (by rw [ef_13, sg_up_s, sgu_s])) c_370) (by have k0 : (3 : Int32).toInt = 3 := (by decide); omega) H.size) (cwV 2 hts (gw_V (fun _ h => List.mem_cons_of_mem _ h) mw_885 mw_886 mw_887 mw_619 mw_884) rfl rfl rfl (by decide +kernel) ⟨Nat.le_of_ble_eq_true rfl, Nat.le_of_ble_eq_true rfl⟩) (sg_preV (ci := 12) (C := RX12) (T := TX12) (N := 55) hA hK hP hS hZ 0 (by decide) rfl rfl) rfl rfl hl.1 rfl (lv_room (Nat.le_of_ble_eq_true rfl)) dX12_act_96 ⟨Nat.le_refl _, Nat.le_refl _⟩) hA hS (fun r_376 f_373 L_374 Q_375 H locs hq hP hS => ?_)
        obtain ⟨⟨hI, hk_f_373, eL9, eQ9⟩, hq, p_377⟩ := hq
        rw [eL9, eQ9] at hP; clear eL9 eQ9
        have hF : sgK WkX12_act f f_373 := sgK.tr hF hk_f_373 (by decide)
        obtain ⟨v_378, ev_378⟩ : ∃ z : Int32, z = f_373 0 48 := ⟨_, rfl⟩
        have q_379 : 0 ≤ v_378.toInt ∧ v_378.toInt ≤ 19 := by rw [ev_378]; exact hI 0 48
        have q_380 : (f_373 0 48).toInt = v_378.toInt := (congrArg Int32.toInt (show f_373 0 48 = v_378 from ev_378.symm))
        have q_381 : (f_373 0 48).toInt = v_378.toInt := (congrArg Int32.toInt (show f_373 0 48 = v_378 from ev_378.symm))
        have k_382 : (3 : Int32).toInt = 3 := by decide
        exact hret _ _ _ _ (r_376) f_373 L Q dX12_act_99 hP hS ⟨⟨hI, hF, rfl, rfl⟩, trivial⟩
      · skip
        have c_383 : v_11 = 4 := Int32.toInt_inj.mp (by have k9 : (4 : Int32).toInt = 4 := (by decide); omega)
        refine W.eq (g2 := F0 m 96 ls [.int x2, .int 4, .ref (h 0)]) (by rw [c_383]) ?_
        have q_384 : (f_14 0 48).toInt = 0 := (congrArg Int32.toInt (show f_14 0 48 = 0 from (by rw [ef_14, sg_up_s, sgu_n (by decide)]; exact (by rw [ef_13, sg_up_s, sgu_n (by decide)]; exact (by rw [ef_1, sg_up_s, sgu_s]))))).trans (by decide)
        have q_385 : (f_14 0 48).toInt = 0 := (congrArg Int32.toInt (show f_14 0 48 = 0 from (by rw [ef_14, sg_up_s, sgu_n (by decide)]; exact (by rw [ef_13, sg_up_s, sgu_n (by decide)]; exact (by rw [ef_1, sg_up_s, sgu_s]))))).trans (by decide)
        refine sg_calli (va_runV (As := [.int 4, .int x2]) (rest := []) ⟨hx, hb, hml, hown, hts⟩ (kX12_tellsAs_4_f0_f4 l D ca za h hh f_14 L Q hI x2 (by rw [ef_14, sg_up_s, sgu_n (by decide)]; exact (by rw [ef_13, sg_up_s, sgu_n (by decide)]; exact (by rw [ef_1, sg_up_s, sgu_s]))) (Eq.trans (by rw [ef_14, sg_up_s, sgu_n (by decide)]; exact (by rw [ef_13, sg_up_s, sgu_s])) c_383) (by have k0 : (4 : Int32).toInt = 4 := (by decide); omega) H.size) (cwV 2 hts (gw_V (fun _ h => List.mem_cons_of_mem _ h) mw_885 mw_886 mw_887 mw_619 mw_884) rfl rfl rfl (by decide +kernel) ⟨Nat.le_of_ble_eq_true rfl, Nat.le_of_ble_eq_true rfl⟩) (sg_preV (ci := 12) (C := RX12) (T := TX12) (N := 55) hA hK hP hS hZ 0 (by decide) rfl rfl) rfl rfl hl.1 rfl (lv_room (Nat.le_of_ble_eq_true rfl)) dX12_act_96 ⟨Nat.le_refl _, Nat.le_refl _⟩) hA hS (fun r_389 f_386 L_387 Q_388 H locs hq hP hS => ?_)
        obtain ⟨⟨hI, hk_f_386, eL9, eQ9⟩, hq, p_390⟩ := hq
        rw [eL9, eQ9] at hP; clear eL9 eQ9
        have hF : sgK WkX12_act f f_386 := sgK.tr hF hk_f_386 (by decide)
        obtain ⟨v_391, ev_391⟩ : ∃ z : Int32, z = f_386 0 48 := ⟨_, rfl⟩
        have q_392 : 0 ≤ v_391.toInt ∧ v_391.toInt ≤ 19 := by rw [ev_391]; exact hI 0 48
        have q_393 : (f_386 0 48).toInt = v_391.toInt := (congrArg Int32.toInt (show f_386 0 48 = v_391 from ev_391.symm))
        have q_394 : (f_386 0 48).toInt = v_391.toInt := (congrArg Int32.toInt (show f_386 0 48 = v_391 from ev_391.symm))
        have k_395 : (4 : Int32).toInt = 4 := by decide
        exact hret _ _ _ _ (r_389) f_386 L Q dX12_act_99 hP hS ⟨⟨hI, hF, rfl, rfl⟩, trivial⟩
      · skip
        have c_396 : v_11 = 5 := Int32.toInt_inj.mp (by have k9 : (5 : Int32).toInt = 5 := (by decide); omega)
        refine W.eq (g2 := F0 m 96 ls [.int x2, .int 5, .ref (h 0)]) (by rw [c_396]) ?_
        have q_397 : (f_14 0 48).toInt = 0 := (congrArg Int32.toInt (show f_14 0 48 = 0 from (by rw [ef_14, sg_up_s, sgu_n (by decide)]; exact (by rw [ef_13, sg_up_s, sgu_n (by decide)]; exact (by rw [ef_1, sg_up_s, sgu_s]))))).trans (by decide)
        have q_398 : (f_14 0 48).toInt = 0 := (congrArg Int32.toInt (show f_14 0 48 = 0 from (by rw [ef_14, sg_up_s, sgu_n (by decide)]; exact (by rw [ef_13, sg_up_s, sgu_n (by decide)]; exact (by rw [ef_1, sg_up_s, sgu_s]))))).trans (by decide)
        refine sg_calli (va_runV (As := [.int 5, .int x2]) (rest := []) ⟨hx, hb, hml, hown, hts⟩ (kX12_tellsAs_5_f0_f5 l D ca za h hh f_14 L Q hI x2 (by rw [ef_14, sg_up_s, sgu_n (by decide)]; exact (by rw [ef_13, sg_up_s, sgu_n (by decide)]; exact (by rw [ef_1, sg_up_s, sgu_s]))) (Eq.trans (by rw [ef_14, sg_up_s, sgu_n (by decide)]; exact (by rw [ef_13, sg_up_s, sgu_s])) c_396) (by have k0 : (5 : Int32).toInt = 5 := (by decide); omega) H.size) (cwV 2 hts (gw_V (fun _ h => List.mem_cons_of_mem _ h) mw_885 mw_886 mw_887 mw_619 mw_884) rfl rfl rfl (by decide +kernel) ⟨Nat.le_of_ble_eq_true rfl, Nat.le_of_ble_eq_true rfl⟩) (sg_preV (ci := 12) (C := RX12) (T := TX12) (N := 55) hA hK hP hS hZ 0 (by decide) rfl rfl) rfl rfl hl.1 rfl (lv_room (Nat.le_of_ble_eq_true rfl)) dX12_act_96 ⟨Nat.le_refl _, Nat.le_refl _⟩) hA hS (fun r_402 f_399 L_400 Q_401 H locs hq hP hS => ?_)
        obtain ⟨⟨hI, hk_f_399, eL9, eQ9⟩, hq, p_403⟩ := hq
        rw [eL9, eQ9] at hP; clear eL9 eQ9
        have hF : sgK WkX12_act f f_399 := sgK.tr hF hk_f_399 (by decide)
        obtain ⟨v_404, ev_404⟩ : ∃ z : Int32, z = f_399 0 48 := ⟨_, rfl⟩
        have q_405 : 0 ≤ v_404.toInt ∧ v_404.toInt ≤ 19 := by rw [ev_404]; exact hI 0 48
        have q_406 : (f_399 0 48).toInt = v_404.toInt := (congrArg Int32.toInt (show f_399 0 48 = v_404 from ev_404.symm))
        have q_407 : (f_399 0 48).toInt = v_404.toInt := (congrArg Int32.toInt (show f_399 0 48 = v_404 from ev_404.symm))
        have k_408 : (5 : Int32).toInt = 5 := by decide
        exact hret _ _ _ _ (r_402) f_399 L Q dX12_act_99 hP hS ⟨⟨hI, hF, rfl, rfl⟩, trivial⟩
      · skip
        have c_409 : v_11 = 6 := Int32.toInt_inj.mp (by have k9 : (6 : Int32).toInt = 6 := (by decide); omega)
        refine W.eq (g2 := F0 m 96 ls [.int x2, .int 6, .ref (h 0)]) (by rw [c_409]) ?_
        have q_410 : (f_14 0 48).toInt = 0 := (congrArg Int32.toInt (show f_14 0 48 = 0 from (by rw [ef_14, sg_up_s, sgu_n (by decide)]; exact (by rw [ef_13, sg_up_s, sgu_n (by decide)]; exact (by rw [ef_1, sg_up_s, sgu_s]))))).trans (by decide)
        have q_411 : (f_14 0 48).toInt = 0 := (congrArg Int32.toInt (show f_14 0 48 = 0 from (by rw [ef_14, sg_up_s, sgu_n (by decide)]; exact (by rw [ef_13, sg_up_s, sgu_n (by decide)]; exact (by rw [ef_1, sg_up_s, sgu_s]))))).trans (by decide)
        refine sg_calli (va_runV (As := [.int 6, .int x2]) (rest := []) ⟨hx, hb, hml, hown, hts⟩ (kX12_tellsAs_6_f0_f6 l D ca za h hh f_14 L Q hI x2 (by rw [ef_14, sg_up_s, sgu_n (by decide)]; exact (by rw [ef_13, sg_up_s, sgu_n (by decide)]; exact (by rw [ef_1, sg_up_s, sgu_s]))) (Eq.trans (by rw [ef_14, sg_up_s, sgu_n (by decide)]; exact (by rw [ef_13, sg_up_s, sgu_s])) c_409) (by have k0 : (6 : Int32).toInt = 6 := (by decide); omega) H.size) (cwV 2 hts (gw_V (fun _ h => List.mem_cons_of_mem _ h) mw_885 mw_886 mw_887 mw_619 mw_884) rfl rfl rfl (by decide +kernel) ⟨Nat.le_of_ble_eq_true rfl, Nat.le_of_ble_eq_true rfl⟩) (sg_preV (ci := 12) (C := RX12) (T := TX12) (N := 55) hA hK hP hS hZ 0 (by decide) rfl rfl) rfl rfl hl.1 rfl (lv_room (Nat.le_of_ble_eq_true rfl)) dX12_act_96 ⟨Nat.le_refl _, Nat.le_refl _⟩) hA hS (fun r_415 f_412 L_413 Q_414 H locs hq hP hS => ?_)
        obtain ⟨⟨hI, hk_f_412, eL9, eQ9⟩, hq, p_416⟩ := hq
        rw [eL9, eQ9] at hP; clear eL9 eQ9
        have hF : sgK WkX12_act f f_412 := sgK.tr hF hk_f_412 (by decide)
        obtain ⟨v_417, ev_417⟩ : ∃ z : Int32, z = f_412 0 48 := ⟨_, rfl⟩
        have q_418 : 0 ≤ v_417.toInt ∧ v_417.toInt ≤ 19 := by rw [ev_417]; exact hI 0 48
        have q_419 : (f_412 0 48).toInt = v_417.toInt := (congrArg Int32.toInt (show f_412 0 48 = v_417 from ev_417.symm))
        have q_420 : (f_412 0 48).toInt = v_417.toInt := (congrArg Int32.toInt (show f_412 0 48 = v_417 from ev_417.symm))
        have k_421 : (6 : Int32).toInt = 6 := by decide
        exact hret _ _ _ _ (r_415) f_412 L Q dX12_act_99 hP hS ⟨⟨hI, hF, rfl, rfl⟩, trivial⟩
      · skip
        have c_422 : v_11 = 7 := Int32.toInt_inj.mp (by have k9 : (7 : Int32).toInt = 7 := (by decide); omega)
        refine W.eq (g2 := F0 m 96 ls [.int x2, .int 7, .ref (h 0)]) (by rw [c_422]) ?_
        have q_423 : (f_14 0 48).toInt = 0 := (congrArg Int32.toInt (show f_14 0 48 = 0 from (by rw [ef_14, sg_up_s, sgu_n (by decide)]; exact (by rw [ef_13, sg_up_s, sgu_n (by decide)]; exact (by rw [ef_1, sg_up_s, sgu_s]))))).trans (by decide)
        have q_424 : (f_14 0 48).toInt = 0 := (congrArg Int32.toInt (show f_14 0 48 = 0 from (by rw [ef_14, sg_up_s, sgu_n (by decide)]; exact (by rw [ef_13, sg_up_s, sgu_n (by decide)]; exact (by rw [ef_1, sg_up_s, sgu_s]))))).trans (by decide)
        refine sg_calli (va_runV (As := [.int 7, .int x2]) (rest := []) ⟨hx, hb, hml, hown, hts⟩ (kX12_tellsAs_7_f0_f7 l D ca za h hh f_14 L Q hI x2 (by rw [ef_14, sg_up_s, sgu_n (by decide)]; exact (by rw [ef_13, sg_up_s, sgu_n (by decide)]; exact (by rw [ef_1, sg_up_s, sgu_s]))) (Eq.trans (by rw [ef_14, sg_up_s, sgu_n (by decide)]; exact (by rw [ef_13, sg_up_s, sgu_s])) c_422) (by have k0 : (7 : Int32).toInt = 7 := (by decide); omega) H.size) (cwV 2 hts (gw_V (fun _ h => List.mem_cons_of_mem _ h) mw_885 mw_886 mw_887 mw_619 mw_884) rfl rfl rfl (by decide +kernel) ⟨Nat.le_of_ble_eq_true rfl, Nat.le_of_ble_eq_true rfl⟩) (sg_preV (ci := 12) (C := RX12) (T := TX12) (N := 55) hA hK hP hS hZ 0 (by decide) rfl rfl) rfl rfl hl.1 rfl (lv_room (Nat.le_of_ble_eq_true rfl)) dX12_act_96 ⟨Nat.le_refl _, Nat.le_refl _⟩) hA hS (fun r_428 f_425 L_426 Q_427 H locs hq hP hS => ?_)
        obtain ⟨⟨hI, hk_f_425, eL9, eQ9⟩, hq, p_429⟩ := hq
        rw [eL9, eQ9] at hP; clear eL9 eQ9
        have hF : sgK WkX12_act f f_425 := sgK.tr hF hk_f_425 (by decide)
        obtain ⟨v_430, ev_430⟩ : ∃ z : Int32, z = f_425 0 48 := ⟨_, rfl⟩
        have q_431 : 0 ≤ v_430.toInt ∧ v_430.toInt ≤ 19 := by rw [ev_430]; exact hI 0 48
        have q_432 : (f_425 0 48).toInt = v_430.toInt := (congrArg Int32.toInt (show f_425 0 48 = v_430 from ev_430.symm))
        have q_433 : (f_425 0 48).toInt = v_430.toInt := (congrArg Int32.toInt (show f_425 0 48 = v_430 from ev_430.symm))
        have k_434 : (7 : Int32).toInt = 7 := by decide
        exact hret _ _ _ _ (r_428) f_425 L Q dX12_act_99 hP hS ⟨⟨hI, hF, rfl, rfl⟩, trivial⟩
  · skip
    have q_435 := hq
    refine lv_if_ne (tgt := 15) hx hb dX12_act_10 (by decide) (fun c => absurd c (by decide)) (fun c => ?_)
    refine lv_iconst (v := 0) hx hb dX12_act_13 (by decide) ?_
    have k99 : (0 : Int32).toInt = 0 := (by decide)
    exact hret _ _ _ _ (0) f_1 L Q dX12_act_14 hP hS ⟨⟨hI, hF, rfl, rfl⟩, trivial⟩

set_option maxHeartbeats 4000000 in
set_option maxRecDepth 100000 in
theorem kX12_trace (l : Launch) (D : va_G) (ca : Nat → ClassId) (za h : Nat → Nat) (hh : sgH 26 h) (f : sg_F) (L : sg_L) (Q : sg_Q) (hI : sgI loM hiM f) (x0 : Int32) (sz : Nat) : Met l yX12_trace gwX12_trace { frames := 0, cells := 0, slots := 0, locals := 0 } (sgP D vwCl (tyX ca) 26 h (eM ca h) zcM za f L Q sz [.ref (h 0), .int x0]) (sgQi D vwCl 26 h (eM ca h) sz (fun r f1 L1 Q1 => ((f1 = f ∧ L1 = L ∧ Q1 = Q) ∧ ((-1) ≤ r.toInt ∧ r.toInt ≤ 81)))) 0 0 (sgA 26 h sz) := by
  refine sg_ofWi (cc := cX12_trace) (maxL := 2) RX12 (by decide) rfl rfl (Nat.le_of_ble_eq_true rfl) ?_
  intro p e s m below meth cd Qz ls hx hb hml hown hts hK hZ hP hS hl hret
  have hA := sgY.self (n := 26) (h := h) (sz := s.heap.size)
  have hl : lv_has ls 2 [(0, .ref (h 0)), (1, .int x0)] := hl
  obtain ⟨H, hH⟩ : ∃ z : Heap, z = s.heap := ⟨_, rfl⟩
  obtain ⟨locs, hlo⟩ : ∃ z : List Loc, z = [] := ⟨_, rfl⟩
  have hP : va_P D vwCl (sgw 26 h (eM ca h) f L Q) H := by rw [hH]; exact hP
  have hS : va_S (sgA 26 h s.heap.size) s.heap H locs := by rw [hH, hlo]; exact hS
  suffices hgo : W p l e ({ frames := 0, cells := 0, slots := 0, locals := 0 }) s m ([.ref (h 0), .int x0] : List Value).toArray below meth cd H locs 0 0 Qz (F0 m 0 ls []) by rw [hH, hlo] at hgo; exact hgo
  clear hH hlo
  refine lv_iload_n hx hb dX12_trace_0 rfl (lv_at hl 1 rfl) ?_
  refine lv_if_lt (tgt := 27) hx hb dX12_trace_1 (by decide) (fun c => ?_) (fun c => ?_)
  · skip
    have c_1 : x0.toInt < 0 := (by have z := bn_lt c; have k1 : (0 : Int32).toInt = 0 := (by decide); omega)
    refine lv_iconst (v := (-1)) hx hb dX12_trace_27 (by decide) ?_
    have k99 : ((-1) : Int32).toInt = (-1) := (by decide)
    exact hret _ _ _ _ (-1) f L Q dX12_trace_28 hP hS ⟨⟨rfl, rfl, rfl⟩, (by decide)⟩
  · skip
    have c_2 : 0 ≤ x0.toInt := (by have z := bn_nlt c; have k1 : (0 : Int32).toInt = 0 := (by decide); omega)
    refine lv_iload_n hx hb dX12_trace_4 rfl (lv_at hl 1 rfl) ?_
    refine lv_aload_n hx hb dX12_trace_5 rfl (lv_at hl 0 rfl) ?_
    refine sg_get (ci := 12) (v := .int (f 0 48)) (C := RX12) (T := TX12) (N := 55) hx hb hts (fun w h => List.mem_cons_of_mem _ (gx_12 w h)) hown hK hP 0 (by decide) rfl rfl 48 (by decide) (hts _ (List.mem_cons_of_mem _ mw_621)) (fun _ h9 => h9) rfl dX12_trace_6 ?_
    refine lv_topi (fun v_3 ev_3 => ?_)
    have q_4 : 0 ≤ v_3.toInt ∧ v_3.toInt ≤ 19 := by rw [ev_3]; exact hI 0 48
    refine lv_icmp_ge (tgt := 27) hx hb dX12_trace_9 (by decide) (fun c => ?_) (fun c => ?_)
    · skip
      have c_5 : v_3.toInt ≤ x0.toInt := (by have z := bn_le c; omega)
      refine lv_iconst (v := (-1)) hx hb dX12_trace_27 (by decide) ?_
      have k99 : ((-1) : Int32).toInt = (-1) := (by decide)
      exact hret _ _ _ _ (-1) f L Q dX12_trace_28 hP hS ⟨⟨rfl, rfl, rfl⟩, (by decide)⟩
    · skip
      have c_6 : x0.toInt < v_3.toInt := (by have z := bn_nle c; omega)
      refine lv_iload_n hx hb dX12_trace_12 rfl (lv_at hl 1 rfl) ?_
      refine lv_bipush (v := 24) hx hb dX12_trace_13 (by decide) ?_
      refine lv_icmp_ge (tgt := 27) hx hb dX12_trace_15 (by decide) (fun c => ?_) (fun c => ?_)
      · skip
        exfalso; have c_7 : 24 ≤ x0.toInt := (by have z := bn_le c; have k1 : (24 : Int32).toInt = 24 := (by decide); omega); omega
      · skip
        have c_8 : x0.toInt < 24 := (by have z := bn_nle c; have k1 : (24 : Int32).toInt = 24 := (by decide); omega)
        refine lv_aload_n hx hb dX12_trace_18 rfl (lv_at hl 0 rfl) ?_
        refine sg_get (ci := 12) (v := .ref (h 21)) (C := RX12) (T := TX12) (N := 55) hx hb hts (fun w h => List.mem_cons_of_mem _ (gx_12 w h)) hown hK hP 0 (by decide) rfl rfl 47 (by decide) (hts _ (List.mem_cons_of_mem _ mw_718)) (fun _ h9 => h9) rfl dX12_trace_19 ?_
        refine lv_iload_n hx hb dX12_trace_22 rfl (lv_at hl 1 rfl) ?_
        refine sg_iald hx hb hK hP 21 (by decide) 0 rfl rfl (i := x0) (vp_in_iff.mpr ⟨by omega, by omega⟩) dX12_trace_23 ?_
        refine lv_topi (fun v_9 ev_9 => ?_)
        have q_10 : 0 ≤ v_9.toInt ∧ v_9.toInt ≤ 81 := by rw [ev_9]; exact hI 21 _
        refine lv_goto (tgt := 28) hx hb dX12_trace_24 (by decide) ?_
        exact hret _ _ _ _ (v_9) f L Q dX12_trace_28 hP hS ⟨⟨rfl, rfl, rfl⟩, (by omega)⟩

abbrev WkX12_keep : List (Nat × Nat × Option Nat) := [(22, 22, none), (23, 23, none)]
set_option maxHeartbeats 4000000 in
set_option maxRecDepth 100000 in
theorem kX12_keep (l : Launch) (D : va_G) (ca : Nat → ClassId) (za h : Nat → Nat) (hh : sgH 26 h) (f : sg_F) (L : sg_L) (Q : sg_Q) (hI : sgI loM hiM f) (x0 : Int32) (x1 : Int32) (sz : Nat) : Met l yX12_keep gwX12_keep { frames := 2, cells := 0, slots := 0, locals := 46 } (sgP D vwCl (tyX ca) 26 h (eM ca h) zcM za f L Q sz [.ref (h 0), .int x0, .int x1]) (sgQi D vwCl 26 h (eM ca h) sz (fun r f1 L1 Q1 => ((sgI loM hiM f1 ∧ sgK WkX12_keep f f1 ∧ L1 = L ∧ Q1 = Q) ∧ ((-1) ≤ r.toInt ∧ r.toInt ≤ 1)))) 0 0 (sgA 26 h sz) := by
  refine sg_ofWi (cc := cX12_keep) (maxL := 3) RX12 (by decide) rfl rfl (Nat.le_of_ble_eq_true rfl) ?_
  intro p e s m below meth cd Qz ls hx hb hml hown hts hK hZ hP hS hl hret
  have hA := sgY.self (n := 26) (h := h) (sz := s.heap.size)
  have hl : lv_has ls 3 [(0, .ref (h 0)), (1, .int x0), (2, .int x1)] := hl
  obtain ⟨H, hH⟩ : ∃ z : Heap, z = s.heap := ⟨_, rfl⟩
  obtain ⟨locs, hlo⟩ : ∃ z : List Loc, z = [] := ⟨_, rfl⟩
  have hP : va_P D vwCl (sgw 26 h (eM ca h) f L Q) H := by rw [hH]; exact hP
  have hS : va_S (sgA 26 h s.heap.size) s.heap H locs := by rw [hH, hlo]; exact hS
  suffices hgo : W p l e ({ frames := 2, cells := 0, slots := 0, locals := 46 }) s m ([.ref (h 0), .int x0, .int x1] : List Value).toArray below meth cd H locs 0 0 Qz (F0 m 0 ls []) by rw [hH, hlo] at hgo; exact hgo
  clear hH hlo
  have hF : sgK WkX12_keep f f := sgK.rf
  have blk_22 : ∀ (fp_22 : sg_F) (H : Heap) (locs : List Loc) (ls : Array Slot), 0 ≤ x0.toInt ∧ x0.toInt ≤ 5 → (-1) ≤ x1.toInt ∧ x1.toInt ≤ 49 → sgI loM hiM fp_22 → sgK WkX12_keep f fp_22 → va_P D vwCl (sgw 26 h (eM ca h) fp_22 L Q) H → va_S (sgA 26 h s.heap.size) s.heap H locs → lv_has ls 3 [(0, .ref (h 0)), (1, .int x0), (2, .int x1)] → W p l e ({ frames := 2, cells := 0, slots := 0, locals := 46 }) s m ([.ref (h 0), .int x0, .int x1] : List Value).toArray below meth cd H locs 0 0 Qz (F0 m 22 ls []) := by
    intro fp_22 H locs ls hy0_22 hy1_22 hI hF hP hS hl
    refine lv_aload_n hx hb dX12_keep_22 rfl (lv_at hl 0 rfl) ?_
    refine sg_get (ci := 12) (v := .ref (h 22)) (C := RX12) (T := TX12) (N := 55) hx hb hts (fun w h => List.mem_cons_of_mem _ (gx_12 w h)) hown hK hP 0 (by decide) rfl rfl 51 (by decide) (hts _ (List.mem_cons_of_mem _ mw_643)) (fun _ h9 => h9) rfl dX12_keep_23 ?_
    refine lv_iload_n hx hb dX12_keep_26 rfl (lv_at hl 1 rfl) ?_
    refine lv_iload_n hx hb dX12_keep_27 rfl (lv_at hl 2 rfl) ?_
    refine sg_iast hx hb hh hA hK hP hS 22 (by decide) 0 (fun _ => rfl) rfl (i := x0) (x := x1) (vp_in_iff.mpr ⟨by omega, by omega⟩) dX12_keep_28 (fun f_1 H locs ef_1 hP hS => ?_)
    have hI : sgI loM hiM f_1 := by rw [ef_1]; exact sgI.put hI 22 x0.toNatClampNeg (show (-1) ≤ (x1 : Int32).toInt ∧ (x1 : Int32).toInt ≤ 54 from by omega)
    have hF : sgK WkX12_keep f f_1 := sgK.put hF ef_1 (by rfl)
    refine lv_aload_n hx hb dX12_keep_29 rfl (lv_at hl 0 rfl) ?_
    refine sg_get (ci := 12) (v := .ref (h 23)) (C := RX12) (T := TX12) (N := 55) hx hb hts (fun w h => List.mem_cons_of_mem _ (gx_12 w h)) hown hK hP 0 (by decide) rfl rfl 52 (by decide) (hts _ (List.mem_cons_of_mem _ mw_645)) (fun _ h9 => h9) rfl dX12_keep_30 ?_
    refine lv_iload_n hx hb dX12_keep_33 rfl (lv_at hl 1 rfl) ?_
    refine lv_iconst (v := 0) hx hb dX12_keep_34 (by decide) ?_
    refine sg_iast hx hb hh hA hK hP hS 23 (by decide) 0 (fun _ => rfl) rfl (i := x0) (x := 0) (vp_in_iff.mpr ⟨by omega, by omega⟩) dX12_keep_35 (fun f_2 H locs ef_2 hP hS => ?_)
    have hI : sgI loM hiM f_2 := by rw [ef_2]; exact sgI.put hI 23 x0.toNatClampNeg (show 0 ≤ (0 : Int32).toInt ∧ (0 : Int32).toInt ≤ 60 from by decide)
    have hF : sgK WkX12_keep f f_2 := sgK.put hF ef_2 (by rfl)
    refine lv_iconst (v := 1) hx hb dX12_keep_36 (by decide) ?_
    have k99 : (1 : Int32).toInt = 1 := (by decide)
    exact hret _ _ _ _ (1) f_2 L Q dX12_keep_37 hP hS ⟨⟨hI, hF, rfl, rfl⟩, (by decide)⟩
  refine lv_iload_n hx hb dX12_keep_0 rfl (lv_at hl 1 rfl) ?_
  refine sg_calli (va_runS (As := [.int x0]) (rest := []) ⟨hx, hb, hml, hown, hts⟩ (kX12_isShelf l D ca za h hh f L Q hI x0 H.size) (va_cwS 1 hts (gw_S (fun _ h => List.mem_cons_of_mem _ h) mw_641 mw_642 mw_619 mw_640) rfl rfl rfl (by decide +kernel) ⟨Nat.le_of_ble_eq_true rfl, Nat.le_of_ble_eq_true rfl⟩) (sg_preS hA hK hP hS hZ) rfl rfl hl.1 rfl (lv_room (Nat.le_of_ble_eq_true rfl)) dX12_keep_1 ⟨Nat.le_refl _, Nat.le_refl _⟩) hA hS (fun r_6 f_3 L_4 Q_5 H locs hq hP hS => ?_)
  obtain ⟨⟨ef9, eL9, eQ9⟩, hq⟩ := hq
  rw [ef9, eL9, eQ9] at hP; clear ef9 eL9 eQ9
  rcases hq with ⟨rfl, hq⟩ | ⟨rfl, hq⟩
  · skip
    have q_7 := hq
    refine lv_if_eq (tgt := 20) hx hb dX12_keep_4 (by decide) (fun c => absurd c (by decide)) (fun c => ?_)
    refine lv_iload_n hx hb dX12_keep_7 rfl (lv_at hl 2 rfl) ?_
    refine lv_iconst (v := (-1)) hx hb dX12_keep_8 (by decide) ?_
    refine lv_icmp_eq (tgt := 22) hx hb dX12_keep_9 (by decide) (fun c => ?_) (fun c => ?_)
    · skip
      have c_8 : x1.toInt = (-1) := (by have z := Int32.toInt_inj.mpr c; have k1 : ((-1) : Int32).toInt = (-1) := (by decide); omega)
      exact blk_22 f _ _ _ (by omega) (by omega) hI hF hP hS (lv_sub hl [0, 1, 2] rfl)
    · skip
      have c_9 : x1.toInt ≠ (-1) := (by have z := bn_ne c; have k1 : ((-1) : Int32).toInt = (-1) := (by decide); omega)
      refine lv_aload_n hx hb dX12_keep_12 rfl (lv_at hl 0 rfl) ?_
      refine lv_iload_n hx hb dX12_keep_13 rfl (lv_at hl 2 rfl) ?_
      obtain ⟨v_10, ev_10⟩ : ∃ z : Int32, z = f 0 45 := ⟨_, rfl⟩
      have q_11 : 0 ≤ v_10.toInt ∧ v_10.toInt ≤ 50 := by rw [ev_10]; exact hI 0 45
      have q_12 : (f 0 45).toInt = v_10.toInt := (congrArg Int32.toInt (show f 0 45 = v_10 from ev_10.symm))
      have q_13 : (f 0 45).toInt = v_10.toInt := (congrArg Int32.toInt (show f 0 45 = v_10 from ev_10.symm))
      refine sg_calli (va_runV (As := [.int x1]) (rest := []) ⟨hx, hb, hml, hown, hts⟩ (kX12_isBody l D ca za h hh f L Q hI x1 H.size) (cwV 1 hts (gw_V (fun _ h => List.mem_cons_of_mem _ h) mw_676 mw_677 mw_678 mw_619 mw_675) rfl rfl rfl (by decide +kernel) ⟨Nat.le_of_ble_eq_true rfl, Nat.le_of_ble_eq_true rfl⟩) (sg_preV (ci := 12) (C := RX12) (T := TX12) (N := 55) hA hK hP hS hZ 0 (by decide) rfl rfl) rfl rfl hl.1 rfl (lv_room (Nat.le_of_ble_eq_true rfl)) dX12_keep_14 ⟨Nat.le_refl _, Nat.le_refl _⟩) hA hS (fun r_17 f_14 L_15 Q_16 H locs hq hP hS => ?_)
      obtain ⟨⟨ef9, eL9, eQ9⟩, hq⟩ := hq
      rw [ef9, eL9, eQ9] at hP; clear ef9 eL9 eQ9
      rcases hq with ⟨rfl, hq⟩ | ⟨rfl, hq⟩
      · skip
        have q_18 := hq
        refine lv_if_ne (tgt := 22) hx hb dX12_keep_17 (by decide) (fun c => ?_) (fun c => absurd c (by decide))
        exact blk_22 f _ _ _ (by omega) (by omega) hI hF hP hS (lv_sub hl [0, 1, 2] rfl)
      · skip
        have q_19 := hq
        refine lv_if_ne (tgt := 22) hx hb dX12_keep_17 (by decide) (fun c => absurd c (by decide)) (fun c => ?_)
        refine lv_iconst (v := (-1)) hx hb dX12_keep_20 (by decide) ?_
        have k99 : ((-1) : Int32).toInt = (-1) := (by decide)
        exact hret _ _ _ _ (-1) f L Q dX12_keep_21 hP hS ⟨⟨hI, hF, rfl, rfl⟩, (by decide)⟩
  · skip
    have q_20 := hq
    refine lv_if_eq (tgt := 20) hx hb dX12_keep_4 (by decide) (fun c => ?_) (fun c => absurd c (by decide))
    refine lv_iconst (v := (-1)) hx hb dX12_keep_20 (by decide) ?_
    have k99 : ((-1) : Int32).toInt = (-1) := (by decide)
    exact hret _ _ _ _ (-1) f L Q dX12_keep_21 hP hS ⟨⟨hI, hF, rfl, rfl⟩, (by decide)⟩

abbrev WkX12_row : List (Nat × Nat × Option Nat) := [(22, 22, none), (23, 23, none)]
set_option maxHeartbeats 4000000 in
set_option maxRecDepth 100000 in
theorem kX12_row (l : Launch) (D : va_G) (ca : Nat → ClassId) (za h : Nat → Nat) (hh : sgH 26 h) (f : sg_F) (L : sg_L) (Q : sg_Q) (hI : sgI loM hiM f) (x0 : Int32) (x1 : Int32) (x2 : Int32) (sz : Nat) : Met l yX12_row gwX12_row { frames := 2, cells := 0, slots := 0, locals := 45 } (sgP D vwCl (tyX ca) 26 h (eM ca h) zcM za f L Q sz [.ref (h 0), .int x0, .int x1, .int x2]) (sgQi D vwCl 26 h (eM ca h) sz (fun r f1 L1 Q1 => ((sgI loM hiM f1 ∧ sgK WkX12_row f f1 ∧ True ∧ Q1 = Q) ∧ ((r = 1 ∧ (0 ≤ x0.toInt ∧ x0.toInt ≤ 5 ∧ 0 ≤ x1.toInt ∧ x1.toInt ≤ 4 ∧ 0 ≤ x2.toInt ∧ x2.toInt ≤ 60)) ∨ (r = (-14) ∧ (0 ≤ x0.toInt ∧ x0.toInt ≤ 5 ∧ 0 ≤ x1.toInt ∧ x1.toInt ≤ 4 ∧ x2.toInt < 0)) ∨ (r = (-1) ∧ (¬ (0 ≤ x0.toInt ∧ x0.toInt ≤ 5 ∧ 0 ≤ x1.toInt ∧ x1.toInt ≤ 4 ∧ x2.toInt ≤ 60))))))) 0 0 (sgA 26 h sz) := by
  refine sg_ofWi (cc := cX12_row) (maxL := 5) RX12 (by decide) rfl rfl (Nat.le_of_ble_eq_true rfl) ?_
  intro p e s m below meth cd Qz ls hx hb hml hown hts hK hZ hP hS hl hret
  have hA := sgY.self (n := 26) (h := h) (sz := s.heap.size)
  have hl : lv_has ls 5 [(0, .ref (h 0)), (1, .int x0), (2, .int x1), (3, .int x2)] := hl
  obtain ⟨H, hH⟩ : ∃ z : Heap, z = s.heap := ⟨_, rfl⟩
  obtain ⟨locs, hlo⟩ : ∃ z : List Loc, z = [] := ⟨_, rfl⟩
  have hP : va_P D vwCl (sgw 26 h (eM ca h) f L Q) H := by rw [hH]; exact hP
  have hS : va_S (sgA 26 h s.heap.size) s.heap H locs := by rw [hH, hlo]; exact hS
  suffices hgo : W p l e ({ frames := 2, cells := 0, slots := 0, locals := 45 }) s m ([.ref (h 0), .int x0, .int x1, .int x2] : List Value).toArray below meth cd H locs 0 0 Qz (F0 m 0 ls []) by rw [hH, hlo] at hgo; exact hgo
  clear hH hlo
  have hF : sgK WkX12_row f f := sgK.rf
  have loop_57 : ∀ (n_57 : Nat) (y4_57 : Int32) (fp_57 : sg_F) (Lp_57 : sg_L) (H : Heap) (locs : List Loc) (ls : Array Slot), 360 - y4_57.toInt < (n_57 : Int) → 0 ≤ x0.toInt ∧ x0.toInt ≤ 5 → 0 ≤ x1.toInt ∧ x1.toInt ≤ 4 → 0 ≤ x2.toInt ∧ x2.toInt ≤ 60 → 0 ≤ y4_57.toInt ∧ y4_57.toInt ≤ 360 → sgI loM hiM fp_57 → sgK WkX12_row f fp_57 → va_P D vwCl (sgw 26 h (eM ca h) fp_57 Lp_57 Q) H → va_S (sgA 26 h s.heap.size) s.heap H locs → lv_has ls 5 [(0, .ref (h 0)), (1, .int x0), (4, .int y4_57)] → W p l e ({ frames := 2, cells := 0, slots := 0, locals := 45 }) s m ([.ref (h 0), .int x0, .int x1, .int x2] : List Value).toArray below meth cd H locs 0 0 Qz (F0 m 57 ls []) := by
    intro n_57
    induction n_57 with
    | zero => intro y4_57 fp_57 Lp_57 H locs ls hm_57 hy0_57 hy1_57 hy2_57 hy3_57 hI hF hP hS hl; exact absurd hm_57 (by omega)
    | succ n_57 ih_57 =>
      intro y4_57 fp_57 Lp_57 H locs ls hm_57 hy0_57 hy1_57 hy2_57 hy3_57 hI hF hP hS hl
      refine lv_iload hx hb dX12_row_57 (lv_at hl 2 rfl) ?_
      refine lv_bipush (v := 60) hx hb dX12_row_59 (by decide) ?_
      refine lv_iload_n hx hb dX12_row_61 rfl (lv_at hl 1 rfl) ?_
      refine lv_imul hx hb dX12_row_62 ?_
      refine lv_topi (fun v_1 ev_1 => ?_)
      have q_2 : v_1.toInt = 60 * x0.toInt := by rw [ev_1]; exact bn_mulJ (by decide) (by omega) (by omega)
      refine lv_bipush (v := 60) hx hb dX12_row_63 (by decide) ?_
      refine lv_iadd hx hb dX12_row_65 ?_
      refine lv_topi (fun v_3 ev_3 => ?_)
      have q_4 : v_3.toInt = v_1.toInt + 60 := by rw [ev_3]; have k1 : (60 : Int32).toInt = 60 := (by decide); exact (bn_addI (by omega) (by omega)).trans (by omega)
      refine lv_icmp_ge (tgt := 83) hx hb dX12_row_66 (by decide) (fun c => ?_) (fun c => ?_)
      · skip
        have c_5 : v_3.toInt ≤ y4_57.toInt := (by have z := bn_le c; omega)
        refine lv_iconst (v := 1) hx hb dX12_row_83 (by decide) ?_
        have k99 : (1 : Int32).toInt = 1 := (by decide)
        exact hret _ _ _ _ (1) fp_57 Lp_57 Q dX12_row_84 hP hS ⟨⟨hI, hF, trivial, rfl⟩, Or.inl ⟨rfl, by omega⟩⟩
      · skip
        have c_6 : y4_57.toInt < v_3.toInt := (by have z := bn_nle c; omega)
        refine lv_aload_n hx hb dX12_row_69 rfl (lv_at hl 0 rfl) ?_
        refine sg_get (ci := 12) (v := .ref (h 24)) (C := RX12) (T := TX12) (N := 55) hx hb hts (fun w h => List.mem_cons_of_mem _ (gx_12 w h)) hown hK hP 0 (by decide) rfl rfl 53 (by decide) (hts _ (List.mem_cons_of_mem _ mw_646)) (fun _ h9 => h9) rfl dX12_row_70 ?_
        refine lv_iload hx hb dX12_row_73 (lv_at hl 2 rfl) ?_
        refine lv_lconst (v := 0) hx hb dX12_row_75 (by decide) ?_
        refine sg_last hx hb hh hA hK hP hS 24 (by decide) 1 (fun _ => rfl) rfl (i := y4_57) (x := 0) (vp_in_iff.mpr ⟨by omega, by omega⟩) dX12_row_76 (fun L_7 H locs eL_7 hP hS => ?_)
        obtain ⟨v_8, ev_8⟩ : ∃ z : Int32, z = y4_57 + 1 := ⟨_, rfl⟩
        have q_9 : v_8.toInt = y4_57.toInt + 1 := by rw [ev_8]; exact (bn_addc y4_57 1 (by decide) (by omega) (by omega))
        refine lv_iinc (v := v_8) (lv' := [(4, .int v_8), (0, .ref (h 0)), (1, .int x0)]) hx hb dX12_row_77 hl (k := 2) rfl (by rw [ev_8]; rfl) (by decide) rfl (fun ls hl => ?_)
        refine lv_goto (tgt := 57) hx hb dX12_row_80 (by decide) ?_
        exact ih_57 v_8 fp_57 L_7 _ _ _ (by omega) (by omega) (by omega) (by omega) (by omega) hI hF hP hS (lv_sub hl [1, 2, 0] rfl)
  refine lv_iload_n hx hb dX12_row_0 rfl (lv_at hl 1 rfl) ?_
  refine sg_calli (va_runS (As := [.int x0]) (rest := []) ⟨hx, hb, hml, hown, hts⟩ (kX12_isShelf l D ca za h hh f L Q hI x0 H.size) (va_cwS 1 hts (gw_S (fun _ h => List.mem_cons_of_mem _ h) mw_641 mw_642 mw_619 mw_640) rfl rfl rfl (by decide +kernel) ⟨Nat.le_of_ble_eq_true rfl, Nat.le_of_ble_eq_true rfl⟩) (sg_preS hA hK hP hS hZ) rfl rfl hl.1 rfl (lv_room (Nat.le_of_ble_eq_true rfl)) dX12_row_1 ⟨Nat.le_refl _, Nat.le_refl _⟩) hA hS (fun r_13 f_10 L_11 Q_12 H locs hq hP hS => ?_)
  obtain ⟨⟨ef9, eL9, eQ9⟩, hq⟩ := hq
  rw [ef9, eL9, eQ9] at hP; clear ef9 eL9 eQ9
  rcases hq with ⟨rfl, hq⟩ | ⟨rfl, hq⟩
  · skip
    have q_14 := hq
    refine lv_if_eq (tgt := 25) hx hb dX12_row_4 (by decide) (fun c => absurd c (by decide)) (fun c => ?_)
    refine lv_iload_n hx hb dX12_row_7 rfl (lv_at hl 2 rfl) ?_
    obtain ⟨w_15, ew_15⟩ : ∃ z : Int64, z = Int32.toInt64 x1 := ⟨_, rfl⟩
    have q_16 : w_15.toInt = x1.toInt := by rw [ew_15]; exact Int32.toInt_toInt64 _
    refine lv_i2l (v := w_15) hx hb dX12_row_8 ew_15.symm ?_
    refine lv_lconst (v := 0) hx hb dX12_row_9 (by decide) ?_
    refine lv_ldc2 (v := 4) hx hb hown (hts _ (List.mem_cons_of_mem _ mw_644)) dX12_row_10 ?_
    refine sg_calli (va_runS (As := [.long w_15, .long 0, .long 4]) (rest := []) ⟨hx, hb, hml, hown, hts⟩ (kX12_within l D ca za h hh f L Q hI w_15 0 4 H.size) (va_cwS 3 hts (gw_S (fun _ h => List.mem_cons_of_mem _ h) mw_631 mw_632 mw_619 mw_630) rfl rfl rfl (by decide +kernel) ⟨Nat.le_of_ble_eq_true rfl, Nat.le_of_ble_eq_true rfl⟩) (sg_preS hA hK hP hS hZ) rfl rfl hl.1 rfl (lv_room (Nat.le_of_ble_eq_true rfl)) dX12_row_13 ⟨Nat.le_refl _, Nat.le_refl _⟩) hA hS (fun r_20 f_17 L_18 Q_19 H locs hq hP hS => ?_)
    obtain ⟨⟨ef9, eL9, eQ9⟩, hq⟩ := hq
    rw [ef9, eL9, eQ9] at hP; clear ef9 eL9 eQ9
    have k_21 : (0 : Int64).toInt = 0 := by decide
    have k_22 : (4 : Int64).toInt = 4 := by decide
    rcases hq with ⟨rfl, hq⟩ | ⟨rfl, hq⟩
    · skip
      have q_23 := hq
      refine lv_if_eq (tgt := 25) hx hb dX12_row_16 (by decide) (fun c => absurd c (by decide)) (fun c => ?_)
      refine lv_iload_n hx hb dX12_row_19 rfl (lv_at hl 3 rfl) ?_
      refine lv_bipush (v := 60) hx hb dX12_row_20 (by decide) ?_
      refine lv_icmp_le (tgt := 27) hx hb dX12_row_22 (by decide) (fun c => ?_) (fun c => ?_)
      · skip
        have c_24 : x2.toInt ≤ 60 := (by have z := bn_le c; have k1 : (60 : Int32).toInt = 60 := (by decide); omega)
        refine lv_iload_n hx hb dX12_row_27 rfl (lv_at hl 3 rfl) ?_
        refine lv_if_ge (tgt := 34) hx hb dX12_row_28 (by decide) (fun c => ?_) (fun c => ?_)
        · skip
          have c_26 : 0 ≤ x2.toInt := (by have z := bn_le c; have k1 : (0 : Int32).toInt = 0 := (by decide); omega)
          refine lv_aload_n hx hb dX12_row_34 rfl (lv_at hl 0 rfl) ?_
          refine sg_get (ci := 12) (v := .ref (h 22)) (C := RX12) (T := TX12) (N := 55) hx hb hts (fun w h => List.mem_cons_of_mem _ (gx_12 w h)) hown hK hP 0 (by decide) rfl rfl 51 (by decide) (hts _ (List.mem_cons_of_mem _ mw_643)) (fun _ h9 => h9) rfl dX12_row_35 ?_
          refine lv_iload_n hx hb dX12_row_38 rfl (lv_at hl 1 rfl) ?_
          refine lv_bipush (v := 50) hx hb dX12_row_39 (by decide) ?_
          refine lv_iload_n hx hb dX12_row_41 rfl (lv_at hl 2 rfl) ?_
          refine lv_iadd hx hb dX12_row_42 ?_
          refine lv_topi (fun v_28 ev_28 => ?_)
          have q_29 : v_28.toInt = 50 + x1.toInt := by rw [ev_28]; have k0 : (50 : Int32).toInt = 50 := (by decide); exact (bn_addI (by omega) (by omega)).trans (by omega)
          refine sg_iast hx hb hh hA hK hP hS 22 (by decide) 0 (fun _ => rfl) rfl (i := x0) (x := v_28) (vp_in_iff.mpr ⟨by omega, by omega⟩) dX12_row_43 (fun f_30 H locs ef_30 hP hS => ?_)
          have hI : sgI loM hiM f_30 := by rw [ef_30]; exact sgI.put hI 22 x0.toNatClampNeg (show (-1) ≤ (v_28 : Int32).toInt ∧ (v_28 : Int32).toInt ≤ 54 from by omega)
          have hF : sgK WkX12_row f f_30 := sgK.put hF ef_30 (by rfl)
          refine lv_aload_n hx hb dX12_row_44 rfl (lv_at hl 0 rfl) ?_
          refine sg_get (ci := 12) (v := .ref (h 23)) (C := RX12) (T := TX12) (N := 55) hx hb hts (fun w h => List.mem_cons_of_mem _ (gx_12 w h)) hown hK hP 0 (by decide) rfl rfl 52 (by decide) (hts _ (List.mem_cons_of_mem _ mw_645)) (fun _ h9 => h9) rfl dX12_row_45 ?_
          refine lv_iload_n hx hb dX12_row_48 rfl (lv_at hl 1 rfl) ?_
          refine lv_iload_n hx hb dX12_row_49 rfl (lv_at hl 3 rfl) ?_
          refine sg_iast hx hb hh hA hK hP hS 23 (by decide) 0 (fun _ => rfl) rfl (i := x0) (x := x2) (vp_in_iff.mpr ⟨by omega, by omega⟩) dX12_row_50 (fun f_31 H locs ef_31 hP hS => ?_)
          have hI : sgI loM hiM f_31 := by rw [ef_31]; exact sgI.put hI 23 x0.toNatClampNeg (show 0 ≤ (x2 : Int32).toInt ∧ (x2 : Int32).toInt ≤ 60 from by omega)
          have hF : sgK WkX12_row f f_31 := sgK.put hF ef_31 (by rfl)
          refine lv_bipush (v := 60) hx hb dX12_row_51 (by decide) ?_
          refine lv_iload_n hx hb dX12_row_53 rfl (lv_at hl 1 rfl) ?_
          refine lv_imul hx hb dX12_row_54 ?_
          refine lv_topi (fun v_32 ev_32 => ?_)
          have q_33 : v_32.toInt = 60 * x0.toInt := by rw [ev_32]; exact bn_mulJ (by decide) (by omega) (by omega)
          refine lv_istore (lv' := [(4, .int v_32), (0, .ref (h 0)), (1, .int x0), (2, .int x1), (3, .int x2)]) hx hb dX12_row_55 hl (by decide) rfl (fun ls hl => ?_)
          exact loop_57 361 v_32 f_31 L _ _ _ (by omega) (by omega) (by omega) (by omega) (by omega) hI hF hP hS (lv_sub hl [1, 2, 0] rfl)
        · skip
          have c_27 : x2.toInt < 0 := (by have z := bn_nle c; have k1 : (0 : Int32).toInt = 0 := (by decide); omega)
          refine lv_bipush (v := (-14)) hx hb dX12_row_31 (by decide) ?_
          have k99 : ((-14) : Int32).toInt = (-14) := (by decide)
          exact hret _ _ _ _ (-14) f L Q dX12_row_33 hP hS ⟨⟨hI, hF, trivial, rfl⟩, Or.inr (Or.inl ⟨rfl, by omega⟩)⟩
      · skip
        have c_25 : 60 < x2.toInt := (by have z := bn_nle c; have k1 : (60 : Int32).toInt = 60 := (by decide); omega)
        refine lv_iconst (v := (-1)) hx hb dX12_row_25 (by decide) ?_
        have k99 : ((-1) : Int32).toInt = (-1) := (by decide)
        exact hret _ _ _ _ (-1) f L Q dX12_row_26 hP hS ⟨⟨hI, hF, trivial, rfl⟩, Or.inr (Or.inr (⟨rfl, by omega⟩))⟩
    · skip
      have q_34 := hq
      refine lv_if_eq (tgt := 25) hx hb dX12_row_16 (by decide) (fun c => ?_) (fun c => absurd c (by decide))
      refine lv_iconst (v := (-1)) hx hb dX12_row_25 (by decide) ?_
      have k99 : ((-1) : Int32).toInt = (-1) := (by decide)
      exact hret _ _ _ _ (-1) f L Q dX12_row_26 hP hS ⟨⟨hI, hF, trivial, rfl⟩, Or.inr (Or.inr (⟨rfl, by omega⟩))⟩
  · skip
    have q_35 := hq
    refine lv_if_eq (tgt := 25) hx hb dX12_row_4 (by decide) (fun c => ?_) (fun c => absurd c (by decide))
    refine lv_iconst (v := (-1)) hx hb dX12_row_25 (by decide) ?_
    have k99 : ((-1) : Int32).toInt = (-1) := (by decide)
    exact hret _ _ _ _ (-1) f L Q dX12_row_26 hP hS ⟨⟨hI, hF, trivial, rfl⟩, Or.inr (Or.inr (⟨rfl, by omega⟩))⟩

set_option maxHeartbeats 4000000 in
set_option maxRecDepth 100000 in
theorem kX12_refusal (l : Launch) (D : va_G) (ca : Nat → ClassId) (za h : Nat → Nat) (hh : sgH 26 h) (f : sg_F) (L : sg_L) (Q : sg_Q) (hI : sgI loM hiM f) (x0 : Int32) (x1 : Int32) (sz : Nat) : Met l yX12_refusal gwX12_refusal { frames := 2, cells := 0, slots := 0, locals := 45 } (sgP D vwCl (tyX ca) 26 h (eM ca h) zcM za f L Q sz [.ref (h 0), .int x0, .int x1]) (sgQi D vwCl 26 h (eM ca h) sz (fun r f1 L1 Q1 => ((f1 = f ∧ L1 = L ∧ Q1 = Q) ∧ ((r = 0 ∧ (0 ≤ x0.toInt ∧ x0.toInt ≤ 5 ∧ 0 ≤ x1.toInt ∧ x1.toInt ≤ 59)) ∨ (r.toInt = -1 ∨ r.toInt = -11 ∨ r.toInt = -12 ∨ r.toInt = -13))))) 0 0 (sgA 26 h sz) := by
  refine sg_ofWi (cc := cX12_refusal) (maxL := 3) RX12 (by decide) rfl rfl (Nat.le_of_ble_eq_true rfl) ?_
  intro p e s m below meth cd Qz ls hx hb hml hown hts hK hZ hP hS hl hret
  have hA := sgY.self (n := 26) (h := h) (sz := s.heap.size)
  have hl : lv_has ls 3 [(0, .ref (h 0)), (1, .int x0), (2, .int x1)] := hl
  obtain ⟨H, hH⟩ : ∃ z : Heap, z = s.heap := ⟨_, rfl⟩
  obtain ⟨locs, hlo⟩ : ∃ z : List Loc, z = [] := ⟨_, rfl⟩
  have hP : va_P D vwCl (sgw 26 h (eM ca h) f L Q) H := by rw [hH]; exact hP
  have hS : va_S (sgA 26 h s.heap.size) s.heap H locs := by rw [hH, hlo]; exact hS
  suffices hgo : W p l e ({ frames := 2, cells := 0, slots := 0, locals := 45 }) s m ([.ref (h 0), .int x0, .int x1] : List Value).toArray below meth cd H locs 0 0 Qz (F0 m 0 ls []) by rw [hH, hlo] at hgo; exact hgo
  clear hH hlo
  refine lv_iload_n hx hb dX12_refusal_0 rfl (lv_at hl 1 rfl) ?_
  refine sg_calli (va_runS (As := [.int x0]) (rest := []) ⟨hx, hb, hml, hown, hts⟩ (kX12_isShelf l D ca za h hh f L Q hI x0 H.size) (va_cwS 1 hts (gw_S (fun _ h => List.mem_cons_of_mem _ h) mw_641 mw_642 mw_619 mw_640) rfl rfl rfl (by decide +kernel) ⟨Nat.le_of_ble_eq_true rfl, Nat.le_of_ble_eq_true rfl⟩) (sg_preS hA hK hP hS hZ) rfl rfl hl.1 rfl (lv_room (Nat.le_of_ble_eq_true rfl)) dX12_refusal_1 ⟨Nat.le_refl _, Nat.le_refl _⟩) hA hS (fun r_4 f_1 L_2 Q_3 H locs hq hP hS => ?_)
  obtain ⟨⟨ef9, eL9, eQ9⟩, hq⟩ := hq
  rw [ef9, eL9, eQ9] at hP; clear ef9 eL9 eQ9
  rcases hq with ⟨rfl, hq⟩ | ⟨rfl, hq⟩
  · skip
    have q_5 := hq
    refine lv_if_ne (tgt := 9) hx hb dX12_refusal_4 (by decide) (fun c => ?_) (fun c => absurd c (by decide))
    refine lv_aload_n hx hb dX12_refusal_9 rfl (lv_at hl 0 rfl) ?_
    refine sg_get (ci := 12) (v := .ref (h 22)) (C := RX12) (T := TX12) (N := 55) hx hb hts (fun w h => List.mem_cons_of_mem _ (gx_12 w h)) hown hK hP 0 (by decide) rfl rfl 51 (by decide) (hts _ (List.mem_cons_of_mem _ mw_643)) (fun _ h9 => h9) rfl dX12_refusal_10 ?_
    refine lv_iload_n hx hb dX12_refusal_13 rfl (lv_at hl 1 rfl) ?_
    refine sg_iald hx hb hK hP 22 (by decide) 0 rfl rfl (i := x0) (vp_in_iff.mpr ⟨by omega, by omega⟩) dX12_refusal_14 ?_
    refine lv_topi (fun v_6 ev_6 => ?_)
    have q_7 : (-1) ≤ v_6.toInt ∧ v_6.toInt ≤ 54 := by rw [ev_6]; exact hI 22 _
    refine lv_if_ge (tgt := 21) hx hb dX12_refusal_15 (by decide) (fun c => ?_) (fun c => ?_)
    · skip
      have c_8 : 0 ≤ v_6.toInt := (by have z := bn_le c; have k1 : (0 : Int32).toInt = 0 := (by decide); omega)
      refine lv_aload_n hx hb dX12_refusal_21 rfl (lv_at hl 0 rfl) ?_
      refine sg_get (ci := 12) (v := .ref (h 22)) (C := RX12) (T := TX12) (N := 55) hx hb hts (fun w h => List.mem_cons_of_mem _ (gx_12 w h)) hown hK hP 0 (by decide) rfl rfl 51 (by decide) (hts _ (List.mem_cons_of_mem _ mw_643)) (fun _ h9 => h9) rfl dX12_refusal_22 ?_
      refine lv_iload_n hx hb dX12_refusal_25 rfl (lv_at hl 1 rfl) ?_
      refine sg_iald hx hb hK hP 22 (by decide) 0 rfl rfl (i := x0) (vp_in_iff.mpr ⟨by omega, by omega⟩) dX12_refusal_26 ?_
      rw [← ev_6]
      refine lv_bipush (v := 50) hx hb dX12_refusal_27 (by decide) ?_
      refine lv_icmp_ge (tgt := 35) hx hb dX12_refusal_29 (by decide) (fun c => ?_) (fun c => ?_)
      · skip
        have c_10 : 50 ≤ v_6.toInt := (by have z := bn_le c; have k1 : (50 : Int32).toInt = 50 := (by decide); omega)
        refine lv_iload_n hx hb dX12_refusal_35 rfl (lv_at hl 2 rfl) ?_
        refine lv_if_lt (tgt := 53) hx hb dX12_refusal_36 (by decide) (fun c => ?_) (fun c => ?_)
        · skip
          have c_12 : x1.toInt < 0 := (by have z := bn_lt c; have k1 : (0 : Int32).toInt = 0 := (by decide); omega)
          refine lv_bipush (v := (-13)) hx hb dX12_refusal_53 (by decide) ?_
          have k99 : ((-13) : Int32).toInt = (-13) := (by decide)
          exact hret _ _ _ _ (-13) f L Q dX12_refusal_55 hP hS ⟨⟨rfl, rfl, rfl⟩, Or.inr ((by omega))⟩
        · skip
          have c_13 : 0 ≤ x1.toInt := (by have z := bn_nlt c; have k1 : (0 : Int32).toInt = 0 := (by decide); omega)
          refine lv_iload_n hx hb dX12_refusal_39 rfl (lv_at hl 2 rfl) ?_
          refine lv_aload_n hx hb dX12_refusal_40 rfl (lv_at hl 0 rfl) ?_
          refine sg_get (ci := 12) (v := .ref (h 23)) (C := RX12) (T := TX12) (N := 55) hx hb hts (fun w h => List.mem_cons_of_mem _ (gx_12 w h)) hown hK hP 0 (by decide) rfl rfl 52 (by decide) (hts _ (List.mem_cons_of_mem _ mw_645)) (fun _ h9 => h9) rfl dX12_refusal_41 ?_
          refine lv_iload_n hx hb dX12_refusal_44 rfl (lv_at hl 1 rfl) ?_
          refine sg_iald hx hb hK hP 23 (by decide) 0 rfl rfl (i := x0) (vp_in_iff.mpr ⟨by omega, by omega⟩) dX12_refusal_45 ?_
          refine lv_topi (fun v_14 ev_14 => ?_)
          have q_15 : 0 ≤ v_14.toInt ∧ v_14.toInt ≤ 60 := by rw [ev_14]; exact hI 23 _
          refine lv_icmp_ge (tgt := 53) hx hb dX12_refusal_46 (by decide) (fun c => ?_) (fun c => ?_)
          · skip
            have c_16 : v_14.toInt ≤ x1.toInt := (by have z := bn_le c; omega)
            refine lv_bipush (v := (-13)) hx hb dX12_refusal_53 (by decide) ?_
            have k99 : ((-13) : Int32).toInt = (-13) := (by decide)
            exact hret _ _ _ _ (-13) f L Q dX12_refusal_55 hP hS ⟨⟨rfl, rfl, rfl⟩, Or.inr ((by omega))⟩
          · skip
            have c_17 : x1.toInt < v_14.toInt := (by have z := bn_nle c; omega)
            refine lv_iconst (v := 0) hx hb dX12_refusal_49 (by decide) ?_
            refine lv_goto (tgt := 55) hx hb dX12_refusal_50 (by decide) ?_
            have k99 : (0 : Int32).toInt = 0 := (by decide)
            exact hret _ _ _ _ (0) f L Q dX12_refusal_55 hP hS ⟨⟨rfl, rfl, rfl⟩, (by first | exact Or.inl ⟨rfl, by omega⟩ | exact Or.inr ((by omega)))⟩
      · skip
        have c_11 : v_6.toInt < 50 := (by have z := bn_nle c; have k1 : (50 : Int32).toInt = 50 := (by decide); omega)
        refine lv_bipush (v := (-12)) hx hb dX12_refusal_32 (by decide) ?_
        have k99 : ((-12) : Int32).toInt = (-12) := (by decide)
        exact hret _ _ _ _ (-12) f L Q dX12_refusal_34 hP hS ⟨⟨rfl, rfl, rfl⟩, Or.inr ((by omega))⟩
    · skip
      have c_9 : v_6.toInt < 0 := (by have z := bn_nle c; have k1 : (0 : Int32).toInt = 0 := (by decide); omega)
      refine lv_bipush (v := (-11)) hx hb dX12_refusal_18 (by decide) ?_
      have k99 : ((-11) : Int32).toInt = (-11) := (by decide)
      exact hret _ _ _ _ (-11) f L Q dX12_refusal_20 hP hS ⟨⟨rfl, rfl, rfl⟩, Or.inr ((by omega))⟩
  · skip
    have q_18 := hq
    refine lv_if_ne (tgt := 9) hx hb dX12_refusal_4 (by decide) (fun c => absurd c (by decide)) (fun c => ?_)
    refine lv_iconst (v := (-1)) hx hb dX12_refusal_7 (by decide) ?_
    have k99 : ((-1) : Int32).toInt = (-1) := (by decide)
    exact hret _ _ _ _ (-1) f L Q dX12_refusal_8 hP hS ⟨⟨rfl, rfl, rfl⟩, Or.inr ((by omega))⟩

set_option maxHeartbeats 4000000 in
set_option maxRecDepth 100000 in
theorem kX12_asSort (l : Launch) (D : va_G) (ca : Nat → ClassId) (za h : Nat → Nat) (hh : sgH 26 h) (f : sg_F) (L : sg_L) (Q : sg_Q) (hI : sgI loM hiM f) (x0 : Int32) (x1 : Int64) (b0 : (-51) ≤ x0.toInt ∧ x0.toInt ≤ 4) (sz : Nat) : Met l yX12_asSort gwX12_asSort { frames := 0, cells := 0, slots := 0, locals := 0 } (sgP D vwCl (tyX ca) 26 h (eM ca h) zcM za f L Q sz [.int x0, .long x1]) (sgQl D vwCl 26 h (eM ca h) sz (fun r f1 L1 Q1 => ((f1 = f ∧ L1 = L ∧ Q1 = Q) ∧ True))) 0 0 (sgA 26 h sz) := by
  refine sg_ofWl (cc := cX12_asSort) (maxL := 3) RX12 (by decide) rfl rfl (Nat.le_of_ble_eq_true rfl) ?_
  intro p e s m below meth cd Qz ls hx hb hml hown hts hK hZ hP hS hl hret
  have hA := sgY.self (n := 26) (h := h) (sz := s.heap.size)
  have hl : lv_has ls 3 [(0, .int x0), (1, .long x1)] := hl
  obtain ⟨H, hH⟩ : ∃ z : Heap, z = s.heap := ⟨_, rfl⟩
  obtain ⟨locs, hlo⟩ : ∃ z : List Loc, z = [] := ⟨_, rfl⟩
  have hP : va_P D vwCl (sgw 26 h (eM ca h) f L Q) H := by rw [hH]; exact hP
  have hS : va_S (sgA 26 h s.heap.size) s.heap H locs := by rw [hH, hlo]; exact hS
  suffices hgo : W p l e ({ frames := 0, cells := 0, slots := 0, locals := 0 }) s m ([.int x0, .long x1] : List Value).toArray below meth cd H locs 0 0 Qz (F0 m 0 ls []) by rw [hH, hlo] at hgo; exact hgo
  clear hH hlo
  refine lv_iload_n hx hb dX12_asSort_0 rfl (lv_at hl 0 rfl) ?_
  refine lv_if_ne (tgt := 11) hx hb dX12_asSort_1 (by decide) (fun c => ?_) (fun c => ?_)
  · skip
    have c_1 : x0.toInt ≠ 0 := (by have z := bn_ne c; have k1 : (0 : Int32).toInt = 0 := (by decide); omega)
    refine lv_iload_n hx hb dX12_asSort_11 rfl (lv_at hl 0 rfl) ?_
    refine lv_iconst (v := 1) hx hb dX12_asSort_12 (by decide) ?_
    refine lv_icmp_ne (tgt := 23) hx hb dX12_asSort_13 (by decide) (fun c => ?_) (fun c => ?_)
    · skip
      have c_3 : x0.toInt ≠ 1 := (by have z := bn_ne c; have k1 : (1 : Int32).toInt = 1 := (by decide); omega)
      refine lv_iload_n hx hb dX12_asSort_23 rfl (lv_at hl 0 rfl) ?_
      refine lv_iconst (v := 2) hx hb dX12_asSort_24 (by decide) ?_
      refine lv_icmp_ne (tgt := 34) hx hb dX12_asSort_25 (by decide) (fun c => ?_) (fun c => ?_)
      · skip
        have c_5 : x0.toInt ≠ 2 := (by have z := bn_ne c; have k1 : (2 : Int32).toInt = 2 := (by decide); omega)
        refine lv_iload_n hx hb dX12_asSort_34 rfl (lv_at hl 0 rfl) ?_
        refine lv_iconst (v := 4) hx hb dX12_asSort_35 (by decide) ?_
        refine lv_icmp_ne (tgt := 53) hx hb dX12_asSort_36 (by decide) (fun c => ?_) (fun c => ?_)
        · skip
          have c_7 : x0.toInt ≠ 4 := (by have z := bn_ne c; have k1 : (4 : Int32).toInt = 4 := (by decide); omega)
          refine lv_lload_n hx hb dX12_asSort_53 rfl (lv_at hl 1 rfl) ?_
          exact hret _ _ _ _ (x1) f L Q dX12_asSort_54 hP hS ⟨⟨rfl, rfl, rfl⟩, trivial⟩
        · skip
          have c_8 : x0.toInt = 4 := (by have z := Int32.toInt_inj.mpr c; have k1 : (4 : Int32).toInt = 4 := (by decide); omega)
          refine lv_lload_n hx hb dX12_asSort_39 rfl (lv_at hl 1 rfl) ?_
          refine lv_lconst (v := 0) hx hb dX12_asSort_40 (by decide) ?_
          refine W.lcmp hx hb dX12_asSort_41 ?_
          refine lv_topi (fun v_9 ev_9 => ?_)
          have q_10 : (v_9.toInt = -1 ∧ x1.toInt < 0) ∨ (v_9.toInt = 0 ∧ x1.toInt = 0) ∨ (v_9.toInt = 1 ∧ 0 < x1.toInt) := by rw [ev_9]; have k1 : (0 : Int64).toInt = 0 := (by decide); have z := bn_lcmpI (x1 : Int64) (0 : Int64); omega
          refine lv_if_eq (tgt := 49) hx hb dX12_asSort_42 (by decide) (fun c => ?_) (fun c => ?_)
          · skip
            have c_11 : v_9.toInt = 0 := (by have z := Int32.toInt_inj.mpr c; have k1 : (0 : Int32).toInt = 0 := (by decide); omega)
            refine lv_lconst (v := 0) hx hb dX12_asSort_49 (by decide) ?_
            refine lv_goto (tgt := 54) hx hb dX12_asSort_50 (by decide) ?_
            exact hret _ _ _ _ (0) f L Q dX12_asSort_54 hP hS ⟨⟨rfl, rfl, rfl⟩, trivial⟩
          · skip
            have c_12 : v_9.toInt ≠ 0 := (by have z := bn_ne c; have k1 : (0 : Int32).toInt = 0 := (by decide); omega)
            refine lv_lconst (v := 1) hx hb dX12_asSort_45 (by decide) ?_
            refine lv_goto (tgt := 54) hx hb dX12_asSort_46 (by decide) ?_
            exact hret _ _ _ _ (1) f L Q dX12_asSort_54 hP hS ⟨⟨rfl, rfl, rfl⟩, trivial⟩
      · skip
        have c_6 : x0.toInt = 2 := (by have z := Int32.toInt_inj.mpr c; have k1 : (2 : Int32).toInt = 2 := (by decide); omega)
        refine lv_lload_n hx hb dX12_asSort_28 rfl (lv_at hl 1 rfl) ?_
        obtain ⟨v_13, ev_13⟩ : ∃ z : Int32, z = Int64.toInt32 x1 := ⟨_, rfl⟩
        refine lv_l2i (v := v_13) hx hb dX12_asSort_29 ev_13.symm ?_
        obtain ⟨w_14, ew_14⟩ : ∃ z : Int64, z = Int32.toInt64 v_13 := ⟨_, rfl⟩
        have q_15 : w_14.toInt = v_13.toInt := by rw [ew_14]; exact Int32.toInt_toInt64 _
        refine lv_i2l (v := w_14) hx hb dX12_asSort_30 ew_14.symm ?_
        refine lv_goto (tgt := 54) hx hb dX12_asSort_31 (by decide) ?_
        exact hret _ _ _ _ (w_14) f L Q dX12_asSort_54 hP hS ⟨⟨rfl, rfl, rfl⟩, trivial⟩
    · skip
      have c_4 : x0.toInt = 1 := (by have z := Int32.toInt_inj.mpr c; have k1 : (1 : Int32).toInt = 1 := (by decide); omega)
      refine lv_lload_n hx hb dX12_asSort_16 rfl (lv_at hl 1 rfl) ?_
      obtain ⟨v_16, ev_16⟩ : ∃ z : Int32, z = Int64.toInt32 x1 := ⟨_, rfl⟩
      refine lv_l2i (v := v_16) hx hb dX12_asSort_17 ev_16.symm ?_
      obtain ⟨v_17, ev_17⟩ : ∃ z : Int32, z = (Int32.toInt16 v_16).toInt32 := ⟨_, rfl⟩
      refine lv_i2s (v := v_17) hx hb dX12_asSort_18 ev_17.symm ?_
      obtain ⟨w_18, ew_18⟩ : ∃ z : Int64, z = Int32.toInt64 v_17 := ⟨_, rfl⟩
      have q_19 : w_18.toInt = v_17.toInt := by rw [ew_18]; exact Int32.toInt_toInt64 _
      refine lv_i2l (v := w_18) hx hb dX12_asSort_19 ew_18.symm ?_
      refine lv_goto (tgt := 54) hx hb dX12_asSort_20 (by decide) ?_
      exact hret _ _ _ _ (w_18) f L Q dX12_asSort_54 hP hS ⟨⟨rfl, rfl, rfl⟩, trivial⟩
  · skip
    have c_2 : x0.toInt = 0 := (by have z := Int32.toInt_inj.mpr c; have k1 : (0 : Int32).toInt = 0 := (by decide); omega)
    refine lv_lload_n hx hb dX12_asSort_4 rfl (lv_at hl 1 rfl) ?_
    obtain ⟨v_20, ev_20⟩ : ∃ z : Int32, z = Int64.toInt32 x1 := ⟨_, rfl⟩
    refine lv_l2i (v := v_20) hx hb dX12_asSort_5 ev_20.symm ?_
    obtain ⟨v_21, ev_21⟩ : ∃ z : Int32, z = (Int32.toInt8 v_20).toInt32 := ⟨_, rfl⟩
    refine lv_i2b (v := v_21) hx hb dX12_asSort_6 ev_21.symm ?_
    obtain ⟨w_22, ew_22⟩ : ∃ z : Int64, z = Int32.toInt64 v_21 := ⟨_, rfl⟩
    have q_23 : w_22.toInt = v_21.toInt := by rw [ew_22]; exact Int32.toInt_toInt64 _
    refine lv_i2l (v := w_22) hx hb dX12_asSort_7 ew_22.symm ?_
    refine lv_goto (tgt := 54) hx hb dX12_asSort_8 (by decide) ?_
    exact hret _ _ _ _ (w_22) f L Q dX12_asSort_54 hP hS ⟨⟨rfl, rfl, rfl⟩, trivial⟩

set_option maxHeartbeats 4000000 in
set_option maxRecDepth 100000 in
theorem kX12_put (l : Launch) (D : va_G) (ca : Nat → ClassId) (za h : Nat → Nat) (hh : sgH 26 h) (f : sg_F) (L : sg_L) (Q : sg_Q) (hI : sgI loM hiM f) (x0 : Int32) (x1 : Int32) (x2 : Int64) (sz : Nat) : Met l yX12_put gwX12_put { frames := 3, cells := 0, slots := 0, locals := 67 } (sgP D vwCl (tyX ca) 26 h (eM ca h) zcM za f L Q sz [.ref (h 0), .int x0, .int x1, .long x2]) (sgQi D vwCl 26 h (eM ca h) sz (fun r f1 L1 Q1 => ((f1 = f ∧ True ∧ Q1 = Q) ∧ ((-13) ≤ r.toInt ∧ r.toInt ≤ 1)))) 0 0 (sgA 26 h sz) := by
  refine sg_ofWi (cc := cX12_put) (maxL := 6) RX12 (by decide) rfl rfl (Nat.le_of_ble_eq_true rfl) ?_
  intro p e s m below meth cd Qz ls hx hb hml hown hts hK hZ hP hS hl hret
  have hA := sgY.self (n := 26) (h := h) (sz := s.heap.size)
  have hl : lv_has ls 6 [(0, .ref (h 0)), (1, .int x0), (2, .int x1), (3, .long x2)] := hl
  obtain ⟨H, hH⟩ : ∃ z : Heap, z = s.heap := ⟨_, rfl⟩
  obtain ⟨locs, hlo⟩ : ∃ z : List Loc, z = [] := ⟨_, rfl⟩
  have hP : va_P D vwCl (sgw 26 h (eM ca h) f L Q) H := by rw [hH]; exact hP
  have hS : va_S (sgA 26 h s.heap.size) s.heap H locs := by rw [hH, hlo]; exact hS
  suffices hgo : W p l e ({ frames := 3, cells := 0, slots := 0, locals := 67 }) s m ([.ref (h 0), .int x0, .int x1, .long x2] : List Value).toArray below meth cd H locs 0 0 Qz (F0 m 0 ls []) by rw [hH, hlo] at hgo; exact hgo
  clear hH hlo
  have blk_37 : ∀ (y5_37 : Int32) (Lp_37 : sg_L) (H : Heap) (locs : List Loc) (ls : Array Slot), (-13) ≤ y5_37.toInt ∧ y5_37.toInt ≤ 0 → va_P D vwCl (sgw 26 h (eM ca h) f Lp_37 Q) H → va_S (sgA 26 h s.heap.size) s.heap H locs → lv_has ls 6 [(5, .int y5_37)] → W p l e ({ frames := 3, cells := 0, slots := 0, locals := 67 }) s m ([.ref (h 0), .int x0, .int x1, .long x2] : List Value).toArray below meth cd H locs 0 0 Qz (F0 m 37 ls []) := by
    intro y5_37 Lp_37 H locs ls hy0_37 hP hS hl
    refine lv_iload hx hb dX12_put_37 (lv_at hl 0 rfl) ?_
    refine lv_if_ne (tgt := 46) hx hb dX12_put_39 (by decide) (fun c => ?_) (fun c => ?_)
    · skip
      have c_1 : y5_37.toInt ≠ 0 := (by have z := bn_ne c; have k1 : (0 : Int32).toInt = 0 := (by decide); omega)
      refine lv_iload hx hb dX12_put_46 (lv_at hl 0 rfl) ?_
      exact hret _ _ _ _ (y5_37) f Lp_37 Q dX12_put_48 hP hS ⟨⟨rfl, trivial, rfl⟩, (by omega)⟩
    · skip
      have c_2 : y5_37.toInt = 0 := (by have z := Int32.toInt_inj.mpr c; have k1 : (0 : Int32).toInt = 0 := (by decide); omega)
      refine lv_iconst (v := 1) hx hb dX12_put_42 (by decide) ?_
      refine lv_goto (tgt := 48) hx hb dX12_put_43 (by decide) ?_
      have k99 : (1 : Int32).toInt = 1 := (by decide)
      exact hret _ _ _ _ (1) f Lp_37 Q dX12_put_48 hP hS ⟨⟨rfl, trivial, rfl⟩, (by decide)⟩
  refine lv_aload_n hx hb dX12_put_0 rfl (lv_at hl 0 rfl) ?_
  refine lv_iload_n hx hb dX12_put_1 rfl (lv_at hl 1 rfl) ?_
  refine lv_iload_n hx hb dX12_put_2 rfl (lv_at hl 2 rfl) ?_
  refine sg_calli (va_runV (As := [.int x0, .int x1]) (rest := []) ⟨hx, hb, hml, hown, hts⟩ (kX12_refusal l D ca za h hh f L Q hI x0 x1 H.size) (cwV 2 hts (gw_V (fun _ h => List.mem_cons_of_mem _ h) mw_671 mw_672 mw_673 mw_619 mw_670) rfl rfl rfl (by decide +kernel) ⟨Nat.le_of_ble_eq_true rfl, Nat.le_of_ble_eq_true rfl⟩) (sg_preV (ci := 12) (C := RX12) (T := TX12) (N := 55) hA hK hP hS hZ 0 (by decide) rfl rfl) rfl rfl hl.1 rfl (lv_room (Nat.le_of_ble_eq_true rfl)) dX12_put_3 ⟨Nat.le_refl _, Nat.le_refl _⟩) hA hS (fun r_6 f_3 L_4 Q_5 H locs hq hP hS => ?_)
  obtain ⟨⟨ef9, eL9, eQ9⟩, hq⟩ := hq
  rw [ef9, eL9, eQ9] at hP; clear ef9 eL9 eQ9
  rcases hq with ⟨rfl, hq⟩ | hq
  · skip
    have q_7 := hq
    refine lv_istore (lv' := [(5, .int 0), (0, .ref (h 0)), (1, .int x0), (2, .int x1), (3, .long x2)]) hx hb dX12_put_6 hl (by decide) rfl (fun ls hl => ?_)
    refine lv_iload hx hb dX12_put_8 (lv_at hl 0 rfl) ?_
    refine lv_if_ne (tgt := 37) hx hb dX12_put_10 (by decide) (fun c => absurd c (by decide)) (fun c => ?_)
    refine lv_aload_n hx hb dX12_put_13 rfl (lv_at hl 1 rfl) ?_
    refine sg_get (ci := 12) (v := .ref (h 24)) (C := RX12) (T := TX12) (N := 55) hx hb hts (fun w h => List.mem_cons_of_mem _ (gx_12 w h)) hown hK hP 0 (by decide) rfl rfl 53 (by decide) (hts _ (List.mem_cons_of_mem _ mw_646)) (fun _ h9 => h9) rfl dX12_put_14 ?_
    refine lv_bipush (v := 60) hx hb dX12_put_17 (by decide) ?_
    refine lv_iload_n hx hb dX12_put_19 rfl (lv_at hl 2 rfl) ?_
    refine lv_imul hx hb dX12_put_20 ?_
    refine lv_topi (fun v_8 ev_8 => ?_)
    have q_9 : v_8.toInt = 60 * x0.toInt := by rw [ev_8]; exact bn_mulJ (by decide) (by omega) (by omega)
    refine lv_iload_n hx hb dX12_put_21 rfl (lv_at hl 3 rfl) ?_
    refine lv_iadd hx hb dX12_put_22 ?_
    refine lv_topi (fun v_10 ev_10 => ?_)
    have q_11 : v_10.toInt = v_8.toInt + x1.toInt := by rw [ev_10]; exact (bn_addI (by omega) (by omega)).trans (by omega)
    refine lv_aload_n hx hb dX12_put_23 rfl (lv_at hl 1 rfl) ?_
    refine sg_get (ci := 12) (v := .ref (h 22)) (C := RX12) (T := TX12) (N := 55) hx hb hts (fun w h => List.mem_cons_of_mem _ (gx_12 w h)) hown hK hP 0 (by decide) rfl rfl 51 (by decide) (hts _ (List.mem_cons_of_mem _ mw_643)) (fun _ h9 => h9) rfl dX12_put_24 ?_
    refine lv_iload_n hx hb dX12_put_27 rfl (lv_at hl 2 rfl) ?_
    refine sg_iald hx hb hK hP 22 (by decide) 0 rfl rfl (i := x0) (vp_in_iff.mpr ⟨by omega, by omega⟩) dX12_put_28 ?_
    refine lv_topi (fun v_12 ev_12 => ?_)
    have q_13 : (-1) ≤ v_12.toInt ∧ v_12.toInt ≤ 54 := by rw [ev_12]; exact hI 22 _
    refine lv_bipush (v := 50) hx hb dX12_put_29 (by decide) ?_
    refine lv_isub hx hb dX12_put_31 ?_
    refine lv_topi (fun v_14 ev_14 => ?_)
    have q_15 : v_14.toInt = v_12.toInt - 50 := by rw [ev_14]; have k1 : (50 : Int32).toInt = 50 := (by decide); exact (bn_subI (by omega) (by omega)).trans (by omega)
    refine lv_lload_n hx hb dX12_put_32 rfl (lv_at hl 4 rfl) ?_
    refine sg_calll (va_runS (As := [.int v_14, .long x2]) (rest := [.int v_10, .ref (h 24)]) ⟨hx, hb, hml, hown, hts⟩ (kX12_asSort l D ca za h hh f L Q hI v_14 x2 (by omega) H.size) (va_cwS 2 hts (gw_S (fun _ h => List.mem_cons_of_mem _ h) mw_741 mw_742 mw_619 mw_740) rfl rfl rfl (by decide +kernel) ⟨Nat.le_of_ble_eq_true rfl, Nat.le_of_ble_eq_true rfl⟩) (sg_preS hA hK hP hS hZ) rfl rfl hl.1 rfl (lv_room (Nat.le_of_ble_eq_true rfl)) dX12_put_33 ⟨Nat.le_refl _, Nat.le_refl _⟩) hA hS (fun r_19 f_16 L_17 Q_18 H locs hq hP hS => ?_)
    obtain ⟨⟨ef9, eL9, eQ9⟩, hq⟩ := hq
    rw [ef9, eL9, eQ9] at hP; clear ef9 eL9 eQ9
    clear hq
    refine sg_last hx hb hh hA hK hP hS 24 (by decide) 1 (fun _ => rfl) rfl (i := v_10) (x := r_19) (vp_in_iff.mpr ⟨by omega, by omega⟩) dX12_put_36 (fun L_20 H locs eL_20 hP hS => ?_)
    exact blk_37 0 L_20 _ _ _ (by decide) hP hS (lv_sub hl [0] rfl)
  · skip
    have q_21 := hq
    refine lv_istore (lv' := [(5, .int r_6), (0, .ref (h 0)), (1, .int x0), (2, .int x1), (3, .long x2)]) hx hb dX12_put_6 hl (by decide) rfl (fun ls hl => ?_)
    refine lv_iload hx hb dX12_put_8 (lv_at hl 0 rfl) ?_
    refine lv_if_ne (tgt := 37) hx hb dX12_put_10 (by decide) (fun c => ?_) (fun c => ?_)
    · skip
      have c_22 : r_6.toInt ≠ 0 := (by have z := bn_ne c; have k1 : (0 : Int32).toInt = 0 := (by decide); omega)
      exact blk_37 r_6 L _ _ _ (by omega) hP hS (lv_sub hl [0] rfl)
    · skip
      exfalso; have c_23 : r_6.toInt = 0 := (by have z := Int32.toInt_inj.mpr c; have k1 : (0 : Int32).toInt = 0 := (by decide); omega); omega

set_option maxHeartbeats 4000000 in
set_option maxRecDepth 100000 in
theorem kX12_element (l : Launch) (D : va_G) (ca : Nat → ClassId) (za h : Nat → Nat) (hh : sgH 26 h) (f : sg_F) (L : sg_L) (Q : sg_Q) (hI : sgI loM hiM f) (x0 : Int32) (x1 : Int32) (sz : Nat) : Met l yX12_element gwX12_element { frames := 3, cells := 0, slots := 0, locals := 67 } (sgP D vwCl (tyX ca) 26 h (eM ca h) zcM za f L Q sz [.ref (h 0), .int x0, .int x1]) (sgQl D vwCl 26 h (eM ca h) sz (fun r f1 L1 Q1 => ((f1 = f ∧ L1 = L ∧ Q1 = Q) ∧ True))) 0 0 (sgA 26 h sz) := by
  refine sg_ofWl (cc := cX12_element) (maxL := 3) RX12 (by decide) rfl rfl (Nat.le_of_ble_eq_true rfl) ?_
  intro p e s m below meth cd Qz ls hx hb hml hown hts hK hZ hP hS hl hret
  have hA := sgY.self (n := 26) (h := h) (sz := s.heap.size)
  have hl : lv_has ls 3 [(0, .ref (h 0)), (1, .int x0), (2, .int x1)] := hl
  obtain ⟨H, hH⟩ : ∃ z : Heap, z = s.heap := ⟨_, rfl⟩
  obtain ⟨locs, hlo⟩ : ∃ z : List Loc, z = [] := ⟨_, rfl⟩
  have hP : va_P D vwCl (sgw 26 h (eM ca h) f L Q) H := by rw [hH]; exact hP
  have hS : va_S (sgA 26 h s.heap.size) s.heap H locs := by rw [hH, hlo]; exact hS
  suffices hgo : W p l e ({ frames := 3, cells := 0, slots := 0, locals := 67 }) s m ([.ref (h 0), .int x0, .int x1] : List Value).toArray below meth cd H locs 0 0 Qz (F0 m 0 ls []) by rw [hH, hlo] at hgo; exact hgo
  clear hH hlo
  refine lv_aload_n hx hb dX12_element_0 rfl (lv_at hl 0 rfl) ?_
  refine lv_iload_n hx hb dX12_element_1 rfl (lv_at hl 1 rfl) ?_
  refine lv_iload_n hx hb dX12_element_2 rfl (lv_at hl 2 rfl) ?_
  refine sg_calli (va_runV (As := [.int x0, .int x1]) (rest := []) ⟨hx, hb, hml, hown, hts⟩ (kX12_refusal l D ca za h hh f L Q hI x0 x1 H.size) (cwV 2 hts (gw_V (fun _ h => List.mem_cons_of_mem _ h) mw_671 mw_672 mw_673 mw_619 mw_670) rfl rfl rfl (by decide +kernel) ⟨Nat.le_of_ble_eq_true rfl, Nat.le_of_ble_eq_true rfl⟩) (sg_preV (ci := 12) (C := RX12) (T := TX12) (N := 55) hA hK hP hS hZ 0 (by decide) rfl rfl) rfl rfl hl.1 rfl (lv_room (Nat.le_of_ble_eq_true rfl)) dX12_element_3 ⟨Nat.le_refl _, Nat.le_refl _⟩) hA hS (fun r_4 f_1 L_2 Q_3 H locs hq hP hS => ?_)
  obtain ⟨⟨ef9, eL9, eQ9⟩, hq⟩ := hq
  rw [ef9, eL9, eQ9] at hP; clear ef9 eL9 eQ9
  rcases hq with ⟨rfl, hq⟩ | hq
  · skip
    have q_5 := hq
    refine lv_if_eq (tgt := 15) hx hb dX12_element_6 (by decide) (fun c => ?_) (fun c => absurd c (by decide))
    refine lv_aload_n hx hb dX12_element_15 rfl (lv_at hl 0 rfl) ?_
    refine sg_get (ci := 12) (v := .ref (h 24)) (C := RX12) (T := TX12) (N := 55) hx hb hts (fun w h => List.mem_cons_of_mem _ (gx_12 w h)) hown hK hP 0 (by decide) rfl rfl 53 (by decide) (hts _ (List.mem_cons_of_mem _ mw_646)) (fun _ h9 => h9) rfl dX12_element_16 ?_
    refine lv_bipush (v := 60) hx hb dX12_element_19 (by decide) ?_
    refine lv_iload_n hx hb dX12_element_21 rfl (lv_at hl 1 rfl) ?_
    refine lv_imul hx hb dX12_element_22 ?_
    refine lv_topi (fun v_6 ev_6 => ?_)
    have q_7 : v_6.toInt = 60 * x0.toInt := by rw [ev_6]; exact bn_mulJ (by decide) (by omega) (by omega)
    refine lv_iload_n hx hb dX12_element_23 rfl (lv_at hl 2 rfl) ?_
    refine lv_iadd hx hb dX12_element_24 ?_
    refine lv_topi (fun v_8 ev_8 => ?_)
    have q_9 : v_8.toInt = v_6.toInt + x1.toInt := by rw [ev_8]; exact (bn_addI (by omega) (by omega)).trans (by omega)
    refine sg_lald hx hb hK hP 24 (by decide) 1 rfl rfl (i := v_8) (vp_in_iff.mpr ⟨by omega, by omega⟩) dX12_element_25 ?_
    obtain ⟨w_10, ew_10⟩ : ∃ z : Int64, z = L 24 (Int32.toNatClampNeg v_8) := ⟨_, rfl⟩
    rw [← ew_10]
    exact hret _ _ _ _ (w_10) f L Q dX12_element_26 hP hS ⟨⟨rfl, rfl, rfl⟩, trivial⟩
  · skip
    have q_11 := hq
    refine lv_if_eq (tgt := 15) hx hb dX12_element_6 (by decide) (fun c => ?_) (fun c => ?_)
    · skip
      exfalso; have c_12 : r_4.toInt = 0 := (by have z := Int32.toInt_inj.mpr c; have k1 : (0 : Int32).toInt = 0 := (by decide); omega); omega
    · skip
      have c_13 : r_4.toInt ≠ 0 := (by have z := bn_ne c; have k1 : (0 : Int32).toInt = 0 := (by decide); omega)
      refine lv_ldc2 (v := (-9223372036854775808)) hx hb hown (hts _ (List.mem_cons_of_mem _ mw_674)) dX12_element_9 ?_
      refine lv_goto (tgt := 26) hx hb dX12_element_12 (by decide) ?_
      exact hret _ _ _ _ (-9223372036854775808) f L Q dX12_element_26 hP hS ⟨⟨rfl, rfl, rfl⟩, trivial⟩

set_option maxHeartbeats 4000000 in
set_option maxRecDepth 100000 in
theorem kX12_shift (l : Launch) (D : va_G) (ca : Nat → ClassId) (za h : Nat → Nat) (hh : sgH 26 h) (f : sg_F) (L : sg_L) (Q : sg_Q) (hI : sgI loM hiM f) (x0 : Int32) (x1 : Int32) (x2 : Int32) (x3 : Int32) (x4 : Int32) (sz : Nat) : Met l yX12_shift gwX12_shift { frames := 2, cells := 0, slots := 0, locals := 45 } (sgP D vwCl (tyX ca) 26 h (eM ca h) zcM za f L Q sz [.ref (h 0), .int x0, .int x1, .int x2, .int x3, .int x4]) (sgQi D vwCl 26 h (eM ca h) sz (fun r f1 L1 Q1 => ((f1 = f ∧ True ∧ Q1 = Q) ∧ ((-13) ≤ r.toInt ∧ r.toInt ≤ 60)))) 0 0 (sgA 26 h sz) := by
  refine sg_ofWi (cc := cX12_shift) (maxL := 7) RX12 (by decide) rfl rfl (Nat.le_of_ble_eq_true rfl) ?_
  intro p e s m below meth cd Qz ls hx hb hml hown hts hK hZ hP hS hl hret
  have hA := sgY.self (n := 26) (h := h) (sz := s.heap.size)
  have hl : lv_has ls 7 [(0, .ref (h 0)), (1, .int x0), (2, .int x1), (3, .int x2), (4, .int x3), (5, .int x4)] := hl
  obtain ⟨H, hH⟩ : ∃ z : Heap, z = s.heap := ⟨_, rfl⟩
  obtain ⟨locs, hlo⟩ : ∃ z : List Loc, z = [] := ⟨_, rfl⟩
  have hP : va_P D vwCl (sgw 26 h (eM ca h) f L Q) H := by rw [hH]; exact hP
  have hS : va_S (sgA 26 h s.heap.size) s.heap H locs := by rw [hH, hlo]; exact hS
  suffices hgo : W p l e ({ frames := 2, cells := 0, slots := 0, locals := 45 }) s m ([.ref (h 0), .int x0, .int x1, .int x2, .int x3, .int x4] : List Value).toArray below meth cd H locs 0 0 Qz (F0 m 0 ls []) by rw [hH, hlo] at hgo; exact hgo
  clear hH hlo
  have loop_150 : ∀ (n_150 : Nat) (y6_150 : Int32) (Lp_150 : sg_L) (H : Heap) (locs : List Loc) (ls : Array Slot), 60 - y6_150.toInt < (n_150 : Int) → 0 ≤ x0.toInt ∧ x0.toInt ≤ 5 → 0 ≤ x1.toInt ∧ x1.toInt ≤ 60 → 0 ≤ x2.toInt ∧ x2.toInt ≤ 5 → 0 ≤ x3.toInt ∧ x3.toInt ≤ 60 → 0 ≤ x4.toInt ∧ x4.toInt ≤ 60 → 0 ≤ y6_150.toInt ∧ y6_150.toInt ≤ 60 → x1.toInt + x4.toInt ≤ 60 → x3.toInt + x4.toInt ≤ 60 → va_P D vwCl (sgw 26 h (eM ca h) f Lp_150 Q) H → va_S (sgA 26 h s.heap.size) s.heap H locs → lv_has ls 7 [(0, .ref (h 0)), (3, .int x2), (4, .int x3), (5, .int x4), (6, .int y6_150)] → W p l e ({ frames := 2, cells := 0, slots := 0, locals := 45 }) s m ([.ref (h 0), .int x0, .int x1, .int x2, .int x3, .int x4] : List Value).toArray below meth cd H locs 0 0 Qz (F0 m 150 ls []) := by
    intro n_150
    induction n_150 with
    | zero => intro y6_150 Lp_150 H locs ls hm_150 hy0_150 hy1_150 hy2_150 hy3_150 hy4_150 hy5_150 hg0_150 hg1_150 hP hS hl; exact absurd hm_150 (by omega)
    | succ n_150 ih_150 =>
      intro y6_150 Lp_150 H locs ls hm_150 hy0_150 hy1_150 hy2_150 hy3_150 hy4_150 hy5_150 hg0_150 hg1_150 hP hS hl
      refine lv_iload hx hb dX12_shift_150 (lv_at hl 4 rfl) ?_
      refine lv_iload hx hb dX12_shift_152 (lv_at hl 3 rfl) ?_
      refine lv_icmp_ge (tgt := 185) hx hb dX12_shift_154 (by decide) (fun c => ?_) (fun c => ?_)
      · skip
        have c_1 : x4.toInt ≤ y6_150.toInt := (by have z := bn_le c; omega)
        refine lv_iload hx hb dX12_shift_185 (lv_at hl 3 rfl) ?_
        exact hret _ _ _ _ (x4) f Lp_150 Q dX12_shift_187 hP hS ⟨⟨rfl, trivial, rfl⟩, (by omega)⟩
      · skip
        have c_2 : y6_150.toInt < x4.toInt := (by have z := bn_nle c; omega)
        refine lv_aload_n hx hb dX12_shift_157 rfl (lv_at hl 0 rfl) ?_
        refine sg_get (ci := 12) (v := .ref (h 24)) (C := RX12) (T := TX12) (N := 55) hx hb hts (fun w h => List.mem_cons_of_mem _ (gx_12 w h)) hown hK hP 0 (by decide) rfl rfl 53 (by decide) (hts _ (List.mem_cons_of_mem _ mw_646)) (fun _ h9 => h9) rfl dX12_shift_158 ?_
        refine lv_bipush (v := 60) hx hb dX12_shift_161 (by decide) ?_
        refine lv_iload_n hx hb dX12_shift_163 rfl (lv_at hl 1 rfl) ?_
        refine lv_imul hx hb dX12_shift_164 ?_
        refine lv_topi (fun v_3 ev_3 => ?_)
        have q_4 : v_3.toInt = 60 * x2.toInt := by rw [ev_3]; exact bn_mulJ (by decide) (by omega) (by omega)
        refine lv_iload hx hb dX12_shift_165 (lv_at hl 2 rfl) ?_
        refine lv_iadd hx hb dX12_shift_167 ?_
        refine lv_topi (fun v_5 ev_5 => ?_)
        have q_6 : v_5.toInt = v_3.toInt + x3.toInt := by rw [ev_5]; exact (bn_addI (by omega) (by omega)).trans (by omega)
        refine lv_iload hx hb dX12_shift_168 (lv_at hl 4 rfl) ?_
        refine lv_iadd hx hb dX12_shift_170 ?_
        refine lv_topi (fun v_7 ev_7 => ?_)
        have q_8 : v_7.toInt = v_5.toInt + y6_150.toInt := by rw [ev_7]; exact (bn_addI (by omega) (by omega)).trans (by omega)
        refine lv_aload_n hx hb dX12_shift_171 rfl (lv_at hl 0 rfl) ?_
        refine sg_get (ci := 12) (v := .ref (h 25)) (C := RX12) (T := TX12) (N := 55) hx hb hts (fun w h => List.mem_cons_of_mem _ (gx_12 w h)) hown hK hP 0 (by decide) rfl rfl 54 (by decide) (hts _ (List.mem_cons_of_mem _ mw_661)) (fun _ h9 => h9) rfl dX12_shift_172 ?_
        refine lv_iload hx hb dX12_shift_175 (lv_at hl 4 rfl) ?_
        refine sg_lald hx hb hK hP 25 (by decide) 1 rfl rfl (i := y6_150) (vp_in_iff.mpr ⟨by omega, by omega⟩) dX12_shift_177 ?_
        obtain ⟨w_9, ew_9⟩ : ∃ z : Int64, z = Lp_150 25 (Int32.toNatClampNeg y6_150) := ⟨_, rfl⟩
        rw [← ew_9]
        refine sg_last hx hb hh hA hK hP hS 24 (by decide) 1 (fun _ => rfl) rfl (i := v_7) (x := w_9) (vp_in_iff.mpr ⟨by omega, by omega⟩) dX12_shift_178 (fun L_10 H locs eL_10 hP hS => ?_)
        obtain ⟨v_11, ev_11⟩ : ∃ z : Int32, z = y6_150 + 1 := ⟨_, rfl⟩
        have q_12 : v_11.toInt = y6_150.toInt + 1 := by rw [ev_11]; exact (bn_addc y6_150 1 (by decide) (by omega) (by omega))
        refine lv_iinc (v := v_11) (lv' := [(6, .int v_11), (0, .ref (h 0)), (3, .int x2), (4, .int x3), (5, .int x4)]) hx hb dX12_shift_179 hl (k := 4) rfl (by rw [ev_11]; rfl) (by decide) rfl (fun ls hl => ?_)
        refine lv_goto (tgt := 150) hx hb dX12_shift_182 (by decide) ?_
        exact ih_150 v_11 L_10 _ _ _ (by omega) (by omega) (by omega) (by omega) (by omega) (by omega) (by omega) (by omega) (by omega) hP hS (lv_sub hl [1, 2, 3, 4, 0] rfl)
  have loop_113 : ∀ (n_113 : Nat) (y6_113 : Int32) (Lp_113 : sg_L) (H : Heap) (locs : List Loc) (ls : Array Slot), 60 - y6_113.toInt < (n_113 : Int) → 0 ≤ x0.toInt ∧ x0.toInt ≤ 5 → 0 ≤ x1.toInt ∧ x1.toInt ≤ 60 → 0 ≤ x2.toInt ∧ x2.toInt ≤ 5 → 0 ≤ x3.toInt ∧ x3.toInt ≤ 60 → 0 ≤ x4.toInt ∧ x4.toInt ≤ 60 → 0 ≤ y6_113.toInt ∧ y6_113.toInt ≤ 60 → x1.toInt + x4.toInt ≤ 60 → x3.toInt + x4.toInt ≤ 60 → va_P D vwCl (sgw 26 h (eM ca h) f Lp_113 Q) H → va_S (sgA 26 h s.heap.size) s.heap H locs → lv_has ls 7 [(0, .ref (h 0)), (1, .int x0), (2, .int x1), (3, .int x2), (4, .int x3), (5, .int x4), (6, .int y6_113)] → W p l e ({ frames := 2, cells := 0, slots := 0, locals := 45 }) s m ([.ref (h 0), .int x0, .int x1, .int x2, .int x3, .int x4] : List Value).toArray below meth cd H locs 0 0 Qz (F0 m 113 ls []) := by
    intro n_113
    induction n_113 with
    | zero => intro y6_113 Lp_113 H locs ls hm_113 hy0_113 hy1_113 hy2_113 hy3_113 hy4_113 hy5_113 hg0_113 hg1_113 hP hS hl; exact absurd hm_113 (by omega)
    | succ n_113 ih_113 =>
      intro y6_113 Lp_113 H locs ls hm_113 hy0_113 hy1_113 hy2_113 hy3_113 hy4_113 hy5_113 hg0_113 hg1_113 hP hS hl
      refine lv_iload hx hb dX12_shift_113 (lv_at hl 6 rfl) ?_
      refine lv_iload hx hb dX12_shift_115 (lv_at hl 5 rfl) ?_
      refine lv_icmp_ge (tgt := 147) hx hb dX12_shift_117 (by decide) (fun c => ?_) (fun c => ?_)
      · skip
        have c_13 : x4.toInt ≤ y6_113.toInt := (by have z := bn_le c; omega)
        refine lv_iconst (v := 0) hx hb dX12_shift_147 (by decide) ?_
        refine lv_istore (lv' := [(6, .int 0), (0, .ref (h 0)), (1, .int x0), (2, .int x1), (3, .int x2), (4, .int x3), (5, .int x4)]) hx hb dX12_shift_148 hl (by decide) rfl (fun ls hl => ?_)
        exact loop_150 61 0 Lp_113 _ _ _ (by have kc0 : (0 : Int32).toInt = 0 := (by decide); omega) (by omega) (by omega) (by omega) (by omega) (by omega) (by decide) (by have kc0 : (0 : Int32).toInt = 0 := (by decide); omega) (by have kc0 : (0 : Int32).toInt = 0 := (by decide); omega) hP hS (lv_sub hl [1, 4, 5, 6, 0] rfl)
      · skip
        have c_14 : y6_113.toInt < x4.toInt := (by have z := bn_nle c; omega)
        refine lv_aload_n hx hb dX12_shift_120 rfl (lv_at hl 0 rfl) ?_
        refine sg_get (ci := 12) (v := .ref (h 25)) (C := RX12) (T := TX12) (N := 55) hx hb hts (fun w h => List.mem_cons_of_mem _ (gx_12 w h)) hown hK hP 0 (by decide) rfl rfl 54 (by decide) (hts _ (List.mem_cons_of_mem _ mw_661)) (fun _ h9 => h9) rfl dX12_shift_121 ?_
        refine lv_iload hx hb dX12_shift_124 (lv_at hl 6 rfl) ?_
        refine lv_aload_n hx hb dX12_shift_126 rfl (lv_at hl 0 rfl) ?_
        refine sg_get (ci := 12) (v := .ref (h 24)) (C := RX12) (T := TX12) (N := 55) hx hb hts (fun w h => List.mem_cons_of_mem _ (gx_12 w h)) hown hK hP 0 (by decide) rfl rfl 53 (by decide) (hts _ (List.mem_cons_of_mem _ mw_646)) (fun _ h9 => h9) rfl dX12_shift_127 ?_
        refine lv_bipush (v := 60) hx hb dX12_shift_130 (by decide) ?_
        refine lv_iload_n hx hb dX12_shift_132 rfl (lv_at hl 1 rfl) ?_
        refine lv_imul hx hb dX12_shift_133 ?_
        refine lv_topi (fun v_15 ev_15 => ?_)
        have q_16 : v_15.toInt = 60 * x0.toInt := by rw [ev_15]; exact bn_mulJ (by decide) (by omega) (by omega)
        refine lv_iload_n hx hb dX12_shift_134 rfl (lv_at hl 2 rfl) ?_
        refine lv_iadd hx hb dX12_shift_135 ?_
        refine lv_topi (fun v_17 ev_17 => ?_)
        have q_18 : v_17.toInt = v_15.toInt + x1.toInt := by rw [ev_17]; exact (bn_addI (by omega) (by omega)).trans (by omega)
        refine lv_iload hx hb dX12_shift_136 (lv_at hl 6 rfl) ?_
        refine lv_iadd hx hb dX12_shift_138 ?_
        refine lv_topi (fun v_19 ev_19 => ?_)
        have q_20 : v_19.toInt = v_17.toInt + y6_113.toInt := by rw [ev_19]; exact (bn_addI (by omega) (by omega)).trans (by omega)
        refine sg_lald hx hb hK hP 24 (by decide) 1 rfl rfl (i := v_19) (vp_in_iff.mpr ⟨by omega, by omega⟩) dX12_shift_139 ?_
        obtain ⟨w_21, ew_21⟩ : ∃ z : Int64, z = Lp_113 24 (Int32.toNatClampNeg v_19) := ⟨_, rfl⟩
        rw [← ew_21]
        refine sg_last hx hb hh hA hK hP hS 25 (by decide) 1 (fun _ => rfl) rfl (i := y6_113) (x := w_21) (vp_in_iff.mpr ⟨by omega, by omega⟩) dX12_shift_140 (fun L_22 H locs eL_22 hP hS => ?_)
        obtain ⟨v_23, ev_23⟩ : ∃ z : Int32, z = y6_113 + 1 := ⟨_, rfl⟩
        have q_24 : v_23.toInt = y6_113.toInt + 1 := by rw [ev_23]; exact (bn_addc y6_113 1 (by decide) (by omega) (by omega))
        refine lv_iinc (v := v_23) (lv' := [(6, .int v_23), (0, .ref (h 0)), (1, .int x0), (2, .int x1), (3, .int x2), (4, .int x3), (5, .int x4)]) hx hb dX12_shift_141 hl (k := 6) rfl (by rw [ev_23]; rfl) (by decide) rfl (fun ls hl => ?_)
        refine lv_goto (tgt := 113) hx hb dX12_shift_144 (by decide) ?_
        exact ih_113 v_23 L_22 _ _ _ (by omega) (by omega) (by omega) (by omega) (by omega) (by omega) (by omega) (by omega) (by omega) hP hS (lv_sub hl [1, 2, 3, 4, 5, 6, 0] rfl)
  refine lv_iload_n hx hb dX12_shift_0 rfl (lv_at hl 1 rfl) ?_
  refine sg_calli (va_runS (As := [.int x0]) (rest := []) ⟨hx, hb, hml, hown, hts⟩ (kX12_isShelf l D ca za h hh f L Q hI x0 H.size) (va_cwS 1 hts (gw_S (fun _ h => List.mem_cons_of_mem _ h) mw_641 mw_642 mw_619 mw_640) rfl rfl rfl (by decide +kernel) ⟨Nat.le_of_ble_eq_true rfl, Nat.le_of_ble_eq_true rfl⟩) (sg_preS hA hK hP hS hZ) rfl rfl hl.1 rfl (lv_room (Nat.le_of_ble_eq_true rfl)) dX12_shift_1 ⟨Nat.le_refl _, Nat.le_refl _⟩) hA hS (fun r_28 f_25 L_26 Q_27 H locs hq hP hS => ?_)
  obtain ⟨⟨ef9, eL9, eQ9⟩, hq⟩ := hq
  rw [ef9, eL9, eQ9] at hP; clear ef9 eL9 eQ9
  rcases hq with ⟨rfl, hq⟩ | ⟨rfl, hq⟩
  · skip
    have q_29 := hq
    refine lv_if_eq (tgt := 14) hx hb dX12_shift_4 (by decide) (fun c => absurd c (by decide)) (fun c => ?_)
    refine lv_iload_n hx hb dX12_shift_7 rfl (lv_at hl 3 rfl) ?_
    refine sg_calli (va_runS (As := [.int x2]) (rest := []) ⟨hx, hb, hml, hown, hts⟩ (kX12_isShelf l D ca za h hh f L Q hI x2 H.size) (va_cwS 1 hts (gw_S (fun _ h => List.mem_cons_of_mem _ h) mw_641 mw_642 mw_619 mw_640) rfl rfl rfl (by decide +kernel) ⟨Nat.le_of_ble_eq_true rfl, Nat.le_of_ble_eq_true rfl⟩) (sg_preS hA hK hP hS hZ) rfl rfl hl.1 rfl (lv_room (Nat.le_of_ble_eq_true rfl)) dX12_shift_8 ⟨Nat.le_refl _, Nat.le_refl _⟩) hA hS (fun r_33 f_30 L_31 Q_32 H locs hq hP hS => ?_)
    obtain ⟨⟨ef9, eL9, eQ9⟩, hq⟩ := hq
    rw [ef9, eL9, eQ9] at hP; clear ef9 eL9 eQ9
    rcases hq with ⟨rfl, hq⟩ | ⟨rfl, hq⟩
    · skip
      have q_34 := hq
      refine lv_if_ne (tgt := 16) hx hb dX12_shift_11 (by decide) (fun c => ?_) (fun c => absurd c (by decide))
      refine lv_aload_n hx hb dX12_shift_16 rfl (lv_at hl 0 rfl) ?_
      refine sg_get (ci := 12) (v := .ref (h 22)) (C := RX12) (T := TX12) (N := 55) hx hb hts (fun w h => List.mem_cons_of_mem _ (gx_12 w h)) hown hK hP 0 (by decide) rfl rfl 51 (by decide) (hts _ (List.mem_cons_of_mem _ mw_643)) (fun _ h9 => h9) rfl dX12_shift_17 ?_
      refine lv_iload_n hx hb dX12_shift_20 rfl (lv_at hl 1 rfl) ?_
      refine sg_iald hx hb hK hP 22 (by decide) 0 rfl rfl (i := x0) (vp_in_iff.mpr ⟨by omega, by omega⟩) dX12_shift_21 ?_
      refine lv_topi (fun v_35 ev_35 => ?_)
      have q_36 : (-1) ≤ v_35.toInt ∧ v_35.toInt ≤ 54 := by rw [ev_35]; exact hI 22 _
      refine lv_if_lt (tgt := 34) hx hb dX12_shift_22 (by decide) (fun c => ?_) (fun c => ?_)
      · skip
        have c_37 : v_35.toInt < 0 := (by have z := bn_lt c; have k1 : (0 : Int32).toInt = 0 := (by decide); omega)
        refine lv_bipush (v := (-11)) hx hb dX12_shift_34 (by decide) ?_
        have k99 : ((-11) : Int32).toInt = (-11) := (by decide)
        exact hret _ _ _ _ (-11) f L Q dX12_shift_36 hP hS ⟨⟨rfl, trivial, rfl⟩, (by decide)⟩
      · skip
        have c_38 : 0 ≤ v_35.toInt := (by have z := bn_nlt c; have k1 : (0 : Int32).toInt = 0 := (by decide); omega)
        refine lv_aload_n hx hb dX12_shift_25 rfl (lv_at hl 0 rfl) ?_
        refine sg_get (ci := 12) (v := .ref (h 22)) (C := RX12) (T := TX12) (N := 55) hx hb hts (fun w h => List.mem_cons_of_mem _ (gx_12 w h)) hown hK hP 0 (by decide) rfl rfl 51 (by decide) (hts _ (List.mem_cons_of_mem _ mw_643)) (fun _ h9 => h9) rfl dX12_shift_26 ?_
        refine lv_iload_n hx hb dX12_shift_29 rfl (lv_at hl 3 rfl) ?_
        refine sg_iald hx hb hK hP 22 (by decide) 0 rfl rfl (i := x2) (vp_in_iff.mpr ⟨by omega, by omega⟩) dX12_shift_30 ?_
        refine lv_topi (fun v_39 ev_39 => ?_)
        have q_40 : (-1) ≤ v_39.toInt ∧ v_39.toInt ≤ 54 := by rw [ev_39]; exact hI 22 _
        refine lv_if_ge (tgt := 37) hx hb dX12_shift_31 (by decide) (fun c => ?_) (fun c => ?_)
        · skip
          have c_41 : 0 ≤ v_39.toInt := (by have z := bn_le c; have k1 : (0 : Int32).toInt = 0 := (by decide); omega)
          refine lv_aload_n hx hb dX12_shift_37 rfl (lv_at hl 0 rfl) ?_
          refine sg_get (ci := 12) (v := .ref (h 22)) (C := RX12) (T := TX12) (N := 55) hx hb hts (fun w h => List.mem_cons_of_mem _ (gx_12 w h)) hown hK hP 0 (by decide) rfl rfl 51 (by decide) (hts _ (List.mem_cons_of_mem _ mw_643)) (fun _ h9 => h9) rfl dX12_shift_38 ?_
          refine lv_iload_n hx hb dX12_shift_41 rfl (lv_at hl 1 rfl) ?_
          refine sg_iald hx hb hK hP 22 (by decide) 0 rfl rfl (i := x0) (vp_in_iff.mpr ⟨by omega, by omega⟩) dX12_shift_42 ?_
          rw [← ev_35]
          refine lv_bipush (v := 50) hx hb dX12_shift_43 (by decide) ?_
          refine lv_icmp_lt (tgt := 63) hx hb dX12_shift_45 (by decide) (fun c => ?_) (fun c => ?_)
          · skip
            have c_43 : v_35.toInt < 50 := (by have z := bn_lt c; have k1 : (50 : Int32).toInt = 50 := (by decide); omega)
            refine lv_bipush (v := (-12)) hx hb dX12_shift_63 (by decide) ?_
            have k99 : ((-12) : Int32).toInt = (-12) := (by decide)
            exact hret _ _ _ _ (-12) f L Q dX12_shift_65 hP hS ⟨⟨rfl, trivial, rfl⟩, (by decide)⟩
          · skip
            have c_44 : 50 ≤ v_35.toInt := (by have z := bn_nlt c; have k1 : (50 : Int32).toInt = 50 := (by decide); omega)
            refine lv_aload_n hx hb dX12_shift_48 rfl (lv_at hl 0 rfl) ?_
            refine sg_get (ci := 12) (v := .ref (h 22)) (C := RX12) (T := TX12) (N := 55) hx hb hts (fun w h => List.mem_cons_of_mem _ (gx_12 w h)) hown hK hP 0 (by decide) rfl rfl 51 (by decide) (hts _ (List.mem_cons_of_mem _ mw_643)) (fun _ h9 => h9) rfl dX12_shift_49 ?_
            refine lv_iload_n hx hb dX12_shift_52 rfl (lv_at hl 1 rfl) ?_
            refine sg_iald hx hb hK hP 22 (by decide) 0 rfl rfl (i := x0) (vp_in_iff.mpr ⟨by omega, by omega⟩) dX12_shift_53 ?_
            rw [← ev_35]
            refine lv_aload_n hx hb dX12_shift_54 rfl (lv_at hl 0 rfl) ?_
            refine sg_get (ci := 12) (v := .ref (h 22)) (C := RX12) (T := TX12) (N := 55) hx hb hts (fun w h => List.mem_cons_of_mem _ (gx_12 w h)) hown hK hP 0 (by decide) rfl rfl 51 (by decide) (hts _ (List.mem_cons_of_mem _ mw_643)) (fun _ h9 => h9) rfl dX12_shift_55 ?_
            refine lv_iload_n hx hb dX12_shift_58 rfl (lv_at hl 3 rfl) ?_
            refine sg_iald hx hb hK hP 22 (by decide) 0 rfl rfl (i := x2) (vp_in_iff.mpr ⟨by omega, by omega⟩) dX12_shift_59 ?_
            rw [← ev_39]
            refine lv_icmp_eq (tgt := 66) hx hb dX12_shift_60 (by decide) (fun c => ?_) (fun c => ?_)
            · skip
              have c_45 : v_35.toInt = v_39.toInt := (by have z := Int32.toInt_inj.mpr c; omega)
              refine lv_iload hx hb dX12_shift_66 (lv_at hl 5 rfl) ?_
              refine lv_if_lt (tgt := 107) hx hb dX12_shift_68 (by decide) (fun c => ?_) (fun c => ?_)
              · skip
                have c_47 : x4.toInt < 0 := (by have z := bn_lt c; have k1 : (0 : Int32).toInt = 0 := (by decide); omega)
                refine lv_bipush (v := (-13)) hx hb dX12_shift_107 (by decide) ?_
                have k99 : ((-13) : Int32).toInt = (-13) := (by decide)
                exact hret _ _ _ _ (-13) f L Q dX12_shift_109 hP hS ⟨⟨rfl, trivial, rfl⟩, (by decide)⟩
              · skip
                have c_48 : 0 ≤ x4.toInt := (by have z := bn_nlt c; have k1 : (0 : Int32).toInt = 0 := (by decide); omega)
                refine lv_iload_n hx hb dX12_shift_71 rfl (lv_at hl 2 rfl) ?_
                refine lv_if_lt (tgt := 107) hx hb dX12_shift_72 (by decide) (fun c => ?_) (fun c => ?_)
                · skip
                  have c_49 : x1.toInt < 0 := (by have z := bn_lt c; have k1 : (0 : Int32).toInt = 0 := (by decide); omega)
                  refine lv_bipush (v := (-13)) hx hb dX12_shift_107 (by decide) ?_
                  have k99 : ((-13) : Int32).toInt = (-13) := (by decide)
                  exact hret _ _ _ _ (-13) f L Q dX12_shift_109 hP hS ⟨⟨rfl, trivial, rfl⟩, (by decide)⟩
                · skip
                  have c_50 : 0 ≤ x1.toInt := (by have z := bn_nlt c; have k1 : (0 : Int32).toInt = 0 := (by decide); omega)
                  refine lv_iload hx hb dX12_shift_75 (lv_at hl 4 rfl) ?_
                  refine lv_if_lt (tgt := 107) hx hb dX12_shift_77 (by decide) (fun c => ?_) (fun c => ?_)
                  · skip
                    have c_51 : x3.toInt < 0 := (by have z := bn_lt c; have k1 : (0 : Int32).toInt = 0 := (by decide); omega)
                    refine lv_bipush (v := (-13)) hx hb dX12_shift_107 (by decide) ?_
                    have k99 : ((-13) : Int32).toInt = (-13) := (by decide)
                    exact hret _ _ _ _ (-13) f L Q dX12_shift_109 hP hS ⟨⟨rfl, trivial, rfl⟩, (by decide)⟩
                  · skip
                    have c_52 : 0 ≤ x3.toInt := (by have z := bn_nlt c; have k1 : (0 : Int32).toInt = 0 := (by decide); omega)
                    refine lv_iload_n hx hb dX12_shift_80 rfl (lv_at hl 2 rfl) ?_
                    refine lv_aload_n hx hb dX12_shift_81 rfl (lv_at hl 0 rfl) ?_
                    refine sg_get (ci := 12) (v := .ref (h 23)) (C := RX12) (T := TX12) (N := 55) hx hb hts (fun w h => List.mem_cons_of_mem _ (gx_12 w h)) hown hK hP 0 (by decide) rfl rfl 52 (by decide) (hts _ (List.mem_cons_of_mem _ mw_645)) (fun _ h9 => h9) rfl dX12_shift_82 ?_
                    refine lv_iload_n hx hb dX12_shift_85 rfl (lv_at hl 1 rfl) ?_
                    refine sg_iald hx hb hK hP 23 (by decide) 0 rfl rfl (i := x0) (vp_in_iff.mpr ⟨by omega, by omega⟩) dX12_shift_86 ?_
                    refine lv_topi (fun v_53 ev_53 => ?_)
                    have q_54 : 0 ≤ v_53.toInt ∧ v_53.toInt ≤ 60 := by rw [ev_53]; exact hI 23 _
                    refine lv_iload hx hb dX12_shift_87 (lv_at hl 5 rfl) ?_
                    refine lv_isub hx hb dX12_shift_89 ?_
                    refine lv_topi (fun v_55 ev_55 => ?_)
                    have q_56 : v_55.toInt = v_53.toInt - x4.toInt := by rw [ev_55]; have z1 := bn_top (x4 : Int32); exact (bn_subI (by omega) (by omega)).trans (by omega)
                    refine lv_icmp_gt (tgt := 107) hx hb dX12_shift_90 (by decide) (fun c => ?_) (fun c => ?_)
                    · skip
                      have c_57 : v_55.toInt < x1.toInt := (by have z := bn_lt c; omega)
                      refine lv_bipush (v := (-13)) hx hb dX12_shift_107 (by decide) ?_
                      have k99 : ((-13) : Int32).toInt = (-13) := (by decide)
                      exact hret _ _ _ _ (-13) f L Q dX12_shift_109 hP hS ⟨⟨rfl, trivial, rfl⟩, (by decide)⟩
                    · skip
                      have c_58 : x1.toInt ≤ v_55.toInt := (by have z := bn_nlt c; omega)
                      refine lv_iload hx hb dX12_shift_93 (lv_at hl 4 rfl) ?_
                      refine lv_aload_n hx hb dX12_shift_95 rfl (lv_at hl 0 rfl) ?_
                      refine sg_get (ci := 12) (v := .ref (h 23)) (C := RX12) (T := TX12) (N := 55) hx hb hts (fun w h => List.mem_cons_of_mem _ (gx_12 w h)) hown hK hP 0 (by decide) rfl rfl 52 (by decide) (hts _ (List.mem_cons_of_mem _ mw_645)) (fun _ h9 => h9) rfl dX12_shift_96 ?_
                      refine lv_iload_n hx hb dX12_shift_99 rfl (lv_at hl 3 rfl) ?_
                      refine sg_iald hx hb hK hP 23 (by decide) 0 rfl rfl (i := x2) (vp_in_iff.mpr ⟨by omega, by omega⟩) dX12_shift_100 ?_
                      refine lv_topi (fun v_59 ev_59 => ?_)
                      have q_60 : 0 ≤ v_59.toInt ∧ v_59.toInt ≤ 60 := by rw [ev_59]; exact hI 23 _
                      refine lv_iload hx hb dX12_shift_101 (lv_at hl 5 rfl) ?_
                      refine lv_isub hx hb dX12_shift_103 ?_
                      refine lv_topi (fun v_61 ev_61 => ?_)
                      have q_62 : v_61.toInt = v_59.toInt - x4.toInt := by rw [ev_61]; exact (bn_subI (by omega) (by omega)).trans (by omega)
                      refine lv_icmp_le (tgt := 110) hx hb dX12_shift_104 (by decide) (fun c => ?_) (fun c => ?_)
                      · skip
                        have c_63 : x3.toInt ≤ v_61.toInt := (by have z := bn_le c; omega)
                        refine lv_iconst (v := 0) hx hb dX12_shift_110 (by decide) ?_
                        refine lv_istore (lv' := [(6, .int 0), (0, .ref (h 0)), (1, .int x0), (2, .int x1), (3, .int x2), (4, .int x3), (5, .int x4)]) hx hb dX12_shift_111 hl (by decide) rfl (fun ls hl => ?_)
                        exact loop_113 61 0 L _ _ _ (by have kc0 : (0 : Int32).toInt = 0 := (by decide); omega) (by omega) (by omega) (by omega) (by omega) (by omega) (by decide) (by have kc0 : (0 : Int32).toInt = 0 := (by decide); omega) (by have kc0 : (0 : Int32).toInt = 0 := (by decide); omega) hP hS (lv_sub hl [1, 2, 3, 4, 5, 6, 0] rfl)
                      · skip
                        have c_64 : v_61.toInt < x3.toInt := (by have z := bn_nle c; omega)
                        refine lv_bipush (v := (-13)) hx hb dX12_shift_107 (by decide) ?_
                        have k99 : ((-13) : Int32).toInt = (-13) := (by decide)
                        exact hret _ _ _ _ (-13) f L Q dX12_shift_109 hP hS ⟨⟨rfl, trivial, rfl⟩, (by decide)⟩
            · skip
              have c_46 : v_35.toInt ≠ v_39.toInt := (by have z := bn_ne c; omega)
              refine lv_bipush (v := (-12)) hx hb dX12_shift_63 (by decide) ?_
              have k99 : ((-12) : Int32).toInt = (-12) := (by decide)
              exact hret _ _ _ _ (-12) f L Q dX12_shift_65 hP hS ⟨⟨rfl, trivial, rfl⟩, (by decide)⟩
        · skip
          have c_42 : v_39.toInt < 0 := (by have z := bn_nle c; have k1 : (0 : Int32).toInt = 0 := (by decide); omega)
          refine lv_bipush (v := (-11)) hx hb dX12_shift_34 (by decide) ?_
          have k99 : ((-11) : Int32).toInt = (-11) := (by decide)
          exact hret _ _ _ _ (-11) f L Q dX12_shift_36 hP hS ⟨⟨rfl, trivial, rfl⟩, (by decide)⟩
    · skip
      have q_65 := hq
      refine lv_if_ne (tgt := 16) hx hb dX12_shift_11 (by decide) (fun c => absurd c (by decide)) (fun c => ?_)
      refine lv_iconst (v := (-1)) hx hb dX12_shift_14 (by decide) ?_
      have k99 : ((-1) : Int32).toInt = (-1) := (by decide)
      exact hret _ _ _ _ (-1) f L Q dX12_shift_15 hP hS ⟨⟨rfl, trivial, rfl⟩, (by decide)⟩
  · skip
    have q_66 := hq
    refine lv_if_eq (tgt := 14) hx hb dX12_shift_4 (by decide) (fun c => ?_) (fun c => absurd c (by decide))
    refine lv_iconst (v := (-1)) hx hb dX12_shift_14 (by decide) ?_
    have k99 : ((-1) : Int32).toInt = (-1) := (by decide)
    exact hret _ _ _ _ (-1) f L Q dX12_shift_15 hP hS ⟨⟨rfl, trivial, rfl⟩, (by decide)⟩

set_option maxHeartbeats 4000000 in
set_option maxRecDepth 100000 in
theorem kX12_kindOf (l : Launch) (D : va_G) (ca : Nat → ClassId) (za h : Nat → Nat) (hh : sgH 26 h) (f : sg_F) (L : sg_L) (Q : sg_Q) (hI : sgI loM hiM f) (x0 : Int32) (b0 : 0 ≤ x0.toInt ∧ x0.toInt ≤ 49) (sz : Nat) : Met l yX12_kindOf gwX12_kindOf { frames := 0, cells := 0, slots := 0, locals := 0 } (sgP D vwCl (tyX ca) 26 h (eM ca h) zcM za f L Q sz [.ref (h 0), .int x0]) (sgQi D vwCl 26 h (eM ca h) sz (fun r f1 L1 Q1 => ((f1 = f ∧ L1 = L ∧ Q1 = Q) ∧ (0 ≤ r.toInt ∧ r.toInt ≤ 7)))) 0 0 (sgA 26 h sz) := by
  refine sg_ofWi (cc := cX12_kindOf) (maxL := 2) RX12 (by decide) rfl rfl (Nat.le_of_ble_eq_true rfl) ?_
  intro p e s m below meth cd Qz ls hx hb hml hown hts hK hZ hP hS hl hret
  have hA := sgY.self (n := 26) (h := h) (sz := s.heap.size)
  have hl : lv_has ls 2 [(0, .ref (h 0)), (1, .int x0)] := hl
  obtain ⟨H, hH⟩ : ∃ z : Heap, z = s.heap := ⟨_, rfl⟩
  obtain ⟨locs, hlo⟩ : ∃ z : List Loc, z = [] := ⟨_, rfl⟩
  have hP : va_P D vwCl (sgw 26 h (eM ca h) f L Q) H := by rw [hH]; exact hP
  have hS : va_S (sgA 26 h s.heap.size) s.heap H locs := by rw [hH, hlo]; exact hS
  suffices hgo : W p l e ({ frames := 0, cells := 0, slots := 0, locals := 0 }) s m ([.ref (h 0), .int x0] : List Value).toArray below meth cd H locs 0 0 Qz (F0 m 0 ls []) by rw [hH, hlo] at hgo; exact hgo
  clear hH hlo
  refine lv_aload_n hx hb dX12_kindOf_0 rfl (lv_at hl 0 rfl) ?_
  refine sg_get (ci := 12) (v := .ref (h 20)) (C := RX12) (T := TX12) (N := 55) hx hb hts (fun w h => List.mem_cons_of_mem _ (gx_12 w h)) hown hK hP 0 (by decide) rfl rfl 46 (by decide) (hts _ (List.mem_cons_of_mem _ mw_647)) (fun _ h9 => h9) rfl dX12_kindOf_1 ?_
  refine lv_iload_n hx hb dX12_kindOf_4 rfl (lv_at hl 1 rfl) ?_
  refine sg_iald hx hb hK hP 20 (by decide) 0 rfl rfl (i := x0) (vp_in_iff.mpr ⟨by omega, by omega⟩) dX12_kindOf_5 ?_
  refine lv_topi (fun v_1 ev_1 => ?_)
  have q_2 : 0 ≤ v_1.toInt ∧ v_1.toInt ≤ 7 := by rw [ev_1]; exact hI 20 _
  exact hret _ _ _ _ (v_1) f L Q dX12_kindOf_6 hP hS ⟨⟨rfl, rfl, rfl⟩, (by omega)⟩

set_option maxHeartbeats 4000000 in
set_option maxRecDepth 100000 in
theorem kX12_above (l : Launch) (D : va_G) (ca : Nat → ClassId) (za h : Nat → Nat) (hh : sgH 26 h) (f : sg_F) (L : sg_L) (Q : sg_Q) (hI : sgI loM hiM f) (x0 : Int32) (b0 : 1 ≤ x0.toInt ∧ x0.toInt ≤ 7) (sz : Nat) : Met l yX12_above gwX12_above { frames := 0, cells := 0, slots := 0, locals := 0 } (sgP D vwCl (tyX ca) 26 h (eM ca h) zcM za f L Q sz [.int x0]) (sgQi D vwCl 26 h (eM ca h) sz (fun r f1 L1 Q1 => ((f1 = f ∧ L1 = L ∧ Q1 = Q) ∧ (0 ≤ r.toInt ∧ r.toInt ≤ 4) ∧ (x0.toInt ≤ 0 ∨ r.toInt < x0.toInt)))) 0 0 (sgA 26 h sz) := by
  refine sg_ofWi (cc := cX12_above) (maxL := 1) RX12 (by decide) rfl rfl (Nat.le_of_ble_eq_true rfl) ?_
  intro p e s m below meth cd Qz ls hx hb hml hown hts hK hZ hP hS hl hret
  have hA := sgY.self (n := 26) (h := h) (sz := s.heap.size)
  have hl : lv_has ls 1 [(0, .int x0)] := hl
  obtain ⟨H, hH⟩ : ∃ z : Heap, z = s.heap := ⟨_, rfl⟩
  obtain ⟨locs, hlo⟩ : ∃ z : List Loc, z = [] := ⟨_, rfl⟩
  have hP : va_P D vwCl (sgw 26 h (eM ca h) f L Q) H := by rw [hH]; exact hP
  have hS : va_S (sgA 26 h s.heap.size) s.heap H locs := by rw [hH, hlo]; exact hS
  suffices hgo : W p l e ({ frames := 0, cells := 0, slots := 0, locals := 0 }) s m ([.int x0] : List Value).toArray below meth cd H locs 0 0 Qz (F0 m 0 ls []) by rw [hH, hlo] at hgo; exact hgo
  clear hH hlo
  refine lv_iload_n hx hb dX12_above_0 rfl (lv_at hl 0 rfl) ?_
  refine lv_iconst (v := 3) hx hb dX12_above_1 (by decide) ?_
  refine lv_icmp_ne (tgt := 9) hx hb dX12_above_2 (by decide) (fun c => ?_) (fun c => ?_)
  · skip
    have c_1 : x0.toInt ≠ 3 := (by have z := bn_ne c; have k1 : (3 : Int32).toInt = 3 := (by decide); omega)
    refine lv_iload_n hx hb dX12_above_9 rfl (lv_at hl 0 rfl) ?_
    refine lv_iconst (v := 4) hx hb dX12_above_10 (by decide) ?_
    refine lv_icmp_ne (tgt := 18) hx hb dX12_above_11 (by decide) (fun c => ?_) (fun c => ?_)
    · skip
      have c_3 : x0.toInt ≠ 4 := (by have z := bn_ne c; have k1 : (4 : Int32).toInt = 4 := (by decide); omega)
      refine lv_iload_n hx hb dX12_above_18 rfl (lv_at hl 0 rfl) ?_
      refine lv_iconst (v := 5) hx hb dX12_above_19 (by decide) ?_
      refine lv_icmp_ne (tgt := 27) hx hb dX12_above_20 (by decide) (fun c => ?_) (fun c => ?_)
      · skip
        have c_5 : x0.toInt ≠ 5 := (by have z := bn_ne c; have k1 : (5 : Int32).toInt = 5 := (by decide); omega)
        refine lv_iload_n hx hb dX12_above_27 rfl (lv_at hl 0 rfl) ?_
        refine lv_bipush (v := 7) hx hb dX12_above_28 (by decide) ?_
        refine lv_icmp_ne (tgt := 37) hx hb dX12_above_30 (by decide) (fun c => ?_) (fun c => ?_)
        · skip
          have c_7 : x0.toInt ≠ 7 := (by have z := bn_ne c; have k1 : (7 : Int32).toInt = 7 := (by decide); omega)
          refine lv_iconst (v := 0) hx hb dX12_above_37 (by decide) ?_
          have k99 : (0 : Int32).toInt = 0 := (by decide)
          exact hret _ _ _ _ (0) f L Q dX12_above_38 hP hS ⟨⟨rfl, rfl, rfl⟩, (by decide), (by omega)⟩
        · skip
          have c_8 : x0.toInt = 7 := (by have z := Int32.toInt_inj.mpr c; have k1 : (7 : Int32).toInt = 7 := (by decide); omega)
          refine lv_iconst (v := 4) hx hb dX12_above_33 (by decide) ?_
          refine lv_goto (tgt := 38) hx hb dX12_above_34 (by decide) ?_
          have k99 : (4 : Int32).toInt = 4 := (by decide)
          exact hret _ _ _ _ (4) f L Q dX12_above_38 hP hS ⟨⟨rfl, rfl, rfl⟩, (by decide), (by omega)⟩
      · skip
        have c_6 : x0.toInt = 5 := (by have z := Int32.toInt_inj.mpr c; have k1 : (5 : Int32).toInt = 5 := (by decide); omega)
        refine lv_iconst (v := 3) hx hb dX12_above_23 (by decide) ?_
        refine lv_goto (tgt := 38) hx hb dX12_above_24 (by decide) ?_
        have k99 : (3 : Int32).toInt = 3 := (by decide)
        exact hret _ _ _ _ (3) f L Q dX12_above_38 hP hS ⟨⟨rfl, rfl, rfl⟩, (by decide), (by omega)⟩
    · skip
      have c_4 : x0.toInt = 4 := (by have z := Int32.toInt_inj.mpr c; have k1 : (4 : Int32).toInt = 4 := (by decide); omega)
      refine lv_iconst (v := 1) hx hb dX12_above_14 (by decide) ?_
      refine lv_goto (tgt := 38) hx hb dX12_above_15 (by decide) ?_
      have k99 : (1 : Int32).toInt = 1 := (by decide)
      exact hret _ _ _ _ (1) f L Q dX12_above_38 hP hS ⟨⟨rfl, rfl, rfl⟩, (by decide), (by omega)⟩
  · skip
    have c_2 : x0.toInt = 3 := (by have z := Int32.toInt_inj.mpr c; have k1 : (3 : Int32).toInt = 3 := (by decide); omega)
    refine lv_iconst (v := 2) hx hb dX12_above_5 (by decide) ?_
    refine lv_goto (tgt := 38) hx hb dX12_above_6 (by decide) ?_
    have k99 : (2 : Int32).toInt = 2 := (by decide)
    exact hret _ _ _ _ (2) f L Q dX12_above_38 hP hS ⟨⟨rfl, rfl, rfl⟩, (by decide), (by omega)⟩

set_option maxHeartbeats 4000000 in
set_option maxRecDepth 100000 in
theorem kX12_taken (l : Launch) (D : va_G) (ca : Nat → ClassId) (za h : Nat → Nat) (hh : sgH 26 h) (f : sg_F) (L : sg_L) (Q : sg_Q) (hI : sgI loM hiM f) (x0 : Int32) (x1 : Int32) (sz : Nat) : Met l yX12_taken gwX12_taken { frames := 2, cells := 0, slots := 0, locals := 45 } (sgP D vwCl (tyX ca) 26 h (eM ca h) zcM za f L Q sz [.ref (h 0), .int x0, .int x1]) (sgQi D vwCl 26 h (eM ca h) sz (fun r f1 L1 Q1 => ((f1 = f ∧ L1 = L ∧ Q1 = Q) ∧ ((-12) ≤ r.toInt ∧ r.toInt ≤ 7)))) 0 0 (sgA 26 h sz) := by
  refine sg_ofWi (cc := cX12_taken) (maxL := 4) RX12 (by decide) rfl rfl (Nat.le_of_ble_eq_true rfl) ?_
  intro p e s m below meth cd Qz ls hx hb hml hown hts hK hZ hP hS hl hret
  have hA := sgY.self (n := 26) (h := h) (sz := s.heap.size)
  have hl : lv_has ls 4 [(0, .ref (h 0)), (1, .int x0), (2, .int x1)] := hl
  obtain ⟨H, hH⟩ : ∃ z : Heap, z = s.heap := ⟨_, rfl⟩
  obtain ⟨locs, hlo⟩ : ∃ z : List Loc, z = [] := ⟨_, rfl⟩
  have hP : va_P D vwCl (sgw 26 h (eM ca h) f L Q) H := by rw [hH]; exact hP
  have hS : va_S (sgA 26 h s.heap.size) s.heap H locs := by rw [hH, hlo]; exact hS
  suffices hgo : W p l e ({ frames := 2, cells := 0, slots := 0, locals := 45 }) s m ([.ref (h 0), .int x0, .int x1] : List Value).toArray below meth cd H locs 0 0 Qz (F0 m 0 ls []) by rw [hH, hlo] at hgo; exact hgo
  clear hH hlo
  have blk_75 : ∀ (y3_75 : Int32) (H : Heap) (locs : List Loc) (ls : Array Slot), 0 ≤ x0.toInt ∧ x0.toInt ≤ 5 → 0 ≤ x1.toInt ∧ x1.toInt ≤ 7 → 0 ≤ y3_75.toInt ∧ y3_75.toInt ≤ 7 → 0 ≤ (f 22 (Int32.toNatClampNeg x0)).toInt ∧ (f 22 (Int32.toNatClampNeg x0)).toInt ≤ 49 → va_P D vwCl (sgw 26 h (eM ca h) f L Q) H → va_S (sgA 26 h s.heap.size) s.heap H locs → lv_has ls 4 [(0, .ref (h 0)), (1, .int x0), (2, .int x1), (3, .int y3_75)] → W p l e ({ frames := 2, cells := 0, slots := 0, locals := 45 }) s m ([.ref (h 0), .int x0, .int x1] : List Value).toArray below meth cd H locs 0 0 Qz (F0 m 75 ls []) := by
    intro y3_75 H locs ls hy0_75 hy1_75 hy2_75 hg0_75 hP hS hl
    refine lv_iload_n hx hb dX12_taken_75 rfl (lv_at hl 3 rfl) ?_
    refine lv_iload_n hx hb dX12_taken_76 rfl (lv_at hl 2 rfl) ?_
    refine lv_icmp_ne (tgt := 93) hx hb dX12_taken_77 (by decide) (fun c => ?_) (fun c => ?_)
    · skip
      have c_1 : y3_75.toInt ≠ x1.toInt := (by have z := bn_ne c; omega)
      refine lv_bipush (v := (-12)) hx hb dX12_taken_93 (by decide) ?_
      have k99 : ((-12) : Int32).toInt = (-12) := (by decide)
      exact hret _ _ _ _ (-12) f L Q dX12_taken_95 hP hS ⟨⟨rfl, rfl, rfl⟩, (by decide)⟩
    · skip
      have c_2 : y3_75.toInt = x1.toInt := (by have z := Int32.toInt_inj.mpr c; omega)
      refine lv_aload_n hx hb dX12_taken_80 rfl (lv_at hl 0 rfl) ?_
      refine lv_aload_n hx hb dX12_taken_81 rfl (lv_at hl 0 rfl) ?_
      refine sg_get (ci := 12) (v := .ref (h 22)) (C := RX12) (T := TX12) (N := 55) hx hb hts (fun w h => List.mem_cons_of_mem _ (gx_12 w h)) hown hK hP 0 (by decide) rfl rfl 51 (by decide) (hts _ (List.mem_cons_of_mem _ mw_643)) (fun _ h9 => h9) rfl dX12_taken_82 ?_
      refine lv_iload_n hx hb dX12_taken_85 rfl (lv_at hl 1 rfl) ?_
      refine sg_iald hx hb hK hP 22 (by decide) 0 rfl rfl (i := x0) (vp_in_iff.mpr ⟨by omega, by omega⟩) dX12_taken_86 ?_
      refine lv_topi (fun v_3 ev_3 => ?_)
      have q_4 : (-1) ≤ v_3.toInt ∧ v_3.toInt ≤ 54 := by rw [ev_3]; exact hI 22 _
      have q_5 : (f 22 (Int32.toNatClampNeg x0)).toInt = v_3.toInt := by rw [ev_3]
      refine sg_calli (va_runV (As := [.int v_3]) (rest := []) ⟨hx, hb, hml, hown, hts⟩ (kX12_kindOf l D ca za h hh f L Q hI v_3 (by omega) H.size) (cwV 1 hts (gw_V (fun _ h => List.mem_cons_of_mem _ h) mw_667 mw_668 mw_669 mw_619 mw_666) rfl rfl rfl (by decide +kernel) ⟨Nat.le_of_ble_eq_true rfl, Nat.le_of_ble_eq_true rfl⟩) (sg_preV (ci := 12) (C := RX12) (T := TX12) (N := 55) hA hK hP hS hZ 0 (by decide) rfl rfl) rfl rfl hl.1 rfl (lv_room (Nat.le_of_ble_eq_true rfl)) dX12_taken_87 ⟨Nat.le_refl _, Nat.le_refl _⟩) hA hS (fun r_9 f_6 L_7 Q_8 H locs hq hP hS => ?_)
      obtain ⟨⟨ef9, eL9, eQ9⟩, hq⟩ := hq
      rw [ef9, eL9, eQ9] at hP; clear ef9 eL9 eQ9
      refine lv_goto (tgt := 95) hx hb dX12_taken_90 (by decide) ?_
      exact hret _ _ _ _ (r_9) f L Q dX12_taken_95 hP hS ⟨⟨rfl, rfl, rfl⟩, (by omega)⟩
  have loop_58 : ∀ (n_58 : Nat) (y3_58 : Int32) (H : Heap) (locs : List Loc) (ls : Array Slot), y3_58.toInt < (n_58 : Int) → 0 ≤ x0.toInt ∧ x0.toInt ≤ 5 → 0 ≤ x1.toInt ∧ x1.toInt ≤ 7 → 0 ≤ y3_58.toInt ∧ y3_58.toInt ≤ 7 → 0 ≤ (f 22 (Int32.toNatClampNeg x0)).toInt ∧ (f 22 (Int32.toNatClampNeg x0)).toInt ≤ 49 → va_P D vwCl (sgw 26 h (eM ca h) f L Q) H → va_S (sgA 26 h s.heap.size) s.heap H locs → lv_has ls 4 [(0, .ref (h 0)), (1, .int x0), (2, .int x1), (3, .int y3_58)] → W p l e ({ frames := 2, cells := 0, slots := 0, locals := 45 }) s m ([.ref (h 0), .int x0, .int x1] : List Value).toArray below meth cd H locs 0 0 Qz (F0 m 58 ls []) := by
    intro n_58
    induction n_58 with
    | zero => intro y3_58 H locs ls hm_58 hy0_58 hy1_58 hy2_58 hg0_58 hP hS hl; exact absurd hm_58 (by omega)
    | succ n_58 ih_58 =>
      intro y3_58 H locs ls hm_58 hy0_58 hy1_58 hy2_58 hg0_58 hP hS hl
      refine lv_iload_n hx hb dX12_taken_58 rfl (lv_at hl 3 rfl) ?_
      refine lv_iload_n hx hb dX12_taken_59 rfl (lv_at hl 2 rfl) ?_
      refine lv_icmp_eq (tgt := 75) hx hb dX12_taken_60 (by decide) (fun c => ?_) (fun c => ?_)
      · skip
        have c_10 : y3_58.toInt = x1.toInt := (by have z := Int32.toInt_inj.mpr c; omega)
        exact blk_75 y3_58 _ _ _ (by omega) (by omega) (by omega) (by omega) hP hS (lv_sub hl [0, 1, 2, 3] rfl)
      · skip
        have c_11 : y3_58.toInt ≠ x1.toInt := (by have z := bn_ne c; omega)
        refine lv_iload_n hx hb dX12_taken_63 rfl (lv_at hl 3 rfl) ?_
        refine lv_if_le (tgt := 75) hx hb dX12_taken_64 (by decide) (fun c => ?_) (fun c => ?_)
        · skip
          have c_12 : y3_58.toInt ≤ 0 := (by have z := bn_le c; have k1 : (0 : Int32).toInt = 0 := (by decide); omega)
          exact blk_75 y3_58 _ _ _ (by omega) (by omega) (by omega) (by omega) hP hS (lv_sub hl [0, 1, 2, 3] rfl)
        · skip
          have c_13 : 0 < y3_58.toInt := (by have z := bn_nle c; have k1 : (0 : Int32).toInt = 0 := (by decide); omega)
          refine lv_iload_n hx hb dX12_taken_67 rfl (lv_at hl 3 rfl) ?_
          refine sg_calli (va_runS (As := [.int y3_58]) (rest := []) ⟨hx, hb, hml, hown, hts⟩ (kX12_above l D ca za h hh f L Q hI y3_58 (by omega) H.size) (va_cwS 1 hts (gw_S (fun _ h => List.mem_cons_of_mem _ h) mw_738 mw_739 mw_619 mw_737) rfl rfl rfl (by decide +kernel) ⟨Nat.le_of_ble_eq_true rfl, Nat.le_of_ble_eq_true rfl⟩) (sg_preS hA hK hP hS hZ) rfl rfl hl.1 rfl (lv_room (Nat.le_of_ble_eq_true rfl)) dX12_taken_68 ⟨Nat.le_refl _, Nat.le_refl _⟩) hA hS (fun r_17 f_14 L_15 Q_16 H locs hq hP hS => ?_)
          obtain ⟨⟨ef9, eL9, eQ9⟩, hq, p_18⟩ := hq
          rw [ef9, eL9, eQ9] at hP; clear ef9 eL9 eQ9
          refine lv_istore_n (lv' := [(3, .int r_17), (0, .ref (h 0)), (1, .int x0), (2, .int x1)]) hx hb dX12_taken_71 rfl hl (by decide) rfl (fun ls hl => ?_)
          refine lv_goto (tgt := 58) hx hb dX12_taken_72 (by decide) ?_
          exact ih_58 r_17 _ _ _ (by omega) (by omega) (by omega) (by omega) (by omega) hP hS (lv_sub hl [1, 2, 3, 0] rfl)
  refine lv_iload_n hx hb dX12_taken_0 rfl (lv_at hl 1 rfl) ?_
  refine sg_calli (va_runS (As := [.int x0]) (rest := []) ⟨hx, hb, hml, hown, hts⟩ (kX12_isShelf l D ca za h hh f L Q hI x0 H.size) (va_cwS 1 hts (gw_S (fun _ h => List.mem_cons_of_mem _ h) mw_641 mw_642 mw_619 mw_640) rfl rfl rfl (by decide +kernel) ⟨Nat.le_of_ble_eq_true rfl, Nat.le_of_ble_eq_true rfl⟩) (sg_preS hA hK hP hS hZ) rfl rfl hl.1 rfl (lv_room (Nat.le_of_ble_eq_true rfl)) dX12_taken_1 ⟨Nat.le_refl _, Nat.le_refl _⟩) hA hS (fun r_22 f_19 L_20 Q_21 H locs hq hP hS => ?_)
  obtain ⟨⟨ef9, eL9, eQ9⟩, hq⟩ := hq
  rw [ef9, eL9, eQ9] at hP; clear ef9 eL9 eQ9
  rcases hq with ⟨rfl, hq⟩ | ⟨rfl, hq⟩
  · skip
    have q_23 := hq
    refine lv_if_eq (tgt := 19) hx hb dX12_taken_4 (by decide) (fun c => absurd c (by decide)) (fun c => ?_)
    refine lv_iload_n hx hb dX12_taken_7 rfl (lv_at hl 2 rfl) ?_
    obtain ⟨w_24, ew_24⟩ : ∃ z : Int64, z = Int32.toInt64 x1 := ⟨_, rfl⟩
    have q_25 : w_24.toInt = x1.toInt := by rw [ew_24]; exact Int32.toInt_toInt64 _
    refine lv_i2l (v := w_24) hx hb dX12_taken_8 ew_24.symm ?_
    refine lv_lconst (v := 0) hx hb dX12_taken_9 (by decide) ?_
    refine lv_ldc2 (v := 7) hx hb hown (hts _ (List.mem_cons_of_mem _ mw_620)) dX12_taken_10 ?_
    refine sg_calli (va_runS (As := [.long w_24, .long 0, .long 7]) (rest := []) ⟨hx, hb, hml, hown, hts⟩ (kX12_within l D ca za h hh f L Q hI w_24 0 7 H.size) (va_cwS 3 hts (gw_S (fun _ h => List.mem_cons_of_mem _ h) mw_631 mw_632 mw_619 mw_630) rfl rfl rfl (by decide +kernel) ⟨Nat.le_of_ble_eq_true rfl, Nat.le_of_ble_eq_true rfl⟩) (sg_preS hA hK hP hS hZ) rfl rfl hl.1 rfl (lv_room (Nat.le_of_ble_eq_true rfl)) dX12_taken_13 ⟨Nat.le_refl _, Nat.le_refl _⟩) hA hS (fun r_29 f_26 L_27 Q_28 H locs hq hP hS => ?_)
    obtain ⟨⟨ef9, eL9, eQ9⟩, hq⟩ := hq
    rw [ef9, eL9, eQ9] at hP; clear ef9 eL9 eQ9
    have k_30 : (0 : Int64).toInt = 0 := by decide
    have k_31 : (7 : Int64).toInt = 7 := by decide
    rcases hq with ⟨rfl, hq⟩ | ⟨rfl, hq⟩
    · skip
      have q_32 := hq
      refine lv_if_ne (tgt := 21) hx hb dX12_taken_16 (by decide) (fun c => ?_) (fun c => absurd c (by decide))
      refine lv_aload_n hx hb dX12_taken_21 rfl (lv_at hl 0 rfl) ?_
      refine sg_get (ci := 12) (v := .ref (h 22)) (C := RX12) (T := TX12) (N := 55) hx hb hts (fun w h => List.mem_cons_of_mem _ (gx_12 w h)) hown hK hP 0 (by decide) rfl rfl 51 (by decide) (hts _ (List.mem_cons_of_mem _ mw_643)) (fun _ h9 => h9) rfl dX12_taken_22 ?_
      refine lv_iload_n hx hb dX12_taken_25 rfl (lv_at hl 1 rfl) ?_
      refine sg_iald hx hb hK hP 22 (by decide) 0 rfl rfl (i := x0) (vp_in_iff.mpr ⟨by omega, by omega⟩) dX12_taken_26 ?_
      refine lv_topi (fun v_33 ev_33 => ?_)
      have q_34 : (-1) ≤ v_33.toInt ∧ v_33.toInt ≤ 54 := by rw [ev_33]; exact hI 22 _
      have q_35 : (f 22 (Int32.toNatClampNeg x0)).toInt = v_33.toInt := by rw [ev_33]
      refine lv_if_ge (tgt := 33) hx hb dX12_taken_27 (by decide) (fun c => ?_) (fun c => ?_)
      · skip
        have c_36 : 0 ≤ v_33.toInt := (by have z := bn_le c; have k1 : (0 : Int32).toInt = 0 := (by decide); omega)
        refine lv_aload_n hx hb dX12_taken_33 rfl (lv_at hl 0 rfl) ?_
        refine sg_get (ci := 12) (v := .ref (h 22)) (C := RX12) (T := TX12) (N := 55) hx hb hts (fun w h => List.mem_cons_of_mem _ (gx_12 w h)) hown hK hP 0 (by decide) rfl rfl 51 (by decide) (hts _ (List.mem_cons_of_mem _ mw_643)) (fun _ h9 => h9) rfl dX12_taken_34 ?_
        refine lv_iload_n hx hb dX12_taken_37 rfl (lv_at hl 1 rfl) ?_
        refine sg_iald hx hb hK hP 22 (by decide) 0 rfl rfl (i := x0) (vp_in_iff.mpr ⟨by omega, by omega⟩) dX12_taken_38 ?_
        rw [← ev_33]
        have q_38 : (f 22 (Int32.toNatClampNeg x0)).toInt = v_33.toInt := by rw [ev_33]
        refine lv_bipush (v := 50) hx hb dX12_taken_39 (by decide) ?_
        refine lv_icmp_lt (tgt := 47) hx hb dX12_taken_41 (by decide) (fun c => ?_) (fun c => ?_)
        · skip
          have c_39 : v_33.toInt < 50 := (by have z := bn_lt c; have k1 : (50 : Int32).toInt = 50 := (by decide); omega)
          refine lv_aload_n hx hb dX12_taken_47 rfl (lv_at hl 0 rfl) ?_
          refine lv_aload_n hx hb dX12_taken_48 rfl (lv_at hl 0 rfl) ?_
          refine sg_get (ci := 12) (v := .ref (h 22)) (C := RX12) (T := TX12) (N := 55) hx hb hts (fun w h => List.mem_cons_of_mem _ (gx_12 w h)) hown hK hP 0 (by decide) rfl rfl 51 (by decide) (hts _ (List.mem_cons_of_mem _ mw_643)) (fun _ h9 => h9) rfl dX12_taken_49 ?_
          refine lv_iload_n hx hb dX12_taken_52 rfl (lv_at hl 1 rfl) ?_
          refine sg_iald hx hb hK hP 22 (by decide) 0 rfl rfl (i := x0) (vp_in_iff.mpr ⟨by omega, by omega⟩) dX12_taken_53 ?_
          rw [← ev_33]
          have q_41 : (f 22 (Int32.toNatClampNeg x0)).toInt = v_33.toInt := by rw [ev_33]
          refine sg_calli (va_runV (As := [.int v_33]) (rest := []) ⟨hx, hb, hml, hown, hts⟩ (kX12_kindOf l D ca za h hh f L Q hI v_33 (by omega) H.size) (cwV 1 hts (gw_V (fun _ h => List.mem_cons_of_mem _ h) mw_667 mw_668 mw_669 mw_619 mw_666) rfl rfl rfl (by decide +kernel) ⟨Nat.le_of_ble_eq_true rfl, Nat.le_of_ble_eq_true rfl⟩) (sg_preV (ci := 12) (C := RX12) (T := TX12) (N := 55) hA hK hP hS hZ 0 (by decide) rfl rfl) rfl rfl hl.1 rfl (lv_room (Nat.le_of_ble_eq_true rfl)) dX12_taken_54 ⟨Nat.le_refl _, Nat.le_refl _⟩) hA hS (fun r_45 f_42 L_43 Q_44 H locs hq hP hS => ?_)
          obtain ⟨⟨ef9, eL9, eQ9⟩, hq⟩ := hq
          rw [ef9, eL9, eQ9] at hP; clear ef9 eL9 eQ9
          refine lv_istore_n (lv' := [(3, .int r_45), (0, .ref (h 0)), (1, .int x0), (2, .int x1)]) hx hb dX12_taken_57 rfl hl (by decide) rfl (fun ls hl => ?_)
          exact loop_58 8 r_45 _ _ _ (by omega) (by omega) (by omega) (by omega) (by omega) hP hS (lv_sub hl [1, 2, 3, 0] rfl)
        · skip
          have c_40 : 50 ≤ v_33.toInt := (by have z := bn_nlt c; have k1 : (50 : Int32).toInt = 50 := (by decide); omega)
          refine lv_bipush (v := (-12)) hx hb dX12_taken_44 (by decide) ?_
          have k99 : ((-12) : Int32).toInt = (-12) := (by decide)
          exact hret _ _ _ _ (-12) f L Q dX12_taken_46 hP hS ⟨⟨rfl, rfl, rfl⟩, (by decide)⟩
      · skip
        have c_37 : v_33.toInt < 0 := (by have z := bn_nle c; have k1 : (0 : Int32).toInt = 0 := (by decide); omega)
        refine lv_bipush (v := (-11)) hx hb dX12_taken_30 (by decide) ?_
        have k99 : ((-11) : Int32).toInt = (-11) := (by decide)
        exact hret _ _ _ _ (-11) f L Q dX12_taken_32 hP hS ⟨⟨rfl, rfl, rfl⟩, (by decide)⟩
    · skip
      have q_46 := hq
      refine lv_if_ne (tgt := 21) hx hb dX12_taken_16 (by decide) (fun c => absurd c (by decide)) (fun c => ?_)
      refine lv_iconst (v := (-1)) hx hb dX12_taken_19 (by decide) ?_
      have k99 : ((-1) : Int32).toInt = (-1) := (by decide)
      exact hret _ _ _ _ (-1) f L Q dX12_taken_20 hP hS ⟨⟨rfl, rfl, rfl⟩, (by decide)⟩
  · skip
    have q_47 := hq
    refine lv_if_eq (tgt := 19) hx hb dX12_taken_4 (by decide) (fun c => ?_) (fun c => absurd c (by decide))
    refine lv_iconst (v := (-1)) hx hb dX12_taken_19 (by decide) ?_
    have k99 : ((-1) : Int32).toInt = (-1) := (by decide)
    exact hret _ _ _ _ (-1) f L Q dX12_taken_20 hP hS ⟨⟨rfl, rfl, rfl⟩, (by decide)⟩

set_option maxHeartbeats 4000000 in
set_option maxRecDepth 100000 in
theorem kX12_count (l : Launch) (D : va_G) (ca : Nat → ClassId) (za h : Nat → Nat) (hh : sgH 26 h) (f : sg_F) (L : sg_L) (Q : sg_Q) (hI : sgI loM hiM f) (x0 : Int32) (sz : Nat) : Met l yX12_count gwX12_count { frames := 0, cells := 0, slots := 0, locals := 0 } (sgP D vwCl (tyX ca) 26 h (eM ca h) zcM za f L Q sz [.ref (h 0), .int x0]) (sgQi D vwCl 26 h (eM ca h) sz (fun r f1 L1 Q1 => ((f1 = f ∧ L1 = L ∧ Q1 = Q) ∧ ((-1) ≤ r.toInt ∧ r.toInt ≤ 120)))) 0 0 (sgA 26 h sz) := by
  refine sg_ofWi (cc := cX12_count) (maxL := 2) RX12 (by decide) rfl rfl (Nat.le_of_ble_eq_true rfl) ?_
  intro p e s m below meth cd Qz ls hx hb hml hown hts hK hZ hP hS hl hret
  have hA := sgY.self (n := 26) (h := h) (sz := s.heap.size)
  have hl : lv_has ls 2 [(0, .ref (h 0)), (1, .int x0)] := hl
  obtain ⟨H, hH⟩ : ∃ z : Heap, z = s.heap := ⟨_, rfl⟩
  obtain ⟨locs, hlo⟩ : ∃ z : List Loc, z = [] := ⟨_, rfl⟩
  have hP : va_P D vwCl (sgw 26 h (eM ca h) f L Q) H := by rw [hH]; exact hP
  have hS : va_S (sgA 26 h s.heap.size) s.heap H locs := by rw [hH, hlo]; exact hS
  suffices hgo : W p l e ({ frames := 0, cells := 0, slots := 0, locals := 0 }) s m ([.ref (h 0), .int x0] : List Value).toArray below meth cd H locs 0 0 Qz (F0 m 0 ls []) by rw [hH, hlo] at hgo; exact hgo
  clear hH hlo
  refine lv_iload_n hx hb dX12_count_0 rfl (lv_at hl 1 rfl) ?_
  rcases (show (x0.toInt ≠ 0 ∧ x0.toInt ≠ 1 ∧ x0.toInt ≠ 2 ∧ x0.toInt ≠ 3 ∧ x0.toInt ≠ 4) ∨ x0.toInt = 0 ∨ x0.toInt = 1 ∨ x0.toInt = 2 ∨ x0.toInt = 3 ∨ x0.toInt = 4 from by omega) with c | c | c | c | c | c
  · skip
    refine lv_tableOut (x := x0) (tgt := 61) hx hb dX12_count_1 (by omega) (by decide) ?_
    refine lv_iconst (v := (-1)) hx hb dX12_count_61 (by decide) ?_
    have k99 : ((-1) : Int32).toInt = (-1) := (by decide)
    exact hret _ _ _ _ (-1) f L Q dX12_count_62 hP hS ⟨⟨rfl, rfl, rfl⟩, (by decide)⟩
  · skip
    have c_1 := c
    refine lv_tableIn (x := x0) (tgt := 36) hx hb dX12_count_1 (by omega) (by omega) (by rw [c]; rfl) (by decide) ?_
    refine lv_aload_n hx hb dX12_count_36 rfl (lv_at hl 0 rfl) ?_
    refine sg_get (ci := 12) (v := .int (f 0 6)) (C := RX12) (T := TX12) (N := 55) hx hb hts (fun w h => List.mem_cons_of_mem _ (gx_12 w h)) hown hK hP 0 (by decide) rfl rfl 6 (by decide) (hts _ (List.mem_cons_of_mem _ mw_622)) (fun _ h9 => h9) rfl dX12_count_37 ?_
    refine lv_topi (fun v_2 ev_2 => ?_)
    have q_3 : 0 ≤ v_2.toInt ∧ v_2.toInt ≤ 8 := by rw [ev_2]; exact hI 0 6
    exact hret _ _ _ _ (v_2) f L Q dX12_count_40 hP hS ⟨⟨rfl, rfl, rfl⟩, (by omega)⟩
  · skip
    have c_4 := c
    refine lv_tableIn (x := x0) (tgt := 41) hx hb dX12_count_1 (by omega) (by omega) (by rw [c]; rfl) (by decide) ?_
    refine lv_aload_n hx hb dX12_count_41 rfl (lv_at hl 0 rfl) ?_
    refine sg_get (ci := 12) (v := .int (f 0 9)) (C := RX12) (T := TX12) (N := 55) hx hb hts (fun w h => List.mem_cons_of_mem _ (gx_12 w h)) hown hK hP 0 (by decide) rfl rfl 9 (by decide) (hts _ (List.mem_cons_of_mem _ mw_606)) (fun _ h9 => h9) rfl dX12_count_42 ?_
    refine lv_topi (fun v_5 ev_5 => ?_)
    have q_6 : 0 ≤ v_5.toInt ∧ v_5.toInt ≤ 120 := by rw [ev_5]; exact hI 0 9
    exact hret _ _ _ _ (v_5) f L Q dX12_count_45 hP hS ⟨⟨rfl, rfl, rfl⟩, (by omega)⟩
  · skip
    have c_7 := c
    refine lv_tableIn (x := x0) (tgt := 46) hx hb dX12_count_1 (by omega) (by omega) (by rw [c]; rfl) (by decide) ?_
    refine lv_aload_n hx hb dX12_count_46 rfl (lv_at hl 0 rfl) ?_
    refine sg_get (ci := 12) (v := .int (f 0 5)) (C := RX12) (T := TX12) (N := 55) hx hb hts (fun w h => List.mem_cons_of_mem _ (gx_12 w h)) hown hK hP 0 (by decide) rfl rfl 5 (by decide) (hts _ (List.mem_cons_of_mem _ mw_599)) (fun _ h9 => h9) rfl dX12_count_47 ?_
    refine lv_topi (fun v_8 ev_8 => ?_)
    have q_9 : 0 ≤ v_8.toInt ∧ v_8.toInt ≤ 40 := by rw [ev_8]; exact hI 0 5
    exact hret _ _ _ _ (v_8) f L Q dX12_count_50 hP hS ⟨⟨rfl, rfl, rfl⟩, (by omega)⟩
  · skip
    have c_10 := c
    refine lv_tableIn (x := x0) (tgt := 51) hx hb dX12_count_1 (by omega) (by omega) (by rw [c]; rfl) (by decide) ?_
    refine lv_aload_n hx hb dX12_count_51 rfl (lv_at hl 0 rfl) ?_
    refine sg_get (ci := 12) (v := .int (f 0 45)) (C := RX12) (T := TX12) (N := 55) hx hb hts (fun w h => List.mem_cons_of_mem _ (gx_12 w h)) hown hK hP 0 (by decide) rfl rfl 45 (by decide) (hts _ (List.mem_cons_of_mem _ mw_623)) (fun _ h9 => h9) rfl dX12_count_52 ?_
    refine lv_topi (fun v_11 ev_11 => ?_)
    have q_12 : 0 ≤ v_11.toInt ∧ v_11.toInt ≤ 50 := by rw [ev_11]; exact hI 0 45
    exact hret _ _ _ _ (v_11) f L Q dX12_count_55 hP hS ⟨⟨rfl, rfl, rfl⟩, (by omega)⟩
  · skip
    have c_13 := c
    refine lv_tableIn (x := x0) (tgt := 56) hx hb dX12_count_1 (by omega) (by omega) (by rw [c]; rfl) (by decide) ?_
    refine lv_aload_n hx hb dX12_count_56 rfl (lv_at hl 0 rfl) ?_
    refine sg_get (ci := 12) (v := .int (f 0 48)) (C := RX12) (T := TX12) (N := 55) hx hb hts (fun w h => List.mem_cons_of_mem _ (gx_12 w h)) hown hK hP 0 (by decide) rfl rfl 48 (by decide) (hts _ (List.mem_cons_of_mem _ mw_621)) (fun _ h9 => h9) rfl dX12_count_57 ?_
    refine lv_topi (fun v_14 ev_14 => ?_)
    have q_15 : 0 ≤ v_14.toInt ∧ v_14.toInt ≤ 19 := by rw [ev_14]; exact hI 0 48
    exact hret _ _ _ _ (v_14) f L Q dX12_count_60 hP hS ⟨⟨rfl, rfl, rfl⟩, (by omega)⟩
