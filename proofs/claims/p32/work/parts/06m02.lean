/-! contracts of any state. Laid by a program (wip/tool) -/
abbrev WkX12_compared_4 : List (Nat × Nat × Option Nat) := [(0, 0, some 13), (0, 0, some 15), (0, 0, some 16)]
set_option maxHeartbeats 4000000 in
set_option maxRecDepth 100000 in
theorem kX12_compared_4 (l : Launch) (D : va_G) (ca : Nat → ClassId) (za h : Nat → Nat) (hh : sgH 26 h) (f : sg_F) (L : sg_L) (Q : sg_Q) (hI : sgI loM hiM f) (p0 : 4 ≤ (f 0 16).toInt) (p1 : 0 ≤ (f 0 15).toInt ∨ (f 0 16).toInt = 4) (sz : Nat) : Met l yX12_compared gwX12_compared { frames := 16, cells := 0, slots := 0, locals := 364 } (sgP D vwCl (tyX ca) 26 h (eM ca h) zcM za f L Q sz [.ref (h 0)]) (sgQi D vwCl 26 h (eM ca h) sz (fun r f1 L1 Q1 => ((sgI loM hiM f1 ∧ sgK WkX12_compared_4 f f1 ∧ L1 = L ∧ Q1 = Q) ∧ True ∧ ((f 0 13).toInt ≤ (f1 0 13).toInt) ∧ (4 ≤ (f1 0 16).toInt) ∧ (0 ≤ (f1 0 15).toInt ∨ (f1 0 16).toInt = 4)))) 0 0 (sgA 26 h sz) := by
  refine sg_ofWi (cc := cX12_compared) (maxL := 4) RX12 (by decide) rfl rfl (Nat.le_of_ble_eq_true rfl) ?_
  intro p e s m below meth cd Qz ls hx hb hml hown hts hK hZ hP hS hl hret
  have hA := sgY.self (n := 26) (h := h) (sz := s.heap.size)
  have hl : lv_has ls 4 [(0, .ref (h 0))] := hl
  obtain ⟨H, hH⟩ : ∃ z : Heap, z = s.heap := ⟨_, rfl⟩
  obtain ⟨locs, hlo⟩ : ∃ z : List Loc, z = [] := ⟨_, rfl⟩
  have hP : va_P D vwCl (sgw 26 h (eM ca h) f L Q) H := by rw [hH]; exact hP
  have hS : va_S (sgA 26 h s.heap.size) s.heap H locs := by rw [hH, hlo]; exact hS
  suffices hgo : W p l e ({ frames := 16, cells := 0, slots := 0, locals := 364 }) s m ([.ref (h 0)] : List Value).toArray below meth cd H locs 0 0 Qz (F0 m 0 ls []) by rw [hH, hlo] at hgo; exact hgo
  clear hH hlo
  obtain ⟨v_1, ev_1⟩ : ∃ z : Int32, z = f 0 16 := ⟨_, rfl⟩
  have q_2 : 0 ≤ v_1.toInt ∧ v_1.toInt ≤ 6 := by rw [ev_1]; exact hI 0 16
  obtain ⟨v_3, ev_3⟩ : ∃ z : Int32, z = f 0 15 := ⟨_, rfl⟩
  have q_4 : (-1) ≤ v_3.toInt ∧ v_3.toInt ≤ 120 := by rw [ev_3]; exact hI 0 15
  obtain ⟨v_5, ev_5⟩ : ∃ z : Int32, z = f 0 13 := ⟨_, rfl⟩
  have q_6 : 0 ≤ v_5.toInt ∧ v_5.toInt ≤ 120 := by rw [ev_5]; exact hI 0 13
  have o_7 : (f 0 16).toInt = v_1.toInt := (congrArg Int32.toInt (show f 0 16 = v_1 from ev_1.symm))
  have o_8 : (f 0 15).toInt = v_3.toInt := (congrArg Int32.toInt (show f 0 15 = v_3 from ev_3.symm))
  have o_9 : (f 0 13).toInt = v_5.toInt := (congrArg Int32.toInt (show f 0 13 = v_5 from ev_5.symm))
  have hF : sgK WkX12_compared_4 f f := sgK.rf
  refine lv_aload_n hx hb dX12_compared_0 rfl (lv_at hl 0 rfl) ?_
  have q_10 : (f 0 16).toInt = v_1.toInt := (congrArg Int32.toInt (show f 0 16 = v_1 from ev_1.symm))
  have q_11 : (f 0 15).toInt = v_3.toInt := (congrArg Int32.toInt (show f 0 15 = v_3 from ev_3.symm))
  have q_12 : (f 0 16).toInt = v_1.toInt := (congrArg Int32.toInt (show f 0 16 = v_1 from ev_1.symm))
  have q_13 : (f 0 13).toInt = v_5.toInt := (congrArg Int32.toInt (show f 0 13 = v_5 from ev_5.symm))
  refine sg_calli (va_runV (As := []) (rest := []) ⟨hx, hb, hml, hown, hts⟩ (kX12_sums_4 l D ca za h hh f L Q hI (by omega) (by omega) H.size) (cwV 0 hts (gw_V (fun _ h => List.mem_cons_of_mem _ h) mw_852 mw_853 mw_854 mw_619 mw_851) rfl rfl rfl (by decide +kernel) ⟨Nat.le_of_ble_eq_true rfl, Nat.le_of_ble_eq_true rfl⟩) (sg_preV (ci := 12) (C := RX12) (T := TX12) (N := 55) hA hK hP hS hZ 0 (by decide) rfl rfl) rfl rfl hl.1 rfl (lv_room (Nat.le_of_ble_eq_true rfl)) dX12_compared_1 ⟨Nat.le_refl _, Nat.le_refl _⟩) hA hS (fun r_17 f_14 L_15 Q_16 H locs hq hP hS => ?_)
  obtain ⟨⟨hI, hk_f_14, eL9, eQ9⟩, hq, p_18, p_19, p_20⟩ := hq
  rw [eL9, eQ9] at hP; clear eL9 eQ9
  have hF : sgK WkX12_compared_4 f f_14 := sgK.tr hF hk_f_14 (by decide)
  obtain ⟨v_21, ev_21⟩ : ∃ z : Int32, z = f_14 0 13 := ⟨_, rfl⟩
  have q_22 : 0 ≤ v_21.toInt ∧ v_21.toInt ≤ 120 := by rw [ev_21]; exact hI 0 13
  have q_23 : (f_14 0 13).toInt = v_21.toInt := (congrArg Int32.toInt (show f_14 0 13 = v_21 from ev_21.symm))
  obtain ⟨v_24, ev_24⟩ : ∃ z : Int32, z = f_14 0 16 := ⟨_, rfl⟩
  have q_25 : 0 ≤ v_24.toInt ∧ v_24.toInt ≤ 6 := by rw [ev_24]; exact hI 0 16
  have q_26 : (f_14 0 16).toInt = v_24.toInt := (congrArg Int32.toInt (show f_14 0 16 = v_24 from ev_24.symm))
  obtain ⟨v_27, ev_27⟩ : ∃ z : Int32, z = f_14 0 15 := ⟨_, rfl⟩
  have q_28 : (-1) ≤ v_27.toInt ∧ v_27.toInt ≤ 120 := by rw [ev_27]; exact hI 0 15
  have q_29 : (f_14 0 15).toInt = v_27.toInt := (congrArg Int32.toInt (show f_14 0 15 = v_27 from ev_27.symm))
  have q_30 : (f_14 0 16).toInt = v_24.toInt := (congrArg Int32.toInt (show f_14 0 16 = v_24 from ev_24.symm))
  refine lv_istore_n (lv' := [(1, .int r_17), (0, .ref (h 0))]) hx hb dX12_compared_4 rfl hl (by decide) rfl (fun ls hl => ?_)
  refine lv_aload_n hx hb dX12_compared_5 rfl (lv_at hl 1 rfl) ?_
  have q_31 : (f_14 0 13).toInt = v_21.toInt := (congrArg Int32.toInt (show f_14 0 13 = v_21 from ev_21.symm))
  obtain ⟨v_32, ev_32⟩ : ∃ z : Int32, z = f_14 0 14 := ⟨_, rfl⟩
  have q_33 : 0 ≤ v_32.toInt ∧ v_32.toInt ≤ 120 := by rw [ev_32]; exact hI 0 14
  have q_34 : (f_14 0 14).toInt = v_32.toInt := (congrArg Int32.toInt (show f_14 0 14 = v_32 from ev_32.symm))
  refine sg_calli (va_runV (As := []) (rest := []) ⟨hx, hb, hml, hown, hts⟩ (kX12_byteAt l D ca za h hh f_14 L Q hI H.size) (cwV 0 hts (gw_V (fun _ h => List.mem_cons_of_mem _ h) mw_840 mw_841 mw_842 mw_619 mw_839) rfl rfl rfl (by decide +kernel) ⟨Nat.le_of_ble_eq_true rfl, Nat.le_of_ble_eq_true rfl⟩) (sg_preV (ci := 12) (C := RX12) (T := TX12) (N := 55) hA hK hP hS hZ 0 (by decide) rfl rfl) rfl rfl hl.1 rfl (lv_room (Nat.le_of_ble_eq_true rfl)) dX12_compared_6 ⟨Nat.le_refl _, Nat.le_refl _⟩) hA hS (fun r_38 f_35 L_36 Q_37 H locs hq hP hS => ?_)
  obtain ⟨⟨ef9, eL9, eQ9⟩, hq, p_39⟩ := hq
  rw [ef9, eL9, eQ9] at hP; clear ef9 eL9 eQ9
  refine lv_istore_n (lv' := [(2, .int r_38), (1, .int r_17), (0, .ref (h 0))]) hx hb dX12_compared_9 rfl hl (by decide) rfl (fun ls hl => ?_)
  refine lv_aload_n hx hb dX12_compared_10 rfl (lv_at hl 2 rfl) ?_
  refine sg_get (ci := 12) (v := .int v_27) (C := RX12) (T := TX12) (N := 55) hx hb hts (fun w h => List.mem_cons_of_mem _ (gx_12 w h)) hown hK hP 0 (by decide) rfl rfl 15 (by decide) (hts _ (List.mem_cons_of_mem _ mw_627)) (fun _ h9 => h9) (congrArg (fun z => some (Value.int z)) (show f_14 0 15 = v_27 from ev_27.symm)) dX12_compared_11 ?_
  refine lv_if_ge (tgt := 35) hx hb dX12_compared_14 (by decide) (fun c => ?_) (fun c => ?_)
  · skip
    have c_40 : 0 ≤ v_27.toInt := (by have z := bn_le c; have k1 : (0 : Int32).toInt = 0 := (by decide); omega)
    refine lv_iload_n hx hb dX12_compared_35 rfl (lv_at hl 1 rfl) ?_
    have q_42 : (f_14 0 13).toInt = v_21.toInt := (congrArg Int32.toInt (show f_14 0 13 = v_21 from ev_21.symm))
    have q_43 : (f_14 0 16).toInt = v_24.toInt := (congrArg Int32.toInt (show f_14 0 16 = v_24 from ev_24.symm))
    have q_44 : (f_14 0 15).toInt = v_27.toInt := (congrArg Int32.toInt (show f_14 0 15 = v_27 from ev_27.symm))
    have q_45 : (f_14 0 16).toInt = v_24.toInt := (congrArg Int32.toInt (show f_14 0 16 = v_24 from ev_24.symm))
    exact hret _ _ _ _ (r_17) f_14 L Q dX12_compared_36 hP hS ⟨⟨hI, hF, rfl, rfl⟩, trivial, (by omega), (by omega), (by omega)⟩
  · skip
    have c_41 : v_27.toInt < 0 := (by have z := bn_nle c; have k1 : (0 : Int32).toInt = 0 := (by decide); omega)
    refine lv_iload_n hx hb dX12_compared_17 rfl (lv_at hl 0 rfl) ?_
    refine lv_bipush (v := 60) hx hb dX12_compared_18 (by decide) ?_
    refine lv_icmp_eq (tgt := 37) hx hb dX12_compared_20 (by decide) (fun c => ?_) (fun c => ?_)
    · skip
      have c_46 : r_38.toInt = 60 := (by have z := Int32.toInt_inj.mpr c; have k1 : (60 : Int32).toInt = 60 := (by decide); omega)
      refine lv_aload_n hx hb dX12_compared_37 rfl (lv_at hl 2 rfl) ?_
      refine lv_dup hx hb dX12_compared_38 rfl ?_
      refine sg_get (ci := 12) (v := .int v_21) (C := RX12) (T := TX12) (N := 55) hx hb hts (fun w h => List.mem_cons_of_mem _ (gx_12 w h)) hown hK hP 0 (by decide) rfl rfl 13 (by decide) (hts _ (List.mem_cons_of_mem _ mw_625)) (fun _ h9 => h9) (congrArg (fun z => some (Value.int z)) (show f_14 0 13 = v_21 from ev_21.symm)) dX12_compared_39 ?_
      refine lv_iconst (v := 1) hx hb dX12_compared_42 (by decide) ?_
      refine lv_iadd hx hb dX12_compared_43 ?_
      refine lv_topi (fun v_48 ev_48 => ?_)
      have q_49 : v_48.toInt = v_21.toInt + 1 := by rw [ev_48]; have k1 : (1 : Int32).toInt = 1 := (by decide); exact (bn_addI (by omega) (by omega)).trans (by omega)
      refine sg_put (ci := 12) (x := v_48) (ty := .int) (C := RX12) (T := TX12) (N := 55) hx hb hts (fun w h => List.mem_cons_of_mem _ (gx_12 w h)) tyX12 tyX12_ok nmX12 hown hh hA hK hP hS 0 (by decide) rfl rfl 13 (by decide) (hts _ (List.mem_cons_of_mem _ mw_625)) (fun _ h9 => h9) rfl rfl (by decide +kernel) rfl rfl (Nat.le_of_ble_eq_true rfl) dX12_compared_44 (fun f_50 H locs ef_50 hP hS => ?_)
      have hI : sgI loM hiM f_50 := by rw [ef_50]; exact sgI.put hI 0 13 (show 0 ≤ (v_48 : Int32).toInt ∧ (v_48 : Int32).toInt ≤ 120 from by omega)
      have hF : sgK WkX12_compared_4 f f_50 := sgK.put hF ef_50 (by rfl)
      refine lv_aload_n hx hb dX12_compared_47 rfl (lv_at hl 2 rfl) ?_
      have q_51 : (f_50 0 16).toInt = v_24.toInt := (congrArg Int32.toInt (show f_50 0 16 = v_24 from (by rw [ef_50, sg_up_s, sgu_n (by decide)]; exact ev_24.symm)))
      have q_52 : (f_50 0 15).toInt = v_27.toInt := (congrArg Int32.toInt (show f_50 0 15 = v_27 from (by rw [ef_50, sg_up_s, sgu_n (by decide)]; exact ev_27.symm)))
      have q_53 : (f_50 0 16).toInt = v_24.toInt := (congrArg Int32.toInt (show f_50 0 16 = v_24 from (by rw [ef_50, sg_up_s, sgu_n (by decide)]; exact ev_24.symm)))
      have q_54 : (f_50 0 13).toInt = v_48.toInt := (congrArg Int32.toInt (show f_50 0 13 = v_48 from (by rw [ef_50, sg_up_s, sgu_s])))
      refine sg_calli (va_runV (As := []) (rest := []) ⟨hx, hb, hml, hown, hts⟩ (kX12_sums_4 l D ca za h hh f_50 L Q hI (by omega) (by omega) H.size) (cwV 0 hts (gw_V (fun _ h => List.mem_cons_of_mem _ h) mw_852 mw_853 mw_854 mw_619 mw_851) rfl rfl rfl (by decide +kernel) ⟨Nat.le_of_ble_eq_true rfl, Nat.le_of_ble_eq_true rfl⟩) (sg_preV (ci := 12) (C := RX12) (T := TX12) (N := 55) hA hK hP hS hZ 0 (by decide) rfl rfl) rfl rfl hl.1 rfl (lv_room (Nat.le_of_ble_eq_true rfl)) dX12_compared_48 ⟨Nat.le_refl _, Nat.le_refl _⟩) hA hS (fun r_58 f_55 L_56 Q_57 H locs hq hP hS => ?_)
      obtain ⟨⟨hI, hk_f_55, eL9, eQ9⟩, hq, p_59, p_60, p_61⟩ := hq
      rw [eL9, eQ9] at hP; clear eL9 eQ9
      have hF : sgK WkX12_compared_4 f f_55 := sgK.tr hF hk_f_55 (by decide)
      obtain ⟨v_62, ev_62⟩ : ∃ z : Int32, z = f_55 0 13 := ⟨_, rfl⟩
      have q_63 : 0 ≤ v_62.toInt ∧ v_62.toInt ≤ 120 := by rw [ev_62]; exact hI 0 13
      have q_64 : (f_55 0 13).toInt = v_62.toInt := (congrArg Int32.toInt (show f_55 0 13 = v_62 from ev_62.symm))
      obtain ⟨v_65, ev_65⟩ : ∃ z : Int32, z = f_55 0 16 := ⟨_, rfl⟩
      have q_66 : 0 ≤ v_65.toInt ∧ v_65.toInt ≤ 6 := by rw [ev_65]; exact hI 0 16
      have q_67 : (f_55 0 16).toInt = v_65.toInt := (congrArg Int32.toInt (show f_55 0 16 = v_65 from ev_65.symm))
      obtain ⟨v_68, ev_68⟩ : ∃ z : Int32, z = f_55 0 15 := ⟨_, rfl⟩
      have q_69 : (-1) ≤ v_68.toInt ∧ v_68.toInt ≤ 120 := by rw [ev_68]; exact hI 0 15
      have q_70 : (f_55 0 15).toInt = v_68.toInt := (congrArg Int32.toInt (show f_55 0 15 = v_68 from ev_68.symm))
      have q_71 : (f_55 0 16).toInt = v_65.toInt := (congrArg Int32.toInt (show f_55 0 16 = v_65 from ev_65.symm))
      refine lv_istore_n (lv' := [(3, .int r_58), (2, .int r_38), (1, .int r_17), (0, .ref (h 0))]) hx hb dX12_compared_51 rfl hl (by decide) rfl (fun ls hl => ?_)
      refine lv_iload_n hx hb dX12_compared_52 rfl (lv_at hl 1 rfl) ?_
      refine lv_bipush (v := 60) hx hb dX12_compared_53 (by decide) ?_
      refine lv_icmp_ne (tgt := 66) hx hb dX12_compared_55 (by decide) (fun c => ?_) (fun c => ?_)
      · skip
        exfalso; have c_72 : r_38.toInt ≠ 60 := (by have z := bn_ne c; have k1 : (60 : Int32).toInt = 60 := (by decide); omega); omega
      · skip
        have c_73 : r_38.toInt = 60 := (by have z := Int32.toInt_inj.mpr c; have k1 : (60 : Int32).toInt = 60 := (by decide); omega)
        refine lv_iload_n hx hb dX12_compared_58 rfl (lv_at hl 2 rfl) ?_
        refine lv_iload_n hx hb dX12_compared_59 rfl (lv_at hl 0 rfl) ?_
        refine lv_icmp_ge (tgt := 89) hx hb dX12_compared_60 (by decide) (fun c => ?_) (fun c => ?_)
        · skip
          have c_74 : r_58.toInt ≤ r_17.toInt := (by have z := bn_le c; omega)
          refine lv_iconst (v := 0) hx hb dX12_compared_89 (by decide) ?_
          have q_76 : (f_55 0 13).toInt = v_62.toInt := (congrArg Int32.toInt (show f_55 0 13 = v_62 from ev_62.symm))
          have q_77 : (f_55 0 16).toInt = v_65.toInt := (congrArg Int32.toInt (show f_55 0 16 = v_65 from ev_65.symm))
          have q_78 : (f_55 0 15).toInt = v_68.toInt := (congrArg Int32.toInt (show f_55 0 15 = v_68 from ev_68.symm))
          have q_79 : (f_55 0 16).toInt = v_65.toInt := (congrArg Int32.toInt (show f_55 0 16 = v_65 from ev_65.symm))
          have k99 : (0 : Int32).toInt = 0 := (by decide)
          exact hret _ _ _ _ (0) f_55 L Q dX12_compared_90 hP hS ⟨⟨hI, hF, rfl, rfl⟩, trivial, (by omega), (by omega), (by omega)⟩
        · skip
          have c_75 : r_17.toInt < r_58.toInt := (by have z := bn_nle c; omega)
          refine lv_goto (tgt := 85) hx hb dX12_compared_63 (by decide) ?_
          refine lv_iconst (v := 1) hx hb dX12_compared_85 (by decide) ?_
          refine lv_goto (tgt := 90) hx hb dX12_compared_86 (by decide) ?_
          have q_80 : (f_55 0 13).toInt = v_62.toInt := (congrArg Int32.toInt (show f_55 0 13 = v_62 from ev_62.symm))
          have q_81 : (f_55 0 16).toInt = v_65.toInt := (congrArg Int32.toInt (show f_55 0 16 = v_65 from ev_65.symm))
          have q_82 : (f_55 0 15).toInt = v_68.toInt := (congrArg Int32.toInt (show f_55 0 15 = v_68 from ev_68.symm))
          have q_83 : (f_55 0 16).toInt = v_65.toInt := (congrArg Int32.toInt (show f_55 0 16 = v_65 from ev_65.symm))
          have k99 : (1 : Int32).toInt = 1 := (by decide)
          exact hret _ _ _ _ (1) f_55 L Q dX12_compared_90 hP hS ⟨⟨hI, hF, rfl, rfl⟩, trivial, (by omega), (by omega), (by omega)⟩
    · skip
      have c_47 : r_38.toInt ≠ 60 := (by have z := bn_ne c; have k1 : (60 : Int32).toInt = 60 := (by decide); omega)
      refine lv_iload_n hx hb dX12_compared_23 rfl (lv_at hl 0 rfl) ?_
      refine lv_bipush (v := 61) hx hb dX12_compared_24 (by decide) ?_
      refine lv_icmp_eq (tgt := 37) hx hb dX12_compared_26 (by decide) (fun c => ?_) (fun c => ?_)
      · skip
        have c_84 : r_38.toInt = 61 := (by have z := Int32.toInt_inj.mpr c; have k1 : (61 : Int32).toInt = 61 := (by decide); omega)
        refine lv_aload_n hx hb dX12_compared_37 rfl (lv_at hl 2 rfl) ?_
        refine lv_dup hx hb dX12_compared_38 rfl ?_
        refine sg_get (ci := 12) (v := .int v_21) (C := RX12) (T := TX12) (N := 55) hx hb hts (fun w h => List.mem_cons_of_mem _ (gx_12 w h)) hown hK hP 0 (by decide) rfl rfl 13 (by decide) (hts _ (List.mem_cons_of_mem _ mw_625)) (fun _ h9 => h9) (congrArg (fun z => some (Value.int z)) (show f_14 0 13 = v_21 from ev_21.symm)) dX12_compared_39 ?_
        refine lv_iconst (v := 1) hx hb dX12_compared_42 (by decide) ?_
        refine lv_iadd hx hb dX12_compared_43 ?_
        refine lv_topi (fun v_86 ev_86 => ?_)
        have q_87 : v_86.toInt = v_21.toInt + 1 := by rw [ev_86]; have k1 : (1 : Int32).toInt = 1 := (by decide); exact (bn_addI (by omega) (by omega)).trans (by omega)
        refine sg_put (ci := 12) (x := v_86) (ty := .int) (C := RX12) (T := TX12) (N := 55) hx hb hts (fun w h => List.mem_cons_of_mem _ (gx_12 w h)) tyX12 tyX12_ok nmX12 hown hh hA hK hP hS 0 (by decide) rfl rfl 13 (by decide) (hts _ (List.mem_cons_of_mem _ mw_625)) (fun _ h9 => h9) rfl rfl (by decide +kernel) rfl rfl (Nat.le_of_ble_eq_true rfl) dX12_compared_44 (fun f_88 H locs ef_88 hP hS => ?_)
        have hI : sgI loM hiM f_88 := by rw [ef_88]; exact sgI.put hI 0 13 (show 0 ≤ (v_86 : Int32).toInt ∧ (v_86 : Int32).toInt ≤ 120 from by omega)
        have hF : sgK WkX12_compared_4 f f_88 := sgK.put hF ef_88 (by rfl)
        refine lv_aload_n hx hb dX12_compared_47 rfl (lv_at hl 2 rfl) ?_
        have q_89 : (f_88 0 16).toInt = v_24.toInt := (congrArg Int32.toInt (show f_88 0 16 = v_24 from (by rw [ef_88, sg_up_s, sgu_n (by decide)]; exact ev_24.symm)))
        have q_90 : (f_88 0 15).toInt = v_27.toInt := (congrArg Int32.toInt (show f_88 0 15 = v_27 from (by rw [ef_88, sg_up_s, sgu_n (by decide)]; exact ev_27.symm)))
        have q_91 : (f_88 0 16).toInt = v_24.toInt := (congrArg Int32.toInt (show f_88 0 16 = v_24 from (by rw [ef_88, sg_up_s, sgu_n (by decide)]; exact ev_24.symm)))
        have q_92 : (f_88 0 13).toInt = v_86.toInt := (congrArg Int32.toInt (show f_88 0 13 = v_86 from (by rw [ef_88, sg_up_s, sgu_s])))
        refine sg_calli (va_runV (As := []) (rest := []) ⟨hx, hb, hml, hown, hts⟩ (kX12_sums_4 l D ca za h hh f_88 L Q hI (by omega) (by omega) H.size) (cwV 0 hts (gw_V (fun _ h => List.mem_cons_of_mem _ h) mw_852 mw_853 mw_854 mw_619 mw_851) rfl rfl rfl (by decide +kernel) ⟨Nat.le_of_ble_eq_true rfl, Nat.le_of_ble_eq_true rfl⟩) (sg_preV (ci := 12) (C := RX12) (T := TX12) (N := 55) hA hK hP hS hZ 0 (by decide) rfl rfl) rfl rfl hl.1 rfl (lv_room (Nat.le_of_ble_eq_true rfl)) dX12_compared_48 ⟨Nat.le_refl _, Nat.le_refl _⟩) hA hS (fun r_96 f_93 L_94 Q_95 H locs hq hP hS => ?_)
        obtain ⟨⟨hI, hk_f_93, eL9, eQ9⟩, hq, p_97, p_98, p_99⟩ := hq
        rw [eL9, eQ9] at hP; clear eL9 eQ9
        have hF : sgK WkX12_compared_4 f f_93 := sgK.tr hF hk_f_93 (by decide)
        obtain ⟨v_100, ev_100⟩ : ∃ z : Int32, z = f_93 0 13 := ⟨_, rfl⟩
        have q_101 : 0 ≤ v_100.toInt ∧ v_100.toInt ≤ 120 := by rw [ev_100]; exact hI 0 13
        have q_102 : (f_93 0 13).toInt = v_100.toInt := (congrArg Int32.toInt (show f_93 0 13 = v_100 from ev_100.symm))
        obtain ⟨v_103, ev_103⟩ : ∃ z : Int32, z = f_93 0 16 := ⟨_, rfl⟩
        have q_104 : 0 ≤ v_103.toInt ∧ v_103.toInt ≤ 6 := by rw [ev_103]; exact hI 0 16
        have q_105 : (f_93 0 16).toInt = v_103.toInt := (congrArg Int32.toInt (show f_93 0 16 = v_103 from ev_103.symm))
        obtain ⟨v_106, ev_106⟩ : ∃ z : Int32, z = f_93 0 15 := ⟨_, rfl⟩
        have q_107 : (-1) ≤ v_106.toInt ∧ v_106.toInt ≤ 120 := by rw [ev_106]; exact hI 0 15
        have q_108 : (f_93 0 15).toInt = v_106.toInt := (congrArg Int32.toInt (show f_93 0 15 = v_106 from ev_106.symm))
        have q_109 : (f_93 0 16).toInt = v_103.toInt := (congrArg Int32.toInt (show f_93 0 16 = v_103 from ev_103.symm))
        refine lv_istore_n (lv' := [(3, .int r_96), (2, .int r_38), (1, .int r_17), (0, .ref (h 0))]) hx hb dX12_compared_51 rfl hl (by decide) rfl (fun ls hl => ?_)
        refine lv_iload_n hx hb dX12_compared_52 rfl (lv_at hl 1 rfl) ?_
        refine lv_bipush (v := 60) hx hb dX12_compared_53 (by decide) ?_
        refine lv_icmp_ne (tgt := 66) hx hb dX12_compared_55 (by decide) (fun c => ?_) (fun c => ?_)
        · skip
          have c_110 : r_38.toInt ≠ 60 := (by have z := bn_ne c; have k1 : (60 : Int32).toInt = 60 := (by decide); omega)
          refine lv_iload_n hx hb dX12_compared_66 rfl (lv_at hl 1 rfl) ?_
          refine lv_bipush (v := 61) hx hb dX12_compared_67 (by decide) ?_
          refine lv_icmp_ne (tgt := 80) hx hb dX12_compared_69 (by decide) (fun c => ?_) (fun c => ?_)
          · skip
            exfalso; have c_112 : r_38.toInt ≠ 61 := (by have z := bn_ne c; have k1 : (61 : Int32).toInt = 61 := (by decide); omega); omega
          · skip
            have c_113 : r_38.toInt = 61 := (by have z := Int32.toInt_inj.mpr c; have k1 : (61 : Int32).toInt = 61 := (by decide); omega)
            refine lv_iload_n hx hb dX12_compared_72 rfl (lv_at hl 2 rfl) ?_
            refine lv_iload_n hx hb dX12_compared_73 rfl (lv_at hl 0 rfl) ?_
            refine lv_icmp_ne (tgt := 89) hx hb dX12_compared_74 (by decide) (fun c => ?_) (fun c => ?_)
            · skip
              have c_114 : r_17.toInt ≠ r_96.toInt := (by have z := bn_ne c; omega)
              refine lv_iconst (v := 0) hx hb dX12_compared_89 (by decide) ?_
              have q_116 : (f_93 0 13).toInt = v_100.toInt := (congrArg Int32.toInt (show f_93 0 13 = v_100 from ev_100.symm))
              have q_117 : (f_93 0 16).toInt = v_103.toInt := (congrArg Int32.toInt (show f_93 0 16 = v_103 from ev_103.symm))
              have q_118 : (f_93 0 15).toInt = v_106.toInt := (congrArg Int32.toInt (show f_93 0 15 = v_106 from ev_106.symm))
              have q_119 : (f_93 0 16).toInt = v_103.toInt := (congrArg Int32.toInt (show f_93 0 16 = v_103 from ev_103.symm))
              have k99 : (0 : Int32).toInt = 0 := (by decide)
              exact hret _ _ _ _ (0) f_93 L Q dX12_compared_90 hP hS ⟨⟨hI, hF, rfl, rfl⟩, trivial, (by omega), (by omega), (by omega)⟩
            · skip
              have c_115 : r_17.toInt = r_96.toInt := (by have z := Int32.toInt_inj.mpr c; omega)
              refine lv_goto (tgt := 85) hx hb dX12_compared_77 (by decide) ?_
              refine lv_iconst (v := 1) hx hb dX12_compared_85 (by decide) ?_
              refine lv_goto (tgt := 90) hx hb dX12_compared_86 (by decide) ?_
              have q_120 : (f_93 0 13).toInt = v_100.toInt := (congrArg Int32.toInt (show f_93 0 13 = v_100 from ev_100.symm))
              have q_121 : (f_93 0 16).toInt = v_103.toInt := (congrArg Int32.toInt (show f_93 0 16 = v_103 from ev_103.symm))
              have q_122 : (f_93 0 15).toInt = v_106.toInt := (congrArg Int32.toInt (show f_93 0 15 = v_106 from ev_106.symm))
              have q_123 : (f_93 0 16).toInt = v_103.toInt := (congrArg Int32.toInt (show f_93 0 16 = v_103 from ev_103.symm))
              have k99 : (1 : Int32).toInt = 1 := (by decide)
              exact hret _ _ _ _ (1) f_93 L Q dX12_compared_90 hP hS ⟨⟨hI, hF, rfl, rfl⟩, trivial, (by omega), (by omega), (by omega)⟩
        · skip
          exfalso; have c_111 : r_38.toInt = 60 := (by have z := Int32.toInt_inj.mpr c; have k1 : (60 : Int32).toInt = 60 := (by decide); omega); omega
      · skip
        have c_85 : r_38.toInt ≠ 61 := (by have z := bn_ne c; have k1 : (61 : Int32).toInt = 61 := (by decide); omega)
        refine lv_iload_n hx hb dX12_compared_29 rfl (lv_at hl 0 rfl) ?_
        refine lv_bipush (v := 62) hx hb dX12_compared_30 (by decide) ?_
        refine lv_icmp_eq (tgt := 37) hx hb dX12_compared_32 (by decide) (fun c => ?_) (fun c => ?_)
        · skip
          have c_124 : r_38.toInt = 62 := (by have z := Int32.toInt_inj.mpr c; have k1 : (62 : Int32).toInt = 62 := (by decide); omega)
          refine lv_aload_n hx hb dX12_compared_37 rfl (lv_at hl 2 rfl) ?_
          refine lv_dup hx hb dX12_compared_38 rfl ?_
          refine sg_get (ci := 12) (v := .int v_21) (C := RX12) (T := TX12) (N := 55) hx hb hts (fun w h => List.mem_cons_of_mem _ (gx_12 w h)) hown hK hP 0 (by decide) rfl rfl 13 (by decide) (hts _ (List.mem_cons_of_mem _ mw_625)) (fun _ h9 => h9) (congrArg (fun z => some (Value.int z)) (show f_14 0 13 = v_21 from ev_21.symm)) dX12_compared_39 ?_
          refine lv_iconst (v := 1) hx hb dX12_compared_42 (by decide) ?_
          refine lv_iadd hx hb dX12_compared_43 ?_
          refine lv_topi (fun v_126 ev_126 => ?_)
          have q_127 : v_126.toInt = v_21.toInt + 1 := by rw [ev_126]; have k1 : (1 : Int32).toInt = 1 := (by decide); exact (bn_addI (by omega) (by omega)).trans (by omega)
          refine sg_put (ci := 12) (x := v_126) (ty := .int) (C := RX12) (T := TX12) (N := 55) hx hb hts (fun w h => List.mem_cons_of_mem _ (gx_12 w h)) tyX12 tyX12_ok nmX12 hown hh hA hK hP hS 0 (by decide) rfl rfl 13 (by decide) (hts _ (List.mem_cons_of_mem _ mw_625)) (fun _ h9 => h9) rfl rfl (by decide +kernel) rfl rfl (Nat.le_of_ble_eq_true rfl) dX12_compared_44 (fun f_128 H locs ef_128 hP hS => ?_)
          have hI : sgI loM hiM f_128 := by rw [ef_128]; exact sgI.put hI 0 13 (show 0 ≤ (v_126 : Int32).toInt ∧ (v_126 : Int32).toInt ≤ 120 from by omega)
          have hF : sgK WkX12_compared_4 f f_128 := sgK.put hF ef_128 (by rfl)
          refine lv_aload_n hx hb dX12_compared_47 rfl (lv_at hl 2 rfl) ?_
          have q_129 : (f_128 0 16).toInt = v_24.toInt := (congrArg Int32.toInt (show f_128 0 16 = v_24 from (by rw [ef_128, sg_up_s, sgu_n (by decide)]; exact ev_24.symm)))
          have q_130 : (f_128 0 15).toInt = v_27.toInt := (congrArg Int32.toInt (show f_128 0 15 = v_27 from (by rw [ef_128, sg_up_s, sgu_n (by decide)]; exact ev_27.symm)))
          have q_131 : (f_128 0 16).toInt = v_24.toInt := (congrArg Int32.toInt (show f_128 0 16 = v_24 from (by rw [ef_128, sg_up_s, sgu_n (by decide)]; exact ev_24.symm)))
          have q_132 : (f_128 0 13).toInt = v_126.toInt := (congrArg Int32.toInt (show f_128 0 13 = v_126 from (by rw [ef_128, sg_up_s, sgu_s])))
          refine sg_calli (va_runV (As := []) (rest := []) ⟨hx, hb, hml, hown, hts⟩ (kX12_sums_4 l D ca za h hh f_128 L Q hI (by omega) (by omega) H.size) (cwV 0 hts (gw_V (fun _ h => List.mem_cons_of_mem _ h) mw_852 mw_853 mw_854 mw_619 mw_851) rfl rfl rfl (by decide +kernel) ⟨Nat.le_of_ble_eq_true rfl, Nat.le_of_ble_eq_true rfl⟩) (sg_preV (ci := 12) (C := RX12) (T := TX12) (N := 55) hA hK hP hS hZ 0 (by decide) rfl rfl) rfl rfl hl.1 rfl (lv_room (Nat.le_of_ble_eq_true rfl)) dX12_compared_48 ⟨Nat.le_refl _, Nat.le_refl _⟩) hA hS (fun r_136 f_133 L_134 Q_135 H locs hq hP hS => ?_)
          obtain ⟨⟨hI, hk_f_133, eL9, eQ9⟩, hq, p_137, p_138, p_139⟩ := hq
          rw [eL9, eQ9] at hP; clear eL9 eQ9
          have hF : sgK WkX12_compared_4 f f_133 := sgK.tr hF hk_f_133 (by decide)
          obtain ⟨v_140, ev_140⟩ : ∃ z : Int32, z = f_133 0 13 := ⟨_, rfl⟩
          have q_141 : 0 ≤ v_140.toInt ∧ v_140.toInt ≤ 120 := by rw [ev_140]; exact hI 0 13
          have q_142 : (f_133 0 13).toInt = v_140.toInt := (congrArg Int32.toInt (show f_133 0 13 = v_140 from ev_140.symm))
          obtain ⟨v_143, ev_143⟩ : ∃ z : Int32, z = f_133 0 16 := ⟨_, rfl⟩
          have q_144 : 0 ≤ v_143.toInt ∧ v_143.toInt ≤ 6 := by rw [ev_143]; exact hI 0 16
          have q_145 : (f_133 0 16).toInt = v_143.toInt := (congrArg Int32.toInt (show f_133 0 16 = v_143 from ev_143.symm))
          obtain ⟨v_146, ev_146⟩ : ∃ z : Int32, z = f_133 0 15 := ⟨_, rfl⟩
          have q_147 : (-1) ≤ v_146.toInt ∧ v_146.toInt ≤ 120 := by rw [ev_146]; exact hI 0 15
          have q_148 : (f_133 0 15).toInt = v_146.toInt := (congrArg Int32.toInt (show f_133 0 15 = v_146 from ev_146.symm))
          have q_149 : (f_133 0 16).toInt = v_143.toInt := (congrArg Int32.toInt (show f_133 0 16 = v_143 from ev_143.symm))
          refine lv_istore_n (lv' := [(3, .int r_136), (2, .int r_38), (1, .int r_17), (0, .ref (h 0))]) hx hb dX12_compared_51 rfl hl (by decide) rfl (fun ls hl => ?_)
          refine lv_iload_n hx hb dX12_compared_52 rfl (lv_at hl 1 rfl) ?_
          refine lv_bipush (v := 60) hx hb dX12_compared_53 (by decide) ?_
          refine lv_icmp_ne (tgt := 66) hx hb dX12_compared_55 (by decide) (fun c => ?_) (fun c => ?_)
          · skip
            have c_150 : r_38.toInt ≠ 60 := (by have z := bn_ne c; have k1 : (60 : Int32).toInt = 60 := (by decide); omega)
            refine lv_iload_n hx hb dX12_compared_66 rfl (lv_at hl 1 rfl) ?_
            refine lv_bipush (v := 61) hx hb dX12_compared_67 (by decide) ?_
            refine lv_icmp_ne (tgt := 80) hx hb dX12_compared_69 (by decide) (fun c => ?_) (fun c => ?_)
            · skip
              have c_152 : r_38.toInt ≠ 61 := (by have z := bn_ne c; have k1 : (61 : Int32).toInt = 61 := (by decide); omega)
              refine lv_iload_n hx hb dX12_compared_80 rfl (lv_at hl 2 rfl) ?_
              refine lv_iload_n hx hb dX12_compared_81 rfl (lv_at hl 0 rfl) ?_
              refine lv_icmp_le (tgt := 89) hx hb dX12_compared_82 (by decide) (fun c => ?_) (fun c => ?_)
              · skip
                have c_154 : r_17.toInt ≤ r_136.toInt := (by have z := bn_le c; omega)
                refine lv_iconst (v := 0) hx hb dX12_compared_89 (by decide) ?_
                have q_156 : (f_133 0 13).toInt = v_140.toInt := (congrArg Int32.toInt (show f_133 0 13 = v_140 from ev_140.symm))
                have q_157 : (f_133 0 16).toInt = v_143.toInt := (congrArg Int32.toInt (show f_133 0 16 = v_143 from ev_143.symm))
                have q_158 : (f_133 0 15).toInt = v_146.toInt := (congrArg Int32.toInt (show f_133 0 15 = v_146 from ev_146.symm))
                have q_159 : (f_133 0 16).toInt = v_143.toInt := (congrArg Int32.toInt (show f_133 0 16 = v_143 from ev_143.symm))
                have k99 : (0 : Int32).toInt = 0 := (by decide)
                exact hret _ _ _ _ (0) f_133 L Q dX12_compared_90 hP hS ⟨⟨hI, hF, rfl, rfl⟩, trivial, (by omega), (by omega), (by omega)⟩
              · skip
                have c_155 : r_136.toInt < r_17.toInt := (by have z := bn_nle c; omega)
                refine lv_iconst (v := 1) hx hb dX12_compared_85 (by decide) ?_
                refine lv_goto (tgt := 90) hx hb dX12_compared_86 (by decide) ?_
                have q_160 : (f_133 0 13).toInt = v_140.toInt := (congrArg Int32.toInt (show f_133 0 13 = v_140 from ev_140.symm))
                have q_161 : (f_133 0 16).toInt = v_143.toInt := (congrArg Int32.toInt (show f_133 0 16 = v_143 from ev_143.symm))
                have q_162 : (f_133 0 15).toInt = v_146.toInt := (congrArg Int32.toInt (show f_133 0 15 = v_146 from ev_146.symm))
                have q_163 : (f_133 0 16).toInt = v_143.toInt := (congrArg Int32.toInt (show f_133 0 16 = v_143 from ev_143.symm))
                have k99 : (1 : Int32).toInt = 1 := (by decide)
                exact hret _ _ _ _ (1) f_133 L Q dX12_compared_90 hP hS ⟨⟨hI, hF, rfl, rfl⟩, trivial, (by omega), (by omega), (by omega)⟩
            · skip
              exfalso; have c_153 : r_38.toInt = 61 := (by have z := Int32.toInt_inj.mpr c; have k1 : (61 : Int32).toInt = 61 := (by decide); omega); omega
          · skip
            exfalso; have c_151 : r_38.toInt = 60 := (by have z := Int32.toInt_inj.mpr c; have k1 : (60 : Int32).toInt = 60 := (by decide); omega); omega
        · skip
          have c_125 : r_38.toInt ≠ 62 := (by have z := bn_ne c; have k1 : (62 : Int32).toInt = 62 := (by decide); omega)
          refine lv_iload_n hx hb dX12_compared_35 rfl (lv_at hl 1 rfl) ?_
          have q_164 : (f_14 0 13).toInt = v_21.toInt := (congrArg Int32.toInt (show f_14 0 13 = v_21 from ev_21.symm))
          have q_165 : (f_14 0 16).toInt = v_24.toInt := (congrArg Int32.toInt (show f_14 0 16 = v_24 from ev_24.symm))
          have q_166 : (f_14 0 15).toInt = v_27.toInt := (congrArg Int32.toInt (show f_14 0 15 = v_27 from ev_27.symm))
          have q_167 : (f_14 0 16).toInt = v_24.toInt := (congrArg Int32.toInt (show f_14 0 16 = v_24 from ev_24.symm))
          exact hret _ _ _ _ (r_17) f_14 L Q dX12_compared_36 hP hS ⟨⟨hI, hF, rfl, rfl⟩, trivial, (by omega), (by omega), (by omega)⟩

abbrev WkX12_both_4 : List (Nat × Nat × Option Nat) := [(0, 0, some 13), (0, 0, some 15), (0, 0, some 16)]
set_option maxHeartbeats 4000000 in
set_option maxRecDepth 100000 in
theorem kX12_both_4 (l : Launch) (D : va_G) (ca : Nat → ClassId) (za h : Nat → Nat) (hh : sgH 26 h) (f : sg_F) (L : sg_L) (Q : sg_Q) (hI : sgI loM hiM f) (p0 : 4 ≤ (f 0 16).toInt) (p1 : 0 ≤ (f 0 15).toInt ∨ (f 0 16).toInt = 4) (sz : Nat) : Met l yX12_both gwX12_both { frames := 17, cells := 0, slots := 0, locals := 387 } (sgP D vwCl (tyX ca) 26 h (eM ca h) zcM za f L Q sz [.ref (h 0)]) (sgQi D vwCl 26 h (eM ca h) sz (fun r f1 L1 Q1 => ((sgI loM hiM f1 ∧ sgK WkX12_both_4 f f1 ∧ L1 = L ∧ Q1 = Q) ∧ True ∧ ((f 0 13).toInt ≤ (f1 0 13).toInt) ∧ (4 ≤ (f1 0 16).toInt) ∧ (0 ≤ (f1 0 15).toInt ∨ (f1 0 16).toInt = 4)))) 0 0 (sgA 26 h sz) := by
  refine sg_ofWi (cc := cX12_both) (maxL := 3) RX12 (by decide) rfl rfl (Nat.le_of_ble_eq_true rfl) ?_
  intro p e s m below meth cd Qz ls hx hb hml hown hts hK hZ hP hS hl hret
  have hA := sgY.self (n := 26) (h := h) (sz := s.heap.size)
  have hl : lv_has ls 3 [(0, .ref (h 0))] := hl
  obtain ⟨H, hH⟩ : ∃ z : Heap, z = s.heap := ⟨_, rfl⟩
  obtain ⟨locs, hlo⟩ : ∃ z : List Loc, z = [] := ⟨_, rfl⟩
  have hP : va_P D vwCl (sgw 26 h (eM ca h) f L Q) H := by rw [hH]; exact hP
  have hS : va_S (sgA 26 h s.heap.size) s.heap H locs := by rw [hH, hlo]; exact hS
  suffices hgo : W p l e ({ frames := 17, cells := 0, slots := 0, locals := 387 }) s m ([.ref (h 0)] : List Value).toArray below meth cd H locs 0 0 Qz (F0 m 0 ls []) by rw [hH, hlo] at hgo; exact hgo
  clear hH hlo
  obtain ⟨v_1, ev_1⟩ : ∃ z : Int32, z = f 0 16 := ⟨_, rfl⟩
  have q_2 : 0 ≤ v_1.toInt ∧ v_1.toInt ≤ 6 := by rw [ev_1]; exact hI 0 16
  obtain ⟨v_3, ev_3⟩ : ∃ z : Int32, z = f 0 15 := ⟨_, rfl⟩
  have q_4 : (-1) ≤ v_3.toInt ∧ v_3.toInt ≤ 120 := by rw [ev_3]; exact hI 0 15
  obtain ⟨v_5, ev_5⟩ : ∃ z : Int32, z = f 0 13 := ⟨_, rfl⟩
  have q_6 : 0 ≤ v_5.toInt ∧ v_5.toInt ≤ 120 := by rw [ev_5]; exact hI 0 13
  have o_7 : (f 0 16).toInt = v_1.toInt := (congrArg Int32.toInt (show f 0 16 = v_1 from ev_1.symm))
  have o_8 : (f 0 15).toInt = v_3.toInt := (congrArg Int32.toInt (show f 0 15 = v_3 from ev_3.symm))
  have o_9 : (f 0 13).toInt = v_5.toInt := (congrArg Int32.toInt (show f 0 13 = v_5 from ev_5.symm))
  have hF : sgK WkX12_both_4 f f := sgK.rf
  have loop_5 : ∀ (n_5 : Nat) (y1_5 : Int32) (fp_5 : sg_F) (H : Heap) (locs : List Loc) (ls : Array Slot), 120 - (fp_5 0 13).toInt < (n_5 : Int) → (f 0 13).toInt ≤ (fp_5 0 13).toInt → 4 ≤ (fp_5 0 16).toInt → 0 ≤ (fp_5 0 15).toInt ∨ (fp_5 0 16).toInt = 4 → sgI loM hiM fp_5 → sgK WkX12_both_4 f fp_5 → va_P D vwCl (sgw 26 h (eM ca h) fp_5 L Q) H → va_S (sgA 26 h s.heap.size) s.heap H locs → lv_has ls 3 [(0, .ref (h 0)), (1, .int y1_5)] → W p l e ({ frames := 17, cells := 0, slots := 0, locals := 387 }) s m ([.ref (h 0)] : List Value).toArray below meth cd H locs 0 0 Qz (F0 m 5 ls []) := by
    intro n_5
    induction n_5 with
    | zero => intro y1_5 fp_5 H locs ls hm_5 hg0_5 hg1_5 hg2_5 hI hF hP hS hl; have zb := (show 0 ≤ (fp_5 0 13).toInt ∧ (fp_5 0 13).toInt ≤ 120 from hI 0 13); exact absurd hm_5 (by omega)
    | succ n_5 ih_5 =>
      intro y1_5 fp_5 H locs ls hm_5 hg0_5 hg1_5 hg2_5 hI hF hP hS hl
      obtain ⟨v_10, ev_10⟩ : ∃ z : Int32, z = fp_5 0 13 := ⟨_, rfl⟩
      have q_11 : 0 ≤ v_10.toInt ∧ v_10.toInt ≤ 120 := by rw [ev_10]; exact hI 0 13
      have q_12 : (fp_5 0 13).toInt = v_10.toInt := by rw [ev_10]
      obtain ⟨v_13, ev_13⟩ : ∃ z : Int32, z = fp_5 0 16 := ⟨_, rfl⟩
      have q_14 : 0 ≤ v_13.toInt ∧ v_13.toInt ≤ 6 := by rw [ev_13]; exact hI 0 16
      have q_15 : (fp_5 0 16).toInt = v_13.toInt := by rw [ev_13]
      obtain ⟨v_16, ev_16⟩ : ∃ z : Int32, z = fp_5 0 15 := ⟨_, rfl⟩
      have q_17 : (-1) ≤ v_16.toInt ∧ v_16.toInt ≤ 120 := by rw [ev_16]; exact hI 0 15
      have q_18 : (fp_5 0 15).toInt = v_16.toInt := by rw [ev_16]
      refine lv_aload_n hx hb dX12_both_5 rfl (lv_at hl 0 rfl) ?_
      refine lv_bipush (v := 38) hx hb dX12_both_6 (by decide) ?_
      have q_19 : (fp_5 0 15).toInt = v_16.toInt := (congrArg Int32.toInt (show fp_5 0 15 = v_16 from ev_16.symm))
      have q_20 : (fp_5 0 13).toInt = v_10.toInt := (congrArg Int32.toInt (show fp_5 0 13 = v_10 from ev_10.symm))
      obtain ⟨v_21, ev_21⟩ : ∃ z : Int32, z = fp_5 0 14 := ⟨_, rfl⟩
      have q_22 : 0 ≤ v_21.toInt ∧ v_21.toInt ≤ 120 := by rw [ev_21]; exact hI 0 14
      have q_23 : (fp_5 0 14).toInt = v_21.toInt := (congrArg Int32.toInt (show fp_5 0 14 = v_21 from ev_21.symm))
      have q_24 : (fp_5 0 13).toInt = v_10.toInt := (congrArg Int32.toInt (show fp_5 0 13 = v_10 from ev_10.symm))
      have q_25 : (fp_5 0 13).toInt = v_10.toInt := (congrArg Int32.toInt (show fp_5 0 13 = v_10 from ev_10.symm))
      refine sg_calli (va_runV (As := [.int 38]) (rest := []) ⟨hx, hb, hml, hown, hts⟩ (kX12_takes_38 l D ca za h hh fp_5 L Q hI H.size) (cwV 1 hts (gw_V (fun _ h => List.mem_cons_of_mem _ h) mw_877 mw_878 mw_879 mw_619 mw_876) rfl rfl rfl (by decide +kernel) ⟨Nat.le_of_ble_eq_true rfl, Nat.le_of_ble_eq_true rfl⟩) (sg_preV (ci := 12) (C := RX12) (T := TX12) (N := 55) hA hK hP hS hZ 0 (by decide) rfl rfl) rfl rfl hl.1 rfl (lv_room (Nat.le_of_ble_eq_true rfl)) dX12_both_8 ⟨Nat.le_refl _, Nat.le_refl _⟩) hA hS (fun r_29 f_26 L_27 Q_28 H locs hq hP hS => ?_)
      obtain ⟨⟨hI, hk_f_26, eL9, eQ9⟩, hq⟩ := hq
      rw [eL9, eQ9] at hP; clear eL9 eQ9
      have hF : sgK WkX12_both_4 f f_26 := sgK.tr hF hk_f_26 (by decide)
      obtain ⟨v_30, ev_30⟩ : ∃ z : Int32, z = f_26 0 13 := ⟨_, rfl⟩
      have q_31 : 0 ≤ v_30.toInt ∧ v_30.toInt ≤ 120 := by rw [ev_30]; exact hI 0 13
      have q_32 : (f_26 0 13).toInt = v_30.toInt := (congrArg Int32.toInt (show f_26 0 13 = v_30 from ev_30.symm))
      have q_33 : (f_26 0 13).toInt = v_30.toInt := (congrArg Int32.toInt (show f_26 0 13 = v_30 from ev_30.symm))
      have k_34 : (38 : Int32).toInt = 38 := by decide
      rcases hq with ⟨rfl, hq⟩ | ⟨rfl, hq⟩
      · skip
        have q_35 := hq
        refine lv_if_eq (tgt := 36) hx hb dX12_both_11 (by decide) (fun c => absurd c (by decide)) (fun c => ?_)
        refine lv_aload_n hx hb dX12_both_14 rfl (lv_at hl 0 rfl) ?_
        have q_36 : (f_26 0 16).toInt = v_13.toInt := (congrArg Int32.toInt (show f_26 0 16 = v_13 from ((hk_f_26 0 16 (by decide)).trans ev_13.symm)))
        have q_37 : (f_26 0 15).toInt = v_16.toInt := (congrArg Int32.toInt (show f_26 0 15 = v_16 from ((hk_f_26 0 15 (by decide)).trans ev_16.symm)))
        have q_38 : (f_26 0 16).toInt = v_13.toInt := (congrArg Int32.toInt (show f_26 0 16 = v_13 from ((hk_f_26 0 16 (by decide)).trans ev_13.symm)))
        have q_39 : (f_26 0 13).toInt = v_30.toInt := (congrArg Int32.toInt (show f_26 0 13 = v_30 from ev_30.symm))
        refine sg_calli (va_runV (As := []) (rest := []) ⟨hx, hb, hml, hown, hts⟩ (kX12_compared_4 l D ca za h hh f_26 L Q hI (by omega) (by omega) H.size) (cwV 0 hts (gw_V (fun _ h => List.mem_cons_of_mem _ h) mw_856 mw_857 mw_858 mw_619 mw_855) rfl rfl rfl (by decide +kernel) ⟨Nat.le_of_ble_eq_true rfl, Nat.le_of_ble_eq_true rfl⟩) (sg_preV (ci := 12) (C := RX12) (T := TX12) (N := 55) hA hK hP hS hZ 0 (by decide) rfl rfl) rfl rfl hl.1 rfl (lv_room (Nat.le_of_ble_eq_true rfl)) dX12_both_15 ⟨Nat.le_refl _, Nat.le_refl _⟩) hA hS (fun r_43 f_40 L_41 Q_42 H locs hq hP hS => ?_)
        obtain ⟨⟨hI, hk_f_40, eL9, eQ9⟩, hq, p_44, p_45, p_46⟩ := hq
        rw [eL9, eQ9] at hP; clear eL9 eQ9
        have hF : sgK WkX12_both_4 f f_40 := sgK.tr hF hk_f_40 (by decide)
        obtain ⟨v_47, ev_47⟩ : ∃ z : Int32, z = f_40 0 13 := ⟨_, rfl⟩
        have q_48 : 0 ≤ v_47.toInt ∧ v_47.toInt ≤ 120 := by rw [ev_47]; exact hI 0 13
        have q_49 : (f_40 0 13).toInt = v_47.toInt := (congrArg Int32.toInt (show f_40 0 13 = v_47 from ev_47.symm))
        obtain ⟨v_50, ev_50⟩ : ∃ z : Int32, z = f_40 0 16 := ⟨_, rfl⟩
        have q_51 : 0 ≤ v_50.toInt ∧ v_50.toInt ≤ 6 := by rw [ev_50]; exact hI 0 16
        have q_52 : (f_40 0 16).toInt = v_50.toInt := (congrArg Int32.toInt (show f_40 0 16 = v_50 from ev_50.symm))
        obtain ⟨v_53, ev_53⟩ : ∃ z : Int32, z = f_40 0 15 := ⟨_, rfl⟩
        have q_54 : (-1) ≤ v_53.toInt ∧ v_53.toInt ≤ 120 := by rw [ev_53]; exact hI 0 15
        have q_55 : (f_40 0 15).toInt = v_53.toInt := (congrArg Int32.toInt (show f_40 0 15 = v_53 from ev_53.symm))
        have q_56 : (f_40 0 16).toInt = v_50.toInt := (congrArg Int32.toInt (show f_40 0 16 = v_50 from ev_50.symm))
        refine lv_istore_n (lv' := [(2, .int r_43), (0, .ref (h 0)), (1, .int y1_5)]) hx hb dX12_both_18 rfl hl (by decide) rfl (fun ls hl => ?_)
        refine lv_iload_n hx hb dX12_both_19 rfl (lv_at hl 2 rfl) ?_
        refine lv_if_eq (tgt := 31) hx hb dX12_both_20 (by decide) (fun c => ?_) (fun c => ?_)
        · skip
          have c_57 : y1_5.toInt = 0 := (by have z := Int32.toInt_inj.mpr c; have k1 : (0 : Int32).toInt = 0 := (by decide); omega)
          refine lv_iconst (v := 0) hx hb dX12_both_31 (by decide) ?_
          refine lv_istore_n (lv' := [(1, .int 0), (2, .int r_43), (0, .ref (h 0))]) hx hb dX12_both_32 rfl hl (by decide) rfl (fun ls hl => ?_)
          refine lv_goto (tgt := 5) hx hb dX12_both_33 (by decide) ?_
          exact ih_5 0 f_40 _ _ _ (by have kc0 : (0 : Int32).toInt = 0 := (by decide); have zz0_13 : (f_40 0 13).toInt = v_47.toInt := (congrArg Int32.toInt (show f_40 0 13 = v_47 from ev_47.symm)); omega) (by have kc0 : (0 : Int32).toInt = 0 := (by decide); have zz0_13 : (f_40 0 13).toInt = v_47.toInt := (congrArg Int32.toInt (show f_40 0 13 = v_47 from ev_47.symm)); omega) (by have kc0 : (0 : Int32).toInt = 0 := (by decide); have zz0_16 : (f_40 0 16).toInt = v_50.toInt := (congrArg Int32.toInt (show f_40 0 16 = v_50 from ev_50.symm)); omega) (by have kc0 : (0 : Int32).toInt = 0 := (by decide); have zz0_15 : (f_40 0 15).toInt = v_53.toInt := (congrArg Int32.toInt (show f_40 0 15 = v_53 from ev_53.symm)); have zz0_16 : (f_40 0 16).toInt = v_50.toInt := (congrArg Int32.toInt (show f_40 0 16 = v_50 from ev_50.symm)); omega) hI hF hP hS (lv_sub hl [2, 0] rfl)
        · skip
          have c_58 : y1_5.toInt ≠ 0 := (by have z := bn_ne c; have k1 : (0 : Int32).toInt = 0 := (by decide); omega)
          refine lv_iload_n hx hb dX12_both_23 rfl (lv_at hl 0 rfl) ?_
          refine lv_if_eq (tgt := 31) hx hb dX12_both_24 (by decide) (fun c => ?_) (fun c => ?_)
          · skip
            have c_59 : r_43.toInt = 0 := (by have z := Int32.toInt_inj.mpr c; have k1 : (0 : Int32).toInt = 0 := (by decide); omega)
            refine lv_iconst (v := 0) hx hb dX12_both_31 (by decide) ?_
            refine lv_istore_n (lv' := [(1, .int 0), (2, .int r_43), (0, .ref (h 0))]) hx hb dX12_both_32 rfl hl (by decide) rfl (fun ls hl => ?_)
            refine lv_goto (tgt := 5) hx hb dX12_both_33 (by decide) ?_
            exact ih_5 0 f_40 _ _ _ (by have kc0 : (0 : Int32).toInt = 0 := (by decide); have zz0_13 : (f_40 0 13).toInt = v_47.toInt := (congrArg Int32.toInt (show f_40 0 13 = v_47 from ev_47.symm)); omega) (by have kc0 : (0 : Int32).toInt = 0 := (by decide); have zz0_13 : (f_40 0 13).toInt = v_47.toInt := (congrArg Int32.toInt (show f_40 0 13 = v_47 from ev_47.symm)); omega) (by have kc0 : (0 : Int32).toInt = 0 := (by decide); have zz0_16 : (f_40 0 16).toInt = v_50.toInt := (congrArg Int32.toInt (show f_40 0 16 = v_50 from ev_50.symm)); omega) (by have kc0 : (0 : Int32).toInt = 0 := (by decide); have zz0_15 : (f_40 0 15).toInt = v_53.toInt := (congrArg Int32.toInt (show f_40 0 15 = v_53 from ev_53.symm)); have zz0_16 : (f_40 0 16).toInt = v_50.toInt := (congrArg Int32.toInt (show f_40 0 16 = v_50 from ev_50.symm)); omega) hI hF hP hS (lv_sub hl [2, 0] rfl)
          · skip
            have c_60 : r_43.toInt ≠ 0 := (by have z := bn_ne c; have k1 : (0 : Int32).toInt = 0 := (by decide); omega)
            refine lv_iconst (v := 1) hx hb dX12_both_27 (by decide) ?_
            refine lv_goto (tgt := 32) hx hb dX12_both_28 (by decide) ?_
            refine lv_istore_n (lv' := [(1, .int 1), (2, .int r_43), (0, .ref (h 0))]) hx hb dX12_both_32 rfl hl (by decide) rfl (fun ls hl => ?_)
            refine lv_goto (tgt := 5) hx hb dX12_both_33 (by decide) ?_
            exact ih_5 1 f_40 _ _ _ (by have kc0 : (1 : Int32).toInt = 1 := (by decide); have zz0_13 : (f_40 0 13).toInt = v_47.toInt := (congrArg Int32.toInt (show f_40 0 13 = v_47 from ev_47.symm)); omega) (by have kc0 : (1 : Int32).toInt = 1 := (by decide); have zz0_13 : (f_40 0 13).toInt = v_47.toInt := (congrArg Int32.toInt (show f_40 0 13 = v_47 from ev_47.symm)); omega) (by have kc0 : (1 : Int32).toInt = 1 := (by decide); have zz0_16 : (f_40 0 16).toInt = v_50.toInt := (congrArg Int32.toInt (show f_40 0 16 = v_50 from ev_50.symm)); omega) (by have kc0 : (1 : Int32).toInt = 1 := (by decide); have zz0_15 : (f_40 0 15).toInt = v_53.toInt := (congrArg Int32.toInt (show f_40 0 15 = v_53 from ev_53.symm)); have zz0_16 : (f_40 0 16).toInt = v_50.toInt := (congrArg Int32.toInt (show f_40 0 16 = v_50 from ev_50.symm)); omega) hI hF hP hS (lv_sub hl [2, 0] rfl)
      · skip
        have q_61 := hq
        refine lv_if_eq (tgt := 36) hx hb dX12_both_11 (by decide) (fun c => ?_) (fun c => absurd c (by decide))
        refine lv_iload_n hx hb dX12_both_36 rfl (lv_at hl 1 rfl) ?_
        have q_62 : (f_26 0 13).toInt = v_30.toInt := (congrArg Int32.toInt (show f_26 0 13 = v_30 from ev_30.symm))
        have q_63 : (f_26 0 16).toInt = v_13.toInt := (congrArg Int32.toInt (show f_26 0 16 = v_13 from ((hk_f_26 0 16 (by decide)).trans ev_13.symm)))
        have q_64 : (f_26 0 15).toInt = v_16.toInt := (congrArg Int32.toInt (show f_26 0 15 = v_16 from ((hk_f_26 0 15 (by decide)).trans ev_16.symm)))
        have q_65 : (f_26 0 16).toInt = v_13.toInt := (congrArg Int32.toInt (show f_26 0 16 = v_13 from ((hk_f_26 0 16 (by decide)).trans ev_13.symm)))
        exact hret _ _ _ _ (y1_5) f_26 L Q dX12_both_37 hP hS ⟨⟨hI, hF, rfl, rfl⟩, trivial, (by omega), (by omega), (by omega)⟩
  refine lv_aload_n hx hb dX12_both_0 rfl (lv_at hl 0 rfl) ?_
  have q_66 : (f 0 16).toInt = v_1.toInt := (congrArg Int32.toInt (show f 0 16 = v_1 from ev_1.symm))
  have q_67 : (f 0 15).toInt = v_3.toInt := (congrArg Int32.toInt (show f 0 15 = v_3 from ev_3.symm))
  have q_68 : (f 0 16).toInt = v_1.toInt := (congrArg Int32.toInt (show f 0 16 = v_1 from ev_1.symm))
  have q_69 : (f 0 13).toInt = v_5.toInt := (congrArg Int32.toInt (show f 0 13 = v_5 from ev_5.symm))
  refine sg_calli (va_runV (As := []) (rest := []) ⟨hx, hb, hml, hown, hts⟩ (kX12_compared_4 l D ca za h hh f L Q hI (by omega) (by omega) H.size) (cwV 0 hts (gw_V (fun _ h => List.mem_cons_of_mem _ h) mw_856 mw_857 mw_858 mw_619 mw_855) rfl rfl rfl (by decide +kernel) ⟨Nat.le_of_ble_eq_true rfl, Nat.le_of_ble_eq_true rfl⟩) (sg_preV (ci := 12) (C := RX12) (T := TX12) (N := 55) hA hK hP hS hZ 0 (by decide) rfl rfl) rfl rfl hl.1 rfl (lv_room (Nat.le_of_ble_eq_true rfl)) dX12_both_1 ⟨Nat.le_refl _, Nat.le_refl _⟩) hA hS (fun r_73 f_70 L_71 Q_72 H locs hq hP hS => ?_)
  obtain ⟨⟨hI, hk_f_70, eL9, eQ9⟩, hq, p_74, p_75, p_76⟩ := hq
  rw [eL9, eQ9] at hP; clear eL9 eQ9
  have hF : sgK WkX12_both_4 f f_70 := sgK.tr hF hk_f_70 (by decide)
  obtain ⟨v_77, ev_77⟩ : ∃ z : Int32, z = f_70 0 13 := ⟨_, rfl⟩
  have q_78 : 0 ≤ v_77.toInt ∧ v_77.toInt ≤ 120 := by rw [ev_77]; exact hI 0 13
  have q_79 : (f_70 0 13).toInt = v_77.toInt := (congrArg Int32.toInt (show f_70 0 13 = v_77 from ev_77.symm))
  obtain ⟨v_80, ev_80⟩ : ∃ z : Int32, z = f_70 0 16 := ⟨_, rfl⟩
  have q_81 : 0 ≤ v_80.toInt ∧ v_80.toInt ≤ 6 := by rw [ev_80]; exact hI 0 16
  have q_82 : (f_70 0 16).toInt = v_80.toInt := (congrArg Int32.toInt (show f_70 0 16 = v_80 from ev_80.symm))
  obtain ⟨v_83, ev_83⟩ : ∃ z : Int32, z = f_70 0 15 := ⟨_, rfl⟩
  have q_84 : (-1) ≤ v_83.toInt ∧ v_83.toInt ≤ 120 := by rw [ev_83]; exact hI 0 15
  have q_85 : (f_70 0 15).toInt = v_83.toInt := (congrArg Int32.toInt (show f_70 0 15 = v_83 from ev_83.symm))
  have q_86 : (f_70 0 16).toInt = v_80.toInt := (congrArg Int32.toInt (show f_70 0 16 = v_80 from ev_80.symm))
  refine lv_istore_n (lv' := [(1, .int r_73), (0, .ref (h 0))]) hx hb dX12_both_4 rfl hl (by decide) rfl (fun ls hl => ?_)
  exact loop_5 121 r_73 f_70 _ _ _ (by have zz0_13 : (f_70 0 13).toInt = v_77.toInt := (congrArg Int32.toInt (show f_70 0 13 = v_77 from ev_77.symm)); omega) (by have zz0_13 : (f_70 0 13).toInt = v_77.toInt := (congrArg Int32.toInt (show f_70 0 13 = v_77 from ev_77.symm)); omega) (by have zz0_16 : (f_70 0 16).toInt = v_80.toInt := (congrArg Int32.toInt (show f_70 0 16 = v_80 from ev_80.symm)); omega) (by have zz0_15 : (f_70 0 15).toInt = v_83.toInt := (congrArg Int32.toInt (show f_70 0 15 = v_83 from ev_83.symm)); have zz0_16 : (f_70 0 16).toInt = v_80.toInt := (congrArg Int32.toInt (show f_70 0 16 = v_80 from ev_80.symm)); omega) hI hF hP hS (lv_sub hl [1, 0] rfl)

abbrev WkX12_either_4 : List (Nat × Nat × Option Nat) := [(0, 0, some 13), (0, 0, some 15), (0, 0, some 16)]
set_option maxHeartbeats 4000000 in
set_option maxRecDepth 100000 in
theorem kX12_either_4 (l : Launch) (D : va_G) (ca : Nat → ClassId) (za h : Nat → Nat) (hh : sgH 26 h) (f : sg_F) (L : sg_L) (Q : sg_Q) (hI : sgI loM hiM f) (p0 : 4 ≤ (f 0 16).toInt) (p1 : 0 ≤ (f 0 15).toInt ∨ (f 0 16).toInt = 4) (sz : Nat) : Met l yX12_either gwX12_either { frames := 18, cells := 0, slots := 0, locals := 409 } (sgP D vwCl (tyX ca) 26 h (eM ca h) zcM za f L Q sz [.ref (h 0)]) (sgQi D vwCl 26 h (eM ca h) sz (fun r f1 L1 Q1 => ((sgI loM hiM f1 ∧ sgK WkX12_either_4 f f1 ∧ L1 = L ∧ Q1 = Q) ∧ True ∧ ((f 0 13).toInt ≤ (f1 0 13).toInt) ∧ (4 ≤ (f1 0 16).toInt) ∧ (0 ≤ (f1 0 15).toInt ∨ (f1 0 16).toInt = 4)))) 0 0 (sgA 26 h sz) := by
  refine sg_ofWi (cc := cX12_either) (maxL := 3) RX12 (by decide) rfl rfl (Nat.le_of_ble_eq_true rfl) ?_
  intro p e s m below meth cd Qz ls hx hb hml hown hts hK hZ hP hS hl hret
  have hA := sgY.self (n := 26) (h := h) (sz := s.heap.size)
  have hl : lv_has ls 3 [(0, .ref (h 0))] := hl
  obtain ⟨H, hH⟩ : ∃ z : Heap, z = s.heap := ⟨_, rfl⟩
  obtain ⟨locs, hlo⟩ : ∃ z : List Loc, z = [] := ⟨_, rfl⟩
  have hP : va_P D vwCl (sgw 26 h (eM ca h) f L Q) H := by rw [hH]; exact hP
  have hS : va_S (sgA 26 h s.heap.size) s.heap H locs := by rw [hH, hlo]; exact hS
  suffices hgo : W p l e ({ frames := 18, cells := 0, slots := 0, locals := 409 }) s m ([.ref (h 0)] : List Value).toArray below meth cd H locs 0 0 Qz (F0 m 0 ls []) by rw [hH, hlo] at hgo; exact hgo
  clear hH hlo
  obtain ⟨v_1, ev_1⟩ : ∃ z : Int32, z = f 0 16 := ⟨_, rfl⟩
  have q_2 : 0 ≤ v_1.toInt ∧ v_1.toInt ≤ 6 := by rw [ev_1]; exact hI 0 16
  obtain ⟨v_3, ev_3⟩ : ∃ z : Int32, z = f 0 15 := ⟨_, rfl⟩
  have q_4 : (-1) ≤ v_3.toInt ∧ v_3.toInt ≤ 120 := by rw [ev_3]; exact hI 0 15
  obtain ⟨v_5, ev_5⟩ : ∃ z : Int32, z = f 0 13 := ⟨_, rfl⟩
  have q_6 : 0 ≤ v_5.toInt ∧ v_5.toInt ≤ 120 := by rw [ev_5]; exact hI 0 13
  have o_7 : (f 0 16).toInt = v_1.toInt := (congrArg Int32.toInt (show f 0 16 = v_1 from ev_1.symm))
  have o_8 : (f 0 15).toInt = v_3.toInt := (congrArg Int32.toInt (show f 0 15 = v_3 from ev_3.symm))
  have o_9 : (f 0 13).toInt = v_5.toInt := (congrArg Int32.toInt (show f 0 13 = v_5 from ev_5.symm))
  have hF : sgK WkX12_either_4 f f := sgK.rf
  have loop_5 : ∀ (n_5 : Nat) (y1_5 : Int32) (fp_5 : sg_F) (H : Heap) (locs : List Loc) (ls : Array Slot), 120 - (fp_5 0 13).toInt < (n_5 : Int) → (f 0 13).toInt ≤ (fp_5 0 13).toInt → 4 ≤ (fp_5 0 16).toInt → 0 ≤ (fp_5 0 15).toInt ∨ (fp_5 0 16).toInt = 4 → sgI loM hiM fp_5 → sgK WkX12_either_4 f fp_5 → va_P D vwCl (sgw 26 h (eM ca h) fp_5 L Q) H → va_S (sgA 26 h s.heap.size) s.heap H locs → lv_has ls 3 [(0, .ref (h 0)), (1, .int y1_5)] → W p l e ({ frames := 18, cells := 0, slots := 0, locals := 409 }) s m ([.ref (h 0)] : List Value).toArray below meth cd H locs 0 0 Qz (F0 m 5 ls []) := by
    intro n_5
    induction n_5 with
    | zero => intro y1_5 fp_5 H locs ls hm_5 hg0_5 hg1_5 hg2_5 hI hF hP hS hl; have zb := (show 0 ≤ (fp_5 0 13).toInt ∧ (fp_5 0 13).toInt ≤ 120 from hI 0 13); exact absurd hm_5 (by omega)
    | succ n_5 ih_5 =>
      intro y1_5 fp_5 H locs ls hm_5 hg0_5 hg1_5 hg2_5 hI hF hP hS hl
      obtain ⟨v_10, ev_10⟩ : ∃ z : Int32, z = fp_5 0 13 := ⟨_, rfl⟩
      have q_11 : 0 ≤ v_10.toInt ∧ v_10.toInt ≤ 120 := by rw [ev_10]; exact hI 0 13
      have q_12 : (fp_5 0 13).toInt = v_10.toInt := by rw [ev_10]
      obtain ⟨v_13, ev_13⟩ : ∃ z : Int32, z = fp_5 0 16 := ⟨_, rfl⟩
      have q_14 : 0 ≤ v_13.toInt ∧ v_13.toInt ≤ 6 := by rw [ev_13]; exact hI 0 16
      have q_15 : (fp_5 0 16).toInt = v_13.toInt := by rw [ev_13]
      obtain ⟨v_16, ev_16⟩ : ∃ z : Int32, z = fp_5 0 15 := ⟨_, rfl⟩
      have q_17 : (-1) ≤ v_16.toInt ∧ v_16.toInt ≤ 120 := by rw [ev_16]; exact hI 0 15
      have q_18 : (fp_5 0 15).toInt = v_16.toInt := by rw [ev_16]
      refine lv_aload_n hx hb dX12_either_5 rfl (lv_at hl 0 rfl) ?_
      refine lv_bipush (v := 124) hx hb dX12_either_6 (by decide) ?_
      have q_19 : (fp_5 0 15).toInt = v_16.toInt := (congrArg Int32.toInt (show fp_5 0 15 = v_16 from ev_16.symm))
      have q_20 : (fp_5 0 13).toInt = v_10.toInt := (congrArg Int32.toInt (show fp_5 0 13 = v_10 from ev_10.symm))
      obtain ⟨v_21, ev_21⟩ : ∃ z : Int32, z = fp_5 0 14 := ⟨_, rfl⟩
      have q_22 : 0 ≤ v_21.toInt ∧ v_21.toInt ≤ 120 := by rw [ev_21]; exact hI 0 14
      have q_23 : (fp_5 0 14).toInt = v_21.toInt := (congrArg Int32.toInt (show fp_5 0 14 = v_21 from ev_21.symm))
      have q_24 : (fp_5 0 13).toInt = v_10.toInt := (congrArg Int32.toInt (show fp_5 0 13 = v_10 from ev_10.symm))
      have q_25 : (fp_5 0 13).toInt = v_10.toInt := (congrArg Int32.toInt (show fp_5 0 13 = v_10 from ev_10.symm))
      refine sg_calli (va_runV (As := [.int 124]) (rest := []) ⟨hx, hb, hml, hown, hts⟩ (kX12_takes_124 l D ca za h hh fp_5 L Q hI H.size) (cwV 1 hts (gw_V (fun _ h => List.mem_cons_of_mem _ h) mw_877 mw_878 mw_879 mw_619 mw_876) rfl rfl rfl (by decide +kernel) ⟨Nat.le_of_ble_eq_true rfl, Nat.le_of_ble_eq_true rfl⟩) (sg_preV (ci := 12) (C := RX12) (T := TX12) (N := 55) hA hK hP hS hZ 0 (by decide) rfl rfl) rfl rfl hl.1 rfl (lv_room (Nat.le_of_ble_eq_true rfl)) dX12_either_8 ⟨Nat.le_refl _, Nat.le_refl _⟩) hA hS (fun r_29 f_26 L_27 Q_28 H locs hq hP hS => ?_)
      obtain ⟨⟨hI, hk_f_26, eL9, eQ9⟩, hq⟩ := hq
      rw [eL9, eQ9] at hP; clear eL9 eQ9
      have hF : sgK WkX12_either_4 f f_26 := sgK.tr hF hk_f_26 (by decide)
      obtain ⟨v_30, ev_30⟩ : ∃ z : Int32, z = f_26 0 13 := ⟨_, rfl⟩
      have q_31 : 0 ≤ v_30.toInt ∧ v_30.toInt ≤ 120 := by rw [ev_30]; exact hI 0 13
      have q_32 : (f_26 0 13).toInt = v_30.toInt := (congrArg Int32.toInt (show f_26 0 13 = v_30 from ev_30.symm))
      have q_33 : (f_26 0 13).toInt = v_30.toInt := (congrArg Int32.toInt (show f_26 0 13 = v_30 from ev_30.symm))
      have k_34 : (124 : Int32).toInt = 124 := by decide
      rcases hq with ⟨rfl, hq⟩ | ⟨rfl, hq⟩
      · skip
        have q_35 := hq
        refine lv_if_eq (tgt := 36) hx hb dX12_either_11 (by decide) (fun c => absurd c (by decide)) (fun c => ?_)
        refine lv_aload_n hx hb dX12_either_14 rfl (lv_at hl 0 rfl) ?_
        have q_36 : (f_26 0 16).toInt = v_13.toInt := (congrArg Int32.toInt (show f_26 0 16 = v_13 from ((hk_f_26 0 16 (by decide)).trans ev_13.symm)))
        have q_37 : (f_26 0 15).toInt = v_16.toInt := (congrArg Int32.toInt (show f_26 0 15 = v_16 from ((hk_f_26 0 15 (by decide)).trans ev_16.symm)))
        have q_38 : (f_26 0 16).toInt = v_13.toInt := (congrArg Int32.toInt (show f_26 0 16 = v_13 from ((hk_f_26 0 16 (by decide)).trans ev_13.symm)))
        have q_39 : (f_26 0 13).toInt = v_30.toInt := (congrArg Int32.toInt (show f_26 0 13 = v_30 from ev_30.symm))
        refine sg_calli (va_runV (As := []) (rest := []) ⟨hx, hb, hml, hown, hts⟩ (kX12_both_4 l D ca za h hh f_26 L Q hI (by omega) (by omega) H.size) (cwV 0 hts (gw_V (fun _ h => List.mem_cons_of_mem _ h) mw_881 mw_882 mw_883 mw_619 mw_880) rfl rfl rfl (by decide +kernel) ⟨Nat.le_of_ble_eq_true rfl, Nat.le_of_ble_eq_true rfl⟩) (sg_preV (ci := 12) (C := RX12) (T := TX12) (N := 55) hA hK hP hS hZ 0 (by decide) rfl rfl) rfl rfl hl.1 rfl (lv_room (Nat.le_of_ble_eq_true rfl)) dX12_either_15 ⟨Nat.le_refl _, Nat.le_refl _⟩) hA hS (fun r_43 f_40 L_41 Q_42 H locs hq hP hS => ?_)
        obtain ⟨⟨hI, hk_f_40, eL9, eQ9⟩, hq, p_44, p_45, p_46⟩ := hq
        rw [eL9, eQ9] at hP; clear eL9 eQ9
        have hF : sgK WkX12_either_4 f f_40 := sgK.tr hF hk_f_40 (by decide)
        obtain ⟨v_47, ev_47⟩ : ∃ z : Int32, z = f_40 0 13 := ⟨_, rfl⟩
        have q_48 : 0 ≤ v_47.toInt ∧ v_47.toInt ≤ 120 := by rw [ev_47]; exact hI 0 13
        have q_49 : (f_40 0 13).toInt = v_47.toInt := (congrArg Int32.toInt (show f_40 0 13 = v_47 from ev_47.symm))
        obtain ⟨v_50, ev_50⟩ : ∃ z : Int32, z = f_40 0 16 := ⟨_, rfl⟩
        have q_51 : 0 ≤ v_50.toInt ∧ v_50.toInt ≤ 6 := by rw [ev_50]; exact hI 0 16
        have q_52 : (f_40 0 16).toInt = v_50.toInt := (congrArg Int32.toInt (show f_40 0 16 = v_50 from ev_50.symm))
        obtain ⟨v_53, ev_53⟩ : ∃ z : Int32, z = f_40 0 15 := ⟨_, rfl⟩
        have q_54 : (-1) ≤ v_53.toInt ∧ v_53.toInt ≤ 120 := by rw [ev_53]; exact hI 0 15
        have q_55 : (f_40 0 15).toInt = v_53.toInt := (congrArg Int32.toInt (show f_40 0 15 = v_53 from ev_53.symm))
        have q_56 : (f_40 0 16).toInt = v_50.toInt := (congrArg Int32.toInt (show f_40 0 16 = v_50 from ev_50.symm))
        refine lv_istore_n (lv' := [(2, .int r_43), (0, .ref (h 0)), (1, .int y1_5)]) hx hb dX12_either_18 rfl hl (by decide) rfl (fun ls hl => ?_)
        refine lv_iload_n hx hb dX12_either_19 rfl (lv_at hl 2 rfl) ?_
        refine lv_if_ne (tgt := 27) hx hb dX12_either_20 (by decide) (fun c => ?_) (fun c => ?_)
        · skip
          have c_57 : y1_5.toInt ≠ 0 := (by have z := bn_ne c; have k1 : (0 : Int32).toInt = 0 := (by decide); omega)
          refine lv_iconst (v := 1) hx hb dX12_either_27 (by decide) ?_
          refine lv_goto (tgt := 32) hx hb dX12_either_28 (by decide) ?_
          refine lv_istore_n (lv' := [(1, .int 1), (2, .int r_43), (0, .ref (h 0))]) hx hb dX12_either_32 rfl hl (by decide) rfl (fun ls hl => ?_)
          refine lv_goto (tgt := 5) hx hb dX12_either_33 (by decide) ?_
          exact ih_5 1 f_40 _ _ _ (by have kc0 : (1 : Int32).toInt = 1 := (by decide); have zz0_13 : (f_40 0 13).toInt = v_47.toInt := (congrArg Int32.toInt (show f_40 0 13 = v_47 from ev_47.symm)); omega) (by have kc0 : (1 : Int32).toInt = 1 := (by decide); have zz0_13 : (f_40 0 13).toInt = v_47.toInt := (congrArg Int32.toInt (show f_40 0 13 = v_47 from ev_47.symm)); omega) (by have kc0 : (1 : Int32).toInt = 1 := (by decide); have zz0_16 : (f_40 0 16).toInt = v_50.toInt := (congrArg Int32.toInt (show f_40 0 16 = v_50 from ev_50.symm)); omega) (by have kc0 : (1 : Int32).toInt = 1 := (by decide); have zz0_15 : (f_40 0 15).toInt = v_53.toInt := (congrArg Int32.toInt (show f_40 0 15 = v_53 from ev_53.symm)); have zz0_16 : (f_40 0 16).toInt = v_50.toInt := (congrArg Int32.toInt (show f_40 0 16 = v_50 from ev_50.symm)); omega) hI hF hP hS (lv_sub hl [2, 0] rfl)
        · skip
          have c_58 : y1_5.toInt = 0 := (by have z := Int32.toInt_inj.mpr c; have k1 : (0 : Int32).toInt = 0 := (by decide); omega)
          refine lv_iload_n hx hb dX12_either_23 rfl (lv_at hl 0 rfl) ?_
          refine lv_if_eq (tgt := 31) hx hb dX12_either_24 (by decide) (fun c => ?_) (fun c => ?_)
          · skip
            have c_59 : r_43.toInt = 0 := (by have z := Int32.toInt_inj.mpr c; have k1 : (0 : Int32).toInt = 0 := (by decide); omega)
            refine lv_iconst (v := 0) hx hb dX12_either_31 (by decide) ?_
            refine lv_istore_n (lv' := [(1, .int 0), (2, .int r_43), (0, .ref (h 0))]) hx hb dX12_either_32 rfl hl (by decide) rfl (fun ls hl => ?_)
            refine lv_goto (tgt := 5) hx hb dX12_either_33 (by decide) ?_
            exact ih_5 0 f_40 _ _ _ (by have kc0 : (0 : Int32).toInt = 0 := (by decide); have zz0_13 : (f_40 0 13).toInt = v_47.toInt := (congrArg Int32.toInt (show f_40 0 13 = v_47 from ev_47.symm)); omega) (by have kc0 : (0 : Int32).toInt = 0 := (by decide); have zz0_13 : (f_40 0 13).toInt = v_47.toInt := (congrArg Int32.toInt (show f_40 0 13 = v_47 from ev_47.symm)); omega) (by have kc0 : (0 : Int32).toInt = 0 := (by decide); have zz0_16 : (f_40 0 16).toInt = v_50.toInt := (congrArg Int32.toInt (show f_40 0 16 = v_50 from ev_50.symm)); omega) (by have kc0 : (0 : Int32).toInt = 0 := (by decide); have zz0_15 : (f_40 0 15).toInt = v_53.toInt := (congrArg Int32.toInt (show f_40 0 15 = v_53 from ev_53.symm)); have zz0_16 : (f_40 0 16).toInt = v_50.toInt := (congrArg Int32.toInt (show f_40 0 16 = v_50 from ev_50.symm)); omega) hI hF hP hS (lv_sub hl [2, 0] rfl)
          · skip
            have c_60 : r_43.toInt ≠ 0 := (by have z := bn_ne c; have k1 : (0 : Int32).toInt = 0 := (by decide); omega)
            refine lv_iconst (v := 1) hx hb dX12_either_27 (by decide) ?_
            refine lv_goto (tgt := 32) hx hb dX12_either_28 (by decide) ?_
            refine lv_istore_n (lv' := [(1, .int 1), (2, .int r_43), (0, .ref (h 0))]) hx hb dX12_either_32 rfl hl (by decide) rfl (fun ls hl => ?_)
            refine lv_goto (tgt := 5) hx hb dX12_either_33 (by decide) ?_
            exact ih_5 1 f_40 _ _ _ (by have kc0 : (1 : Int32).toInt = 1 := (by decide); have zz0_13 : (f_40 0 13).toInt = v_47.toInt := (congrArg Int32.toInt (show f_40 0 13 = v_47 from ev_47.symm)); omega) (by have kc0 : (1 : Int32).toInt = 1 := (by decide); have zz0_13 : (f_40 0 13).toInt = v_47.toInt := (congrArg Int32.toInt (show f_40 0 13 = v_47 from ev_47.symm)); omega) (by have kc0 : (1 : Int32).toInt = 1 := (by decide); have zz0_16 : (f_40 0 16).toInt = v_50.toInt := (congrArg Int32.toInt (show f_40 0 16 = v_50 from ev_50.symm)); omega) (by have kc0 : (1 : Int32).toInt = 1 := (by decide); have zz0_15 : (f_40 0 15).toInt = v_53.toInt := (congrArg Int32.toInt (show f_40 0 15 = v_53 from ev_53.symm)); have zz0_16 : (f_40 0 16).toInt = v_50.toInt := (congrArg Int32.toInt (show f_40 0 16 = v_50 from ev_50.symm)); omega) hI hF hP hS (lv_sub hl [2, 0] rfl)
      · skip
        have q_61 := hq
        refine lv_if_eq (tgt := 36) hx hb dX12_either_11 (by decide) (fun c => ?_) (fun c => absurd c (by decide))
        refine lv_iload_n hx hb dX12_either_36 rfl (lv_at hl 1 rfl) ?_
        have q_62 : (f_26 0 13).toInt = v_30.toInt := (congrArg Int32.toInt (show f_26 0 13 = v_30 from ev_30.symm))
        have q_63 : (f_26 0 16).toInt = v_13.toInt := (congrArg Int32.toInt (show f_26 0 16 = v_13 from ((hk_f_26 0 16 (by decide)).trans ev_13.symm)))
        have q_64 : (f_26 0 15).toInt = v_16.toInt := (congrArg Int32.toInt (show f_26 0 15 = v_16 from ((hk_f_26 0 15 (by decide)).trans ev_16.symm)))
        have q_65 : (f_26 0 16).toInt = v_13.toInt := (congrArg Int32.toInt (show f_26 0 16 = v_13 from ((hk_f_26 0 16 (by decide)).trans ev_13.symm)))
        exact hret _ _ _ _ (y1_5) f_26 L Q dX12_either_37 hP hS ⟨⟨hI, hF, rfl, rfl⟩, trivial, (by omega), (by omega), (by omega)⟩
  refine lv_aload_n hx hb dX12_either_0 rfl (lv_at hl 0 rfl) ?_
  have q_66 : (f 0 16).toInt = v_1.toInt := (congrArg Int32.toInt (show f 0 16 = v_1 from ev_1.symm))
  have q_67 : (f 0 15).toInt = v_3.toInt := (congrArg Int32.toInt (show f 0 15 = v_3 from ev_3.symm))
  have q_68 : (f 0 16).toInt = v_1.toInt := (congrArg Int32.toInt (show f 0 16 = v_1 from ev_1.symm))
  have q_69 : (f 0 13).toInt = v_5.toInt := (congrArg Int32.toInt (show f 0 13 = v_5 from ev_5.symm))
  refine sg_calli (va_runV (As := []) (rest := []) ⟨hx, hb, hml, hown, hts⟩ (kX12_both_4 l D ca za h hh f L Q hI (by omega) (by omega) H.size) (cwV 0 hts (gw_V (fun _ h => List.mem_cons_of_mem _ h) mw_881 mw_882 mw_883 mw_619 mw_880) rfl rfl rfl (by decide +kernel) ⟨Nat.le_of_ble_eq_true rfl, Nat.le_of_ble_eq_true rfl⟩) (sg_preV (ci := 12) (C := RX12) (T := TX12) (N := 55) hA hK hP hS hZ 0 (by decide) rfl rfl) rfl rfl hl.1 rfl (lv_room (Nat.le_of_ble_eq_true rfl)) dX12_either_1 ⟨Nat.le_refl _, Nat.le_refl _⟩) hA hS (fun r_73 f_70 L_71 Q_72 H locs hq hP hS => ?_)
  obtain ⟨⟨hI, hk_f_70, eL9, eQ9⟩, hq, p_74, p_75, p_76⟩ := hq
  rw [eL9, eQ9] at hP; clear eL9 eQ9
  have hF : sgK WkX12_either_4 f f_70 := sgK.tr hF hk_f_70 (by decide)
  obtain ⟨v_77, ev_77⟩ : ∃ z : Int32, z = f_70 0 13 := ⟨_, rfl⟩
  have q_78 : 0 ≤ v_77.toInt ∧ v_77.toInt ≤ 120 := by rw [ev_77]; exact hI 0 13
  have q_79 : (f_70 0 13).toInt = v_77.toInt := (congrArg Int32.toInt (show f_70 0 13 = v_77 from ev_77.symm))
  obtain ⟨v_80, ev_80⟩ : ∃ z : Int32, z = f_70 0 16 := ⟨_, rfl⟩
  have q_81 : 0 ≤ v_80.toInt ∧ v_80.toInt ≤ 6 := by rw [ev_80]; exact hI 0 16
  have q_82 : (f_70 0 16).toInt = v_80.toInt := (congrArg Int32.toInt (show f_70 0 16 = v_80 from ev_80.symm))
  obtain ⟨v_83, ev_83⟩ : ∃ z : Int32, z = f_70 0 15 := ⟨_, rfl⟩
  have q_84 : (-1) ≤ v_83.toInt ∧ v_83.toInt ≤ 120 := by rw [ev_83]; exact hI 0 15
  have q_85 : (f_70 0 15).toInt = v_83.toInt := (congrArg Int32.toInt (show f_70 0 15 = v_83 from ev_83.symm))
  have q_86 : (f_70 0 16).toInt = v_80.toInt := (congrArg Int32.toInt (show f_70 0 16 = v_80 from ev_80.symm))
  refine lv_istore_n (lv' := [(1, .int r_73), (0, .ref (h 0))]) hx hb dX12_either_4 rfl hl (by decide) rfl (fun ls hl => ?_)
  exact loop_5 121 r_73 f_70 _ _ _ (by have zz0_13 : (f_70 0 13).toInt = v_77.toInt := (congrArg Int32.toInt (show f_70 0 13 = v_77 from ev_77.symm)); omega) (by have zz0_13 : (f_70 0 13).toInt = v_77.toInt := (congrArg Int32.toInt (show f_70 0 13 = v_77 from ev_77.symm)); omega) (by have zz0_16 : (f_70 0 16).toInt = v_80.toInt := (congrArg Int32.toInt (show f_70 0 16 = v_80 from ev_80.symm)); omega) (by have zz0_15 : (f_70 0 15).toInt = v_83.toInt := (congrArg Int32.toInt (show f_70 0 15 = v_83 from ev_83.symm)); have zz0_16 : (f_70 0 16).toInt = v_80.toInt := (congrArg Int32.toInt (show f_70 0 16 = v_80 from ev_80.symm)); omega) hI hF hP hS (lv_sub hl [1, 0] rfl)

abbrev WkX12_one_3 : List (Nat × Nat × Option Nat) := [(0, 0, some 13), (0, 0, some 15), (0, 0, some 16)]
set_option maxHeartbeats 4000000 in
set_option maxRecDepth 100000 in
theorem kX12_one_3 (l : Launch) (D : va_G) (ca : Nat → ClassId) (za h : Nat → Nat) (hh : sgH 26 h) (f : sg_F) (L : sg_L) (Q : sg_Q) (hI : sgI loM hiM f) (p0 : 3 ≤ (f 0 16).toInt) (p1 : 0 ≤ (f 0 15).toInt ∨ (f 0 16).toInt = 3) (sz : Nat) : Met l yX12_one gwX12_one { frames := 19, cells := 0, slots := 0, locals := 431 } (sgP D vwCl (tyX ca) 26 h (eM ca h) zcM za f L Q sz [.ref (h 0)]) (sgQi D vwCl 26 h (eM ca h) sz (fun r f1 L1 Q1 => ((sgI loM hiM f1 ∧ sgK WkX12_one_3 f f1 ∧ L1 = L ∧ Q1 = Q) ∧ True ∧ ((f 0 13).toInt ≤ (f1 0 13).toInt) ∧ (3 ≤ (f1 0 16).toInt) ∧ (0 ≤ (f1 0 15).toInt ∨ (f1 0 16).toInt = 3)))) 0 0 (sgA 26 h sz) := by
  refine sg_ofWi (cc := cX12_one) (maxL := 5) RX12 (by decide) rfl rfl (Nat.le_of_ble_eq_true rfl) ?_
  intro p e s m below meth cd Qz ls hx hb hml hown hts hK hZ hP hS hl hret
  have hA := sgY.self (n := 26) (h := h) (sz := s.heap.size)
  have hl : lv_has ls 5 [(0, .ref (h 0))] := hl
  obtain ⟨H, hH⟩ : ∃ z : Heap, z = s.heap := ⟨_, rfl⟩
  obtain ⟨locs, hlo⟩ : ∃ z : List Loc, z = [] := ⟨_, rfl⟩
  have hP : va_P D vwCl (sgw 26 h (eM ca h) f L Q) H := by rw [hH]; exact hP
  have hS : va_S (sgA 26 h s.heap.size) s.heap H locs := by rw [hH, hlo]; exact hS
  suffices hgo : W p l e ({ frames := 19, cells := 0, slots := 0, locals := 431 }) s m ([.ref (h 0)] : List Value).toArray below meth cd H locs 0 0 Qz (F0 m 0 ls []) by rw [hH, hlo] at hgo; exact hgo
  clear hH hlo
  obtain ⟨v_1, ev_1⟩ : ∃ z : Int32, z = f 0 16 := ⟨_, rfl⟩
  have q_2 : 0 ≤ v_1.toInt ∧ v_1.toInt ≤ 6 := by rw [ev_1]; exact hI 0 16
  obtain ⟨v_3, ev_3⟩ : ∃ z : Int32, z = f 0 15 := ⟨_, rfl⟩
  have q_4 : (-1) ≤ v_3.toInt ∧ v_3.toInt ≤ 120 := by rw [ev_3]; exact hI 0 15
  obtain ⟨v_5, ev_5⟩ : ∃ z : Int32, z = f 0 13 := ⟨_, rfl⟩
  have q_6 : 0 ≤ v_5.toInt ∧ v_5.toInt ≤ 120 := by rw [ev_5]; exact hI 0 13
  have o_7 : (f 0 16).toInt = v_1.toInt := (congrArg Int32.toInt (show f 0 16 = v_1 from ev_1.symm))
  have o_8 : (f 0 15).toInt = v_3.toInt := (congrArg Int32.toInt (show f 0 15 = v_3 from ev_3.symm))
  have o_9 : (f 0 13).toInt = v_5.toInt := (congrArg Int32.toInt (show f 0 13 = v_5 from ev_5.symm))
  have hF : sgK WkX12_one_3 f f := sgK.rf
  have blk_229 : ∀ (y3_229 : Int32) (y4_229 : Int32) (fp_229 : sg_F) (H : Heap) (locs : List Loc) (ls : Array Slot), (-1) ≤ (fp_229 0 15).toInt ∧ (fp_229 0 15).toInt ≤ (-1) → 0 ≤ y4_229.toInt ∧ y4_229.toInt ≤ 4 → (f 0 13).toInt ≤ (fp_229 0 13).toInt → 3 ≤ (fp_229 0 16).toInt → 0 ≤ (fp_229 0 15).toInt ∨ (fp_229 0 16).toInt = 3 → sgI loM hiM fp_229 → sgK WkX12_one_3 f fp_229 → va_P D vwCl (sgw 26 h (eM ca h) fp_229 L Q) H → va_S (sgA 26 h s.heap.size) s.heap H locs → lv_has ls 5 [(0, .ref (h 0)), (3, .int y3_229), (4, .int y4_229)] → W p l e ({ frames := 19, cells := 0, slots := 0, locals := 431 }) s m ([.ref (h 0)] : List Value).toArray below meth cd H locs 0 0 Qz (F0 m 229 ls []) := by
    intro y3_229 y4_229 fp_229 H locs ls hy0_229 hy1_229 hg0_229 hg1_229 hg2_229 hI hF hP hS hl
    obtain ⟨v_10, ev_10⟩ : ∃ z : Int32, z = fp_229 0 15 := ⟨_, rfl⟩
    have q_11 : (-1) ≤ v_10.toInt ∧ v_10.toInt ≤ 120 := by rw [ev_10]; exact hI 0 15
    have q_12 : (fp_229 0 15).toInt = v_10.toInt := by rw [ev_10]
    obtain ⟨v_13, ev_13⟩ : ∃ z : Int32, z = fp_229 0 13 := ⟨_, rfl⟩
    have q_14 : 0 ≤ v_13.toInt ∧ v_13.toInt ≤ 120 := by rw [ev_13]; exact hI 0 13
    have q_15 : (fp_229 0 13).toInt = v_13.toInt := by rw [ev_13]
    obtain ⟨v_16, ev_16⟩ : ∃ z : Int32, z = fp_229 0 16 := ⟨_, rfl⟩
    have q_17 : 0 ≤ v_16.toInt ∧ v_16.toInt ≤ 6 := by rw [ev_16]; exact hI 0 16
    have q_18 : (fp_229 0 16).toInt = v_16.toInt := by rw [ev_16]
    refine lv_iload hx hb dX12_one_229 (lv_at hl 2 rfl) ?_
    refine lv_if_ne (tgt := 241) hx hb dX12_one_231 (by decide) (fun c => ?_) (fun c => ?_)
    · skip
      have c_19 : y4_229.toInt ≠ 0 := (by have z := bn_ne c; have k1 : (0 : Int32).toInt = 0 := (by decide); omega)
      refine lv_iload_n hx hb dX12_one_241 rfl (lv_at hl 1 rfl) ?_
      have q_21 : (fp_229 0 13).toInt = v_13.toInt := (congrArg Int32.toInt (show fp_229 0 13 = v_13 from ev_13.symm))
      have q_22 : (fp_229 0 16).toInt = v_16.toInt := (congrArg Int32.toInt (show fp_229 0 16 = v_16 from ev_16.symm))
      have q_23 : (fp_229 0 15).toInt = v_10.toInt := (congrArg Int32.toInt (show fp_229 0 15 = v_10 from ev_10.symm))
      have q_24 : (fp_229 0 16).toInt = v_16.toInt := (congrArg Int32.toInt (show fp_229 0 16 = v_16 from ev_16.symm))
      exact hret _ _ _ _ (y3_229) fp_229 L Q dX12_one_242 hP hS ⟨⟨hI, hF, rfl, rfl⟩, trivial, (by omega), (by omega), (by omega)⟩
    · skip
      have c_20 : y4_229.toInt = 0 := (by have z := Int32.toInt_inj.mpr c; have k1 : (0 : Int32).toInt = 0 := (by decide); omega)
      refine lv_aload_n hx hb dX12_one_234 rfl (lv_at hl 0 rfl) ?_
      refine sg_calli (va_runV (As := []) (rest := []) ⟨hx, hb, hml, hown, hts⟩ (kX12_wrong l D ca za h hh fp_229 L Q hI H.size) (cwV 0 hts (gw_V (fun _ h => List.mem_cons_of_mem _ h) mw_889 mw_890 mw_891 mw_619 mw_888) rfl rfl rfl (by decide +kernel) ⟨Nat.le_of_ble_eq_true rfl, Nat.le_of_ble_eq_true rfl⟩) (sg_preV (ci := 12) (C := RX12) (T := TX12) (N := 55) hA hK hP hS hZ 0 (by decide) rfl rfl) rfl rfl hl.1 rfl (lv_room (Nat.le_of_ble_eq_true rfl)) dX12_one_235 ⟨Nat.le_refl _, Nat.le_refl _⟩) hA hS (fun r_28 f_25 L_26 Q_27 H locs hq hP hS => ?_)
      obtain ⟨⟨hI, hk_f_25, eL9, eQ9⟩, hq, p_29⟩ := hq
      rw [eL9, eQ9] at hP; clear eL9 eQ9
      have hF : sgK WkX12_one_3 f f_25 := sgK.tr hF hk_f_25 (by decide)
      obtain ⟨v_30, ev_30⟩ : ∃ z : Int32, z = f_25 0 15 := ⟨_, rfl⟩
      have q_31 : (-1) ≤ v_30.toInt ∧ v_30.toInt ≤ 120 := by rw [ev_30]; exact hI 0 15
      have q_32 : (f_25 0 15).toInt = v_30.toInt := (congrArg Int32.toInt (show f_25 0 15 = v_30 from ev_30.symm))
      obtain rfl : r_28 = 0 := Int32.toInt_inj.mp (by have k9 : (0 : Int32).toInt = 0 := (by decide); omega)
      refine lv_goto (tgt := 242) hx hb dX12_one_238 (by decide) ?_
      have q_33 : (f_25 0 13).toInt = v_13.toInt := (congrArg Int32.toInt (show f_25 0 13 = v_13 from ((hk_f_25 0 13 (by decide)).trans ev_13.symm)))
      have q_34 : (f_25 0 16).toInt = v_16.toInt := (congrArg Int32.toInt (show f_25 0 16 = v_16 from ((hk_f_25 0 16 (by decide)).trans ev_16.symm)))
      have q_35 : (f_25 0 15).toInt = v_30.toInt := (congrArg Int32.toInt (show f_25 0 15 = v_30 from ev_30.symm))
      have q_36 : (f_25 0 16).toInt = v_16.toInt := (congrArg Int32.toInt (show f_25 0 16 = v_16 from ((hk_f_25 0 16 (by decide)).trans ev_16.symm)))
      have k99 : (0 : Int32).toInt = 0 := (by decide)
      exact hret _ _ _ _ (0) f_25 L Q dX12_one_242 hP hS ⟨⟨hI, hF, rfl, rfl⟩, trivial, (by omega), (by omega), (by omega)⟩
  have loop_176 : ∀ (n_176 : Nat) (y3_176 : Int32) (y4_176 : Int32) (fp_176 : sg_F) (H : Heap) (locs : List Loc) (ls : Array Slot), 4 - y4_176.toInt < (n_176 : Int) → (-1) ≤ (fp_176 0 15).toInt ∧ (fp_176 0 15).toInt ≤ (-1) → 0 ≤ y4_176.toInt ∧ y4_176.toInt ≤ 4 → (f 0 13).toInt ≤ (fp_176 0 13).toInt → 3 ≤ (fp_176 0 16).toInt → 0 ≤ (fp_176 0 15).toInt ∨ (fp_176 0 16).toInt = 3 → sgI loM hiM fp_176 → sgK WkX12_one_3 f fp_176 → va_P D vwCl (sgw 26 h (eM ca h) fp_176 L Q) H → va_S (sgA 26 h s.heap.size) s.heap H locs → lv_has ls 5 [(0, .ref (h 0)), (3, .int y3_176), (4, .int y4_176)] → W p l e ({ frames := 19, cells := 0, slots := 0, locals := 431 }) s m ([.ref (h 0)] : List Value).toArray below meth cd H locs 0 0 Qz (F0 m 176 ls []) := by
    intro n_176
    induction n_176 with
    | zero => intro y3_176 y4_176 fp_176 H locs ls hm_176 hy0_176 hy1_176 hg0_176 hg1_176 hg2_176 hI hF hP hS hl; exact absurd hm_176 (by omega)
    | succ n_176 ih_176 =>
      intro y3_176 y4_176 fp_176 H locs ls hm_176 hy0_176 hy1_176 hg0_176 hg1_176 hg2_176 hI hF hP hS hl
      obtain ⟨v_37, ev_37⟩ : ∃ z : Int32, z = fp_176 0 15 := ⟨_, rfl⟩
      have q_38 : (-1) ≤ v_37.toInt ∧ v_37.toInt ≤ 120 := by rw [ev_37]; exact hI 0 15
      have q_39 : (fp_176 0 15).toInt = v_37.toInt := by rw [ev_37]
      obtain ⟨v_40, ev_40⟩ : ∃ z : Int32, z = fp_176 0 13 := ⟨_, rfl⟩
      have q_41 : 0 ≤ v_40.toInt ∧ v_40.toInt ≤ 120 := by rw [ev_40]; exact hI 0 13
      have q_42 : (fp_176 0 13).toInt = v_40.toInt := by rw [ev_40]
      obtain ⟨v_43, ev_43⟩ : ∃ z : Int32, z = fp_176 0 16 := ⟨_, rfl⟩
      have q_44 : 0 ≤ v_43.toInt ∧ v_43.toInt ≤ 6 := by rw [ev_43]; exact hI 0 16
      have q_45 : (fp_176 0 16).toInt = v_43.toInt := by rw [ev_43]
      refine lv_iload hx hb dX12_one_176 (lv_at hl 2 rfl) ?_
      refine lv_iconst (v := 4) hx hb dX12_one_178 (by decide) ?_
      refine lv_icmp_ge (tgt := 229) hx hb dX12_one_179 (by decide) (fun c => ?_) (fun c => ?_)
      · skip
        have c_46 : 4 ≤ y4_176.toInt := (by have z := bn_le c; have k1 : (4 : Int32).toInt = 4 := (by decide); omega)
        exact blk_229 y3_176 y4_176 fp_176 _ _ _ (by have zz0_15 : (fp_176 0 15).toInt = v_37.toInt := (congrArg Int32.toInt (show fp_176 0 15 = v_37 from ev_37.symm)); omega) (by omega) (by have zz0_13 : (fp_176 0 13).toInt = v_40.toInt := (congrArg Int32.toInt (show fp_176 0 13 = v_40 from ev_40.symm)); omega) (by have zz0_16 : (fp_176 0 16).toInt = v_43.toInt := (congrArg Int32.toInt (show fp_176 0 16 = v_43 from ev_43.symm)); omega) (by have zz0_15 : (fp_176 0 15).toInt = v_37.toInt := (congrArg Int32.toInt (show fp_176 0 15 = v_37 from ev_37.symm)); have zz0_16 : (fp_176 0 16).toInt = v_43.toInt := (congrArg Int32.toInt (show fp_176 0 16 = v_43 from ev_43.symm)); omega) hI hF hP hS (lv_sub hl [0, 1, 2] rfl)
      · skip
        have c_47 : y4_176.toInt < 4 := (by have z := bn_nle c; have k1 : (4 : Int32).toInt = 4 := (by decide); omega)
        refine lv_aload_n hx hb dX12_one_182 rfl (lv_at hl 0 rfl) ?_
        have q_48 : (fp_176 0 13).toInt = v_40.toInt := (congrArg Int32.toInt (show fp_176 0 13 = v_40 from ev_40.symm))
        obtain ⟨v_49, ev_49⟩ : ∃ z : Int32, z = fp_176 0 14 := ⟨_, rfl⟩
        have q_50 : 0 ≤ v_49.toInt ∧ v_49.toInt ≤ 120 := by rw [ev_49]; exact hI 0 14
        have q_51 : (fp_176 0 14).toInt = v_49.toInt := (congrArg Int32.toInt (show fp_176 0 14 = v_49 from ev_49.symm))
        refine sg_calli (va_runV (As := []) (rest := []) ⟨hx, hb, hml, hown, hts⟩ (kX12_byteAt l D ca za h hh fp_176 L Q hI H.size) (cwV 0 hts (gw_V (fun _ h => List.mem_cons_of_mem _ h) mw_840 mw_841 mw_842 mw_619 mw_839) rfl rfl rfl (by decide +kernel) ⟨Nat.le_of_ble_eq_true rfl, Nat.le_of_ble_eq_true rfl⟩) (sg_preV (ci := 12) (C := RX12) (T := TX12) (N := 55) hA hK hP hS hZ 0 (by decide) rfl rfl) rfl rfl hl.1 rfl (lv_room (Nat.le_of_ble_eq_true rfl)) dX12_one_183 ⟨Nat.le_refl _, Nat.le_refl _⟩) hA hS (fun r_55 f_52 L_53 Q_54 H locs hq hP hS => ?_)
        obtain ⟨⟨ef9, eL9, eQ9⟩, hq, p_56⟩ := hq
        rw [ef9, eL9, eQ9] at hP; clear ef9 eL9 eQ9
        refine lv_bipush (v := 48) hx hb dX12_one_186 (by decide) ?_
        refine lv_icmp_lt (tgt := 229) hx hb dX12_one_188 (by decide) (fun c => ?_) (fun c => ?_)
        · skip
          have c_57 : r_55.toInt < 48 := (by have z := bn_lt c; have k1 : (48 : Int32).toInt = 48 := (by decide); omega)
          exact blk_229 y3_176 y4_176 fp_176 _ _ _ (by have zz0_15 : (fp_176 0 15).toInt = v_37.toInt := (congrArg Int32.toInt (show fp_176 0 15 = v_37 from ev_37.symm)); omega) (by omega) (by have zz0_13 : (fp_176 0 13).toInt = v_40.toInt := (congrArg Int32.toInt (show fp_176 0 13 = v_40 from ev_40.symm)); omega) (by have zz0_16 : (fp_176 0 16).toInt = v_43.toInt := (congrArg Int32.toInt (show fp_176 0 16 = v_43 from ev_43.symm)); omega) (by have zz0_15 : (fp_176 0 15).toInt = v_37.toInt := (congrArg Int32.toInt (show fp_176 0 15 = v_37 from ev_37.symm)); have zz0_16 : (fp_176 0 16).toInt = v_43.toInt := (congrArg Int32.toInt (show fp_176 0 16 = v_43 from ev_43.symm)); omega) hI hF hP hS (lv_sub hl [0, 1, 2] rfl)
        · skip
          have c_58 : 48 ≤ r_55.toInt := (by have z := bn_nlt c; have k1 : (48 : Int32).toInt = 48 := (by decide); omega)
          refine lv_aload_n hx hb dX12_one_191 rfl (lv_at hl 0 rfl) ?_
          have q_59 : (fp_176 0 13).toInt = v_40.toInt := (congrArg Int32.toInt (show fp_176 0 13 = v_40 from ev_40.symm))
          have q_60 : (fp_176 0 14).toInt = v_49.toInt := (congrArg Int32.toInt (show fp_176 0 14 = v_49 from ev_49.symm))
          refine sg_calli (va_runV (As := []) (rest := []) ⟨hx, hb, hml, hown, hts⟩ (kX12_byteAt l D ca za h hh fp_176 L Q hI H.size) (cwV 0 hts (gw_V (fun _ h => List.mem_cons_of_mem _ h) mw_840 mw_841 mw_842 mw_619 mw_839) rfl rfl rfl (by decide +kernel) ⟨Nat.le_of_ble_eq_true rfl, Nat.le_of_ble_eq_true rfl⟩) (sg_preV (ci := 12) (C := RX12) (T := TX12) (N := 55) hA hK hP hS hZ 0 (by decide) rfl rfl) rfl rfl hl.1 rfl (lv_room (Nat.le_of_ble_eq_true rfl)) dX12_one_192 ⟨Nat.le_refl _, Nat.le_refl _⟩) hA hS (fun r_64 f_61 L_62 Q_63 H locs hq hP hS => ?_)
          obtain ⟨⟨ef9, eL9, eQ9⟩, hq, p_65⟩ := hq
          rw [ef9, eL9, eQ9] at hP; clear ef9 eL9 eQ9
          refine lv_bipush (v := 57) hx hb dX12_one_195 (by decide) ?_
          refine lv_icmp_gt (tgt := 229) hx hb dX12_one_197 (by decide) (fun c => ?_) (fun c => ?_)
          · skip
            have c_66 : 57 < r_64.toInt := (by have z := bn_lt c; have k1 : (57 : Int32).toInt = 57 := (by decide); omega)
            exact blk_229 y3_176 y4_176 fp_176 _ _ _ (by have zz0_15 : (fp_176 0 15).toInt = v_37.toInt := (congrArg Int32.toInt (show fp_176 0 15 = v_37 from ev_37.symm)); omega) (by omega) (by have zz0_13 : (fp_176 0 13).toInt = v_40.toInt := (congrArg Int32.toInt (show fp_176 0 13 = v_40 from ev_40.symm)); omega) (by have zz0_16 : (fp_176 0 16).toInt = v_43.toInt := (congrArg Int32.toInt (show fp_176 0 16 = v_43 from ev_43.symm)); omega) (by have zz0_15 : (fp_176 0 15).toInt = v_37.toInt := (congrArg Int32.toInt (show fp_176 0 15 = v_37 from ev_37.symm)); have zz0_16 : (fp_176 0 16).toInt = v_43.toInt := (congrArg Int32.toInt (show fp_176 0 16 = v_43 from ev_43.symm)); omega) hI hF hP hS (lv_sub hl [0, 1, 2] rfl)
          · skip
            have c_67 : r_64.toInt ≤ 57 := (by have z := bn_nlt c; have k1 : (57 : Int32).toInt = 57 := (by decide); omega)
            refine lv_bipush (v := 10) hx hb dX12_one_200 (by decide) ?_
            refine lv_iload_n hx hb dX12_one_202 rfl (lv_at hl 1 rfl) ?_
            refine lv_imul hx hb dX12_one_203 ?_
            refine lv_topi (fun v_68 ev_68 => ?_)
            refine lv_aload_n hx hb dX12_one_204 rfl (lv_at hl 0 rfl) ?_
            have q_69 : (fp_176 0 13).toInt = v_40.toInt := (congrArg Int32.toInt (show fp_176 0 13 = v_40 from ev_40.symm))
            have q_70 : (fp_176 0 14).toInt = v_49.toInt := (congrArg Int32.toInt (show fp_176 0 14 = v_49 from ev_49.symm))
            refine sg_calli (va_runV (As := []) (rest := [.int v_68]) ⟨hx, hb, hml, hown, hts⟩ (kX12_byteAt l D ca za h hh fp_176 L Q hI H.size) (cwV 0 hts (gw_V (fun _ h => List.mem_cons_of_mem _ h) mw_840 mw_841 mw_842 mw_619 mw_839) rfl rfl rfl (by decide +kernel) ⟨Nat.le_of_ble_eq_true rfl, Nat.le_of_ble_eq_true rfl⟩) (sg_preV (ci := 12) (C := RX12) (T := TX12) (N := 55) hA hK hP hS hZ 0 (by decide) rfl rfl) rfl rfl hl.1 rfl (lv_room (Nat.le_of_ble_eq_true rfl)) dX12_one_205 ⟨Nat.le_refl _, Nat.le_refl _⟩) hA hS (fun r_74 f_71 L_72 Q_73 H locs hq hP hS => ?_)
            obtain ⟨⟨ef9, eL9, eQ9⟩, hq, p_75⟩ := hq
            rw [ef9, eL9, eQ9] at hP; clear ef9 eL9 eQ9
            refine lv_iadd hx hb dX12_one_208 ?_
            refine lv_topi (fun v_76 ev_76 => ?_)
            refine lv_bipush (v := 48) hx hb dX12_one_209 (by decide) ?_
            refine lv_isub hx hb dX12_one_211 ?_
            refine lv_topi (fun v_77 ev_77 => ?_)
            refine lv_istore_n (lv' := [(3, .int v_77), (0, .ref (h 0)), (4, .int y4_176)]) hx hb dX12_one_212 rfl hl (by decide) rfl (fun ls hl => ?_)
            obtain ⟨v_78, ev_78⟩ : ∃ z : Int32, z = y4_176 + 1 := ⟨_, rfl⟩
            have q_79 : v_78.toInt = y4_176.toInt + 1 := by rw [ev_78]; exact (bn_addc y4_176 1 (by decide) (by omega) (by omega))
            refine lv_iinc (v := v_78) (lv' := [(4, .int v_78), (3, .int v_77), (0, .ref (h 0))]) hx hb dX12_one_213 hl (k := 2) rfl (by rw [ev_78]; rfl) (by decide) rfl (fun ls hl => ?_)
            refine lv_aload_n hx hb dX12_one_216 rfl (lv_at hl 2 rfl) ?_
            refine lv_dup hx hb dX12_one_217 rfl ?_
            refine sg_get (ci := 12) (v := .int v_40) (C := RX12) (T := TX12) (N := 55) hx hb hts (fun w h => List.mem_cons_of_mem _ (gx_12 w h)) hown hK hP 0 (by decide) rfl rfl 13 (by decide) (hts _ (List.mem_cons_of_mem _ mw_625)) (fun _ h9 => h9) (congrArg (fun z => some (Value.int z)) (show fp_176 0 13 = v_40 from ev_40.symm)) dX12_one_218 ?_
            refine lv_iconst (v := 1) hx hb dX12_one_221 (by decide) ?_
            refine lv_iadd hx hb dX12_one_222 ?_
            refine lv_topi (fun v_80 ev_80 => ?_)
            have q_81 : v_80.toInt = v_40.toInt + 1 := by rw [ev_80]; have k1 : (1 : Int32).toInt = 1 := (by decide); exact (bn_addI (by omega) (by omega)).trans (by omega)
            refine sg_put (ci := 12) (x := v_80) (ty := .int) (C := RX12) (T := TX12) (N := 55) hx hb hts (fun w h => List.mem_cons_of_mem _ (gx_12 w h)) tyX12 tyX12_ok nmX12 hown hh hA hK hP hS 0 (by decide) rfl rfl 13 (by decide) (hts _ (List.mem_cons_of_mem _ mw_625)) (fun _ h9 => h9) rfl rfl (by decide +kernel) rfl rfl (Nat.le_of_ble_eq_true rfl) dX12_one_223 (fun f_82 H locs ef_82 hP hS => ?_)
            have hI : sgI loM hiM f_82 := by rw [ef_82]; exact sgI.put hI 0 13 (show 0 ≤ (v_80 : Int32).toInt ∧ (v_80 : Int32).toInt ≤ 120 from by omega)
            have hF : sgK WkX12_one_3 f f_82 := sgK.put hF ef_82 (by rfl)
            refine lv_goto (tgt := 176) hx hb dX12_one_226 (by decide) ?_
            exact ih_176 v_77 v_78 f_82 _ _ _ (by omega) (by have zz0_15 : (f_82 0 15).toInt = v_37.toInt := (congrArg Int32.toInt (show f_82 0 15 = v_37 from (by rw [ef_82, sg_up_s, sgu_n (by decide)]; exact ev_37.symm))); omega) (by omega) (by have zz0_13 : (f_82 0 13).toInt = v_80.toInt := (congrArg Int32.toInt (show f_82 0 13 = v_80 from (by rw [ef_82, sg_up_s, sgu_s]))); omega) (by have zz0_16 : (f_82 0 16).toInt = v_43.toInt := (congrArg Int32.toInt (show f_82 0 16 = v_43 from (by rw [ef_82, sg_up_s, sgu_n (by decide)]; exact ev_43.symm))); omega) (by have zz0_15 : (f_82 0 15).toInt = v_37.toInt := (congrArg Int32.toInt (show f_82 0 15 = v_37 from (by rw [ef_82, sg_up_s, sgu_n (by decide)]; exact ev_37.symm))); have zz0_16 : (f_82 0 16).toInt = v_43.toInt := (congrArg Int32.toInt (show f_82 0 16 = v_43 from (by rw [ef_82, sg_up_s, sgu_n (by decide)]; exact ev_43.symm))); omega) hI hF hP hS (lv_sub hl [2, 1, 0] rfl)
  refine lv_aload_n hx hb dX12_one_0 rfl (lv_at hl 0 rfl) ?_
  refine sg_get (ci := 12) (v := .int v_3) (C := RX12) (T := TX12) (N := 55) hx hb hts (fun w h => List.mem_cons_of_mem _ (gx_12 w h)) hown hK hP 0 (by decide) rfl rfl 15 (by decide) (hts _ (List.mem_cons_of_mem _ mw_627)) (fun _ h9 => h9) (congrArg (fun z => some (Value.int z)) (show f 0 15 = v_3 from ev_3.symm)) dX12_one_1 ?_
  refine lv_if_lt (tgt := 9) hx hb dX12_one_4 (by decide) (fun c => ?_) (fun c => ?_)
  · skip
    have c_83 : v_3.toInt < 0 := (by have z := bn_lt c; have k1 : (0 : Int32).toInt = 0 := (by decide); omega)
    refine lv_aload_n hx hb dX12_one_9 rfl (lv_at hl 0 rfl) ?_
    have q_85 : (f 0 13).toInt = v_5.toInt := (congrArg Int32.toInt (show f 0 13 = v_5 from ev_5.symm))
    obtain ⟨v_86, ev_86⟩ : ∃ z : Int32, z = f 0 14 := ⟨_, rfl⟩
    have q_87 : 0 ≤ v_86.toInt ∧ v_86.toInt ≤ 120 := by rw [ev_86]; exact hI 0 14
    have q_88 : (f 0 14).toInt = v_86.toInt := (congrArg Int32.toInt (show f 0 14 = v_86 from ev_86.symm))
    refine sg_calli (va_runV (As := []) (rest := []) ⟨hx, hb, hml, hown, hts⟩ (kX12_byteAt l D ca za h hh f L Q hI H.size) (cwV 0 hts (gw_V (fun _ h => List.mem_cons_of_mem _ h) mw_840 mw_841 mw_842 mw_619 mw_839) rfl rfl rfl (by decide +kernel) ⟨Nat.le_of_ble_eq_true rfl, Nat.le_of_ble_eq_true rfl⟩) (sg_preV (ci := 12) (C := RX12) (T := TX12) (N := 55) hA hK hP hS hZ 0 (by decide) rfl rfl) rfl rfl hl.1 rfl (lv_room (Nat.le_of_ble_eq_true rfl)) dX12_one_10 ⟨Nat.le_refl _, Nat.le_refl _⟩) hA hS (fun r_92 f_89 L_90 Q_91 H locs hq hP hS => ?_)
    obtain ⟨⟨ef9, eL9, eQ9⟩, hq, p_93⟩ := hq
    rw [ef9, eL9, eQ9] at hP; clear ef9 eL9 eQ9
    refine lv_istore_n (lv' := [(1, .int r_92), (0, .ref (h 0))]) hx hb dX12_one_13 rfl hl (by decide) rfl (fun ls hl => ?_)
    refine lv_iload_n hx hb dX12_one_14 rfl (lv_at hl 0 rfl) ?_
    refine lv_bipush (v := 33) hx hb dX12_one_15 (by decide) ?_
    refine lv_icmp_eq (tgt := 32) hx hb dX12_one_17 (by decide) (fun c => ?_) (fun c => ?_)
    · skip
      have c_94 : r_92.toInt = 33 := (by have z := Int32.toInt_inj.mpr c; have k1 : (33 : Int32).toInt = 33 := (by decide); omega)
      refine lv_aload_n hx hb dX12_one_32 rfl (lv_at hl 1 rfl) ?_
      have c_96 : v_1 = 3 := Int32.toInt_inj.mp (by have k9 : (3 : Int32).toInt = 3 := (by decide); omega)
      refine sg_get (ci := 12) (v := .int 3) (C := RX12) (T := TX12) (N := 55) hx hb hts (fun w h => List.mem_cons_of_mem _ (gx_12 w h)) hown hK hP 0 (by decide) rfl rfl 16 (by decide) (hts _ (List.mem_cons_of_mem _ mw_628)) (fun _ h9 => h9) (congrArg (fun z => some (Value.int z)) (show f 0 16 = 3 from (Eq.trans ev_1.symm c_96))) dX12_one_33 ?_
      refine lv_bipush (v := 6) hx hb dX12_one_36 (by decide) ?_
      refine lv_icmp_ne (tgt := 46) hx hb dX12_one_38 (by decide) (fun c => ?_) (fun c => absurd c (by decide))
      refine lv_aload_n hx hb dX12_one_46 rfl (lv_at hl 1 rfl) ?_
      refine lv_dup hx hb dX12_one_47 rfl ?_
      refine sg_get (ci := 12) (v := .int 3) (C := RX12) (T := TX12) (N := 55) hx hb hts (fun w h => List.mem_cons_of_mem _ (gx_12 w h)) hown hK hP 0 (by decide) rfl rfl 16 (by decide) (hts _ (List.mem_cons_of_mem _ mw_628)) (fun _ h9 => h9) (congrArg (fun z => some (Value.int z)) (show f 0 16 = 3 from (Eq.trans ev_1.symm c_96))) dX12_one_48 ?_
      refine lv_iconst (v := 1) hx hb dX12_one_51 (by decide) ?_
      refine lv_iadd hx hb dX12_one_52 ?_
      refine W.eq (g2 := F0 m 53 ls [.int 4, .ref (h 0)]) (by rw [show (3 + 1 : Int32) = 4 from by decide]) ?_
      refine sg_put (ci := 12) (x := 4) (ty := .int) (C := RX12) (T := TX12) (N := 55) hx hb hts (fun w h => List.mem_cons_of_mem _ (gx_12 w h)) tyX12 tyX12_ok nmX12 hown hh hA hK hP hS 0 (by decide) rfl rfl 16 (by decide) (hts _ (List.mem_cons_of_mem _ mw_628)) (fun _ h9 => h9) rfl rfl (by decide +kernel) rfl rfl (Nat.le_of_ble_eq_true rfl) dX12_one_53 (fun f_97 H locs ef_97 hP hS => ?_)
      have hI : sgI loM hiM f_97 := by rw [ef_97]; exact sgI.put hI 0 16 (show 0 ≤ (4 : Int32).toInt ∧ (4 : Int32).toInt ≤ 6 from by decide)
      have hF : sgK WkX12_one_3 f f_97 := sgK.put hF ef_97 (by rfl)
      refine lv_aload_n hx hb dX12_one_56 rfl (lv_at hl 1 rfl) ?_
      refine lv_dup hx hb dX12_one_57 rfl ?_
      refine sg_get (ci := 12) (v := .int v_5) (C := RX12) (T := TX12) (N := 55) hx hb hts (fun w h => List.mem_cons_of_mem _ (gx_12 w h)) hown hK hP 0 (by decide) rfl rfl 13 (by decide) (hts _ (List.mem_cons_of_mem _ mw_625)) (fun _ h9 => h9) (congrArg (fun z => some (Value.int z)) (show f_97 0 13 = v_5 from (by rw [ef_97, sg_up_s, sgu_n (by decide)]; exact ev_5.symm))) dX12_one_58 ?_
      refine lv_iconst (v := 1) hx hb dX12_one_61 (by decide) ?_
      refine lv_iadd hx hb dX12_one_62 ?_
      refine lv_topi (fun v_98 ev_98 => ?_)
      have q_99 : v_98.toInt = v_5.toInt + 1 := by rw [ev_98]; have k1 : (1 : Int32).toInt = 1 := (by decide); exact (bn_addI (by omega) (by omega)).trans (by omega)
      refine sg_put (ci := 12) (x := v_98) (ty := .int) (C := RX12) (T := TX12) (N := 55) hx hb hts (fun w h => List.mem_cons_of_mem _ (gx_12 w h)) tyX12 tyX12_ok nmX12 hown hh hA hK hP hS 0 (by decide) rfl rfl 13 (by decide) (hts _ (List.mem_cons_of_mem _ mw_625)) (fun _ h9 => h9) rfl rfl (by decide +kernel) rfl rfl (Nat.le_of_ble_eq_true rfl) dX12_one_63 (fun f_100 H locs ef_100 hP hS => ?_)
      have hI : sgI loM hiM f_100 := by rw [ef_100]; exact sgI.put hI 0 13 (show 0 ≤ (v_98 : Int32).toInt ∧ (v_98 : Int32).toInt ≤ 120 from by omega)
      have hF : sgK WkX12_one_3 f f_100 := sgK.put hF ef_100 (by rfl)
      refine lv_iload_n hx hb dX12_one_66 rfl (lv_at hl 0 rfl) ?_
      refine lv_bipush (v := 40) hx hb dX12_one_67 (by decide) ?_
      refine lv_icmp_ne (tgt := 79) hx hb dX12_one_69 (by decide) (fun c => ?_) (fun c => ?_)
      · skip
        have c_101 : r_92.toInt ≠ 40 := (by have z := bn_ne c; have k1 : (40 : Int32).toInt = 40 := (by decide); omega)
        refine lv_aload_n hx hb dX12_one_79 rfl (lv_at hl 1 rfl) ?_
        have q_103 : (f_100 0 16).toInt = 4 := (congrArg Int32.toInt (show f_100 0 16 = 4 from (by rw [ef_100, sg_up_s, sgu_n (by decide)]; exact (by rw [ef_97, sg_up_s, sgu_s])))).trans (by decide)
        have q_104 : (f_100 0 15).toInt = v_3.toInt := (congrArg Int32.toInt (show f_100 0 15 = v_3 from (by rw [ef_100, sg_up_s, sgu_n (by decide)]; exact (by rw [ef_97, sg_up_s, sgu_n (by decide)]; exact ev_3.symm))))
        have q_105 : (f_100 0 16).toInt = 4 := (congrArg Int32.toInt (show f_100 0 16 = 4 from (by rw [ef_100, sg_up_s, sgu_n (by decide)]; exact (by rw [ef_97, sg_up_s, sgu_s])))).trans (by decide)
        have q_106 : (f_100 0 13).toInt = v_98.toInt := (congrArg Int32.toInt (show f_100 0 13 = v_98 from (by rw [ef_100, sg_up_s, sgu_s])))
        refine sg_calli (va_runV (As := []) (rest := []) ⟨hx, hb, hml, hown, hts⟩ (kX12_one_4 l D ca za h hh f_100 L Q hI (by omega) (by omega) H.size) (cwV 0 hts (gw_V (fun _ h => List.mem_cons_of_mem _ h) mw_789 mw_790 mw_791 mw_619 mw_788) rfl rfl rfl (by decide +kernel) ⟨Nat.le_of_ble_eq_true rfl, Nat.le_of_ble_eq_true rfl⟩) (sg_preV (ci := 12) (C := RX12) (T := TX12) (N := 55) hA hK hP hS hZ 0 (by decide) rfl rfl) rfl rfl hl.1 rfl (lv_room (Nat.le_of_ble_eq_true rfl)) dX12_one_80 ⟨Nat.le_refl _, Nat.le_refl _⟩) hA hS (fun r_110 f_107 L_108 Q_109 H locs hq hP hS => ?_)
        obtain ⟨⟨hI, hk_f_107, eL9, eQ9⟩, hq, p_111, p_112, p_113⟩ := hq
        rw [eL9, eQ9] at hP; clear eL9 eQ9
        have hF : sgK WkX12_one_3 f f_107 := sgK.tr hF hk_f_107 (by decide)
        obtain ⟨v_114, ev_114⟩ : ∃ z : Int32, z = f_107 0 13 := ⟨_, rfl⟩
        have q_115 : 0 ≤ v_114.toInt ∧ v_114.toInt ≤ 120 := by rw [ev_114]; exact hI 0 13
        have q_116 : (f_107 0 13).toInt = v_114.toInt := (congrArg Int32.toInt (show f_107 0 13 = v_114 from ev_114.symm))
        obtain ⟨v_117, ev_117⟩ : ∃ z : Int32, z = f_107 0 16 := ⟨_, rfl⟩
        have q_118 : 0 ≤ v_117.toInt ∧ v_117.toInt ≤ 6 := by rw [ev_117]; exact hI 0 16
        have q_119 : (f_107 0 16).toInt = v_117.toInt := (congrArg Int32.toInt (show f_107 0 16 = v_117 from ev_117.symm))
        obtain ⟨v_120, ev_120⟩ : ∃ z : Int32, z = f_107 0 15 := ⟨_, rfl⟩
        have q_121 : (-1) ≤ v_120.toInt ∧ v_120.toInt ≤ 120 := by rw [ev_120]; exact hI 0 15
        have q_122 : (f_107 0 15).toInt = v_120.toInt := (congrArg Int32.toInt (show f_107 0 15 = v_120 from ev_120.symm))
        have q_123 : (f_107 0 16).toInt = v_117.toInt := (congrArg Int32.toInt (show f_107 0 16 = v_117 from ev_117.symm))
        refine lv_istore_n (lv' := [(2, .int r_110), (1, .int r_92), (0, .ref (h 0))]) hx hb dX12_one_83 rfl hl (by decide) rfl (fun ls hl => ?_)
        refine lv_iload_n hx hb dX12_one_84 rfl (lv_at hl 1 rfl) ?_
        refine lv_bipush (v := 40) hx hb dX12_one_85 (by decide) ?_
        refine lv_icmp_ne (tgt := 104) hx hb dX12_one_87 (by decide) (fun c => ?_) (fun c => ?_)
        · skip
          have c_124 : r_92.toInt ≠ 40 := (by have z := bn_ne c; have k1 : (40 : Int32).toInt = 40 := (by decide); omega)
          refine lv_aload_n hx hb dX12_one_104 rfl (lv_at hl 2 rfl) ?_
          refine lv_dup hx hb dX12_one_105 rfl ?_
          refine sg_get (ci := 12) (v := .int v_117) (C := RX12) (T := TX12) (N := 55) hx hb hts (fun w h => List.mem_cons_of_mem _ (gx_12 w h)) hown hK hP 0 (by decide) rfl rfl 16 (by decide) (hts _ (List.mem_cons_of_mem _ mw_628)) (fun _ h9 => h9) (congrArg (fun z => some (Value.int z)) (show f_107 0 16 = v_117 from ev_117.symm)) dX12_one_106 ?_
          refine lv_iconst (v := 1) hx hb dX12_one_109 (by decide) ?_
          refine lv_isub hx hb dX12_one_110 ?_
          refine lv_topi (fun v_126 ev_126 => ?_)
          have q_127 : v_126.toInt = v_117.toInt - 1 := by rw [ev_126]; have k1 : (1 : Int32).toInt = 1 := (by decide); exact (bn_subI (by omega) (by omega)).trans (by omega)
          refine sg_put (ci := 12) (x := v_126) (ty := .int) (C := RX12) (T := TX12) (N := 55) hx hb hts (fun w h => List.mem_cons_of_mem _ (gx_12 w h)) tyX12 tyX12_ok nmX12 hown hh hA hK hP hS 0 (by decide) rfl rfl 16 (by decide) (hts _ (List.mem_cons_of_mem _ mw_628)) (fun _ h9 => h9) rfl rfl (by decide +kernel) rfl rfl (Nat.le_of_ble_eq_true rfl) dX12_one_111 (fun f_128 H locs ef_128 hP hS => ?_)
          have hI : sgI loM hiM f_128 := by rw [ef_128]; exact sgI.put hI 0 16 (show 0 ≤ (v_126 : Int32).toInt ∧ (v_126 : Int32).toInt ≤ 6 from by omega)
          have hF : sgK WkX12_one_3 f f_128 := sgK.put hF ef_128 (by rfl)
          refine lv_iload_n hx hb dX12_one_114 rfl (lv_at hl 1 rfl) ?_
          refine lv_bipush (v := 40) hx hb dX12_one_115 (by decide) ?_
          refine lv_icmp_ne (tgt := 124) hx hb dX12_one_117 (by decide) (fun c => ?_) (fun c => ?_)
          · skip
            have c_129 : r_92.toInt ≠ 40 := (by have z := bn_ne c; have k1 : (40 : Int32).toInt = 40 := (by decide); omega)
            refine lv_iload_n hx hb dX12_one_124 rfl (lv_at hl 1 rfl) ?_
            refine lv_bipush (v := 45) hx hb dX12_one_125 (by decide) ?_
            refine lv_icmp_ne (tgt := 135) hx hb dX12_one_127 (by decide) (fun c => ?_) (fun c => ?_)
            · skip
              have c_131 : r_92.toInt ≠ 45 := (by have z := bn_ne c; have k1 : (45 : Int32).toInt = 45 := (by decide); omega)
              refine lv_iload_n hx hb dX12_one_135 rfl (lv_at hl 0 rfl) ?_
              refine lv_if_ne (tgt := 143) hx hb dX12_one_136 (by decide) (fun c => ?_) (fun c => ?_)
              · skip
                have c_133 : r_110.toInt ≠ 0 := (by have z := bn_ne c; have k1 : (0 : Int32).toInt = 0 := (by decide); omega)
                refine lv_iconst (v := 0) hx hb dX12_one_143 (by decide) ?_
                have q_135 : (f_128 0 13).toInt = v_114.toInt := (congrArg Int32.toInt (show f_128 0 13 = v_114 from (by rw [ef_128, sg_up_s, sgu_n (by decide)]; exact ev_114.symm)))
                have q_136 : (f_128 0 16).toInt = v_126.toInt := (congrArg Int32.toInt (show f_128 0 16 = v_126 from (by rw [ef_128, sg_up_s, sgu_s])))
                have q_137 : (f_128 0 15).toInt = v_120.toInt := (congrArg Int32.toInt (show f_128 0 15 = v_120 from (by rw [ef_128, sg_up_s, sgu_n (by decide)]; exact ev_120.symm)))
                have q_138 : (f_128 0 16).toInt = v_126.toInt := (congrArg Int32.toInt (show f_128 0 16 = v_126 from (by rw [ef_128, sg_up_s, sgu_s])))
                have k99 : (0 : Int32).toInt = 0 := (by decide)
                exact hret _ _ _ _ (0) f_128 L Q dX12_one_144 hP hS ⟨⟨hI, hF, rfl, rfl⟩, trivial, (by omega), (by omega), (by omega)⟩
              · skip
                have c_134 : r_110.toInt = 0 := (by have z := Int32.toInt_inj.mpr c; have k1 : (0 : Int32).toInt = 0 := (by decide); omega)
                refine lv_iconst (v := 1) hx hb dX12_one_139 (by decide) ?_
                refine lv_goto (tgt := 144) hx hb dX12_one_140 (by decide) ?_
                have q_139 : (f_128 0 13).toInt = v_114.toInt := (congrArg Int32.toInt (show f_128 0 13 = v_114 from (by rw [ef_128, sg_up_s, sgu_n (by decide)]; exact ev_114.symm)))
                have q_140 : (f_128 0 16).toInt = v_126.toInt := (congrArg Int32.toInt (show f_128 0 16 = v_126 from (by rw [ef_128, sg_up_s, sgu_s])))
                have q_141 : (f_128 0 15).toInt = v_120.toInt := (congrArg Int32.toInt (show f_128 0 15 = v_120 from (by rw [ef_128, sg_up_s, sgu_n (by decide)]; exact ev_120.symm)))
                have q_142 : (f_128 0 16).toInt = v_126.toInt := (congrArg Int32.toInt (show f_128 0 16 = v_126 from (by rw [ef_128, sg_up_s, sgu_s])))
                have k99 : (1 : Int32).toInt = 1 := (by decide)
                exact hret _ _ _ _ (1) f_128 L Q dX12_one_144 hP hS ⟨⟨hI, hF, rfl, rfl⟩, trivial, (by omega), (by omega), (by omega)⟩
            · skip
              exfalso; have c_132 : r_92.toInt = 45 := (by have z := Int32.toInt_inj.mpr c; have k1 : (45 : Int32).toInt = 45 := (by decide); omega); omega
          · skip
            exfalso; have c_130 : r_92.toInt = 40 := (by have z := Int32.toInt_inj.mpr c; have k1 : (40 : Int32).toInt = 40 := (by decide); omega); omega
        · skip
          exfalso; have c_125 : r_92.toInt = 40 := (by have z := Int32.toInt_inj.mpr c; have k1 : (40 : Int32).toInt = 40 := (by decide); omega); omega
      · skip
        exfalso; have c_102 : r_92.toInt = 40 := (by have z := Int32.toInt_inj.mpr c; have k1 : (40 : Int32).toInt = 40 := (by decide); omega); omega
    · skip
      have c_95 : r_92.toInt ≠ 33 := (by have z := bn_ne c; have k1 : (33 : Int32).toInt = 33 := (by decide); omega)
      refine lv_iload_n hx hb dX12_one_20 rfl (lv_at hl 0 rfl) ?_
      refine lv_bipush (v := 45) hx hb dX12_one_21 (by decide) ?_
      refine lv_icmp_eq (tgt := 32) hx hb dX12_one_23 (by decide) (fun c => ?_) (fun c => ?_)
      · skip
        have c_143 : r_92.toInt = 45 := (by have z := Int32.toInt_inj.mpr c; have k1 : (45 : Int32).toInt = 45 := (by decide); omega)
        refine lv_aload_n hx hb dX12_one_32 rfl (lv_at hl 1 rfl) ?_
        have c_145 : v_1 = 3 := Int32.toInt_inj.mp (by have k9 : (3 : Int32).toInt = 3 := (by decide); omega)
        refine sg_get (ci := 12) (v := .int 3) (C := RX12) (T := TX12) (N := 55) hx hb hts (fun w h => List.mem_cons_of_mem _ (gx_12 w h)) hown hK hP 0 (by decide) rfl rfl 16 (by decide) (hts _ (List.mem_cons_of_mem _ mw_628)) (fun _ h9 => h9) (congrArg (fun z => some (Value.int z)) (show f 0 16 = 3 from (Eq.trans ev_1.symm c_145))) dX12_one_33 ?_
        refine lv_bipush (v := 6) hx hb dX12_one_36 (by decide) ?_
        refine lv_icmp_ne (tgt := 46) hx hb dX12_one_38 (by decide) (fun c => ?_) (fun c => absurd c (by decide))
        refine lv_aload_n hx hb dX12_one_46 rfl (lv_at hl 1 rfl) ?_
        refine lv_dup hx hb dX12_one_47 rfl ?_
        refine sg_get (ci := 12) (v := .int 3) (C := RX12) (T := TX12) (N := 55) hx hb hts (fun w h => List.mem_cons_of_mem _ (gx_12 w h)) hown hK hP 0 (by decide) rfl rfl 16 (by decide) (hts _ (List.mem_cons_of_mem _ mw_628)) (fun _ h9 => h9) (congrArg (fun z => some (Value.int z)) (show f 0 16 = 3 from (Eq.trans ev_1.symm c_145))) dX12_one_48 ?_
        refine lv_iconst (v := 1) hx hb dX12_one_51 (by decide) ?_
        refine lv_iadd hx hb dX12_one_52 ?_
        refine W.eq (g2 := F0 m 53 ls [.int 4, .ref (h 0)]) (by rw [show (3 + 1 : Int32) = 4 from by decide]) ?_
        refine sg_put (ci := 12) (x := 4) (ty := .int) (C := RX12) (T := TX12) (N := 55) hx hb hts (fun w h => List.mem_cons_of_mem _ (gx_12 w h)) tyX12 tyX12_ok nmX12 hown hh hA hK hP hS 0 (by decide) rfl rfl 16 (by decide) (hts _ (List.mem_cons_of_mem _ mw_628)) (fun _ h9 => h9) rfl rfl (by decide +kernel) rfl rfl (Nat.le_of_ble_eq_true rfl) dX12_one_53 (fun f_146 H locs ef_146 hP hS => ?_)
        have hI : sgI loM hiM f_146 := by rw [ef_146]; exact sgI.put hI 0 16 (show 0 ≤ (4 : Int32).toInt ∧ (4 : Int32).toInt ≤ 6 from by decide)
        have hF : sgK WkX12_one_3 f f_146 := sgK.put hF ef_146 (by rfl)
        refine lv_aload_n hx hb dX12_one_56 rfl (lv_at hl 1 rfl) ?_
        refine lv_dup hx hb dX12_one_57 rfl ?_
        refine sg_get (ci := 12) (v := .int v_5) (C := RX12) (T := TX12) (N := 55) hx hb hts (fun w h => List.mem_cons_of_mem _ (gx_12 w h)) hown hK hP 0 (by decide) rfl rfl 13 (by decide) (hts _ (List.mem_cons_of_mem _ mw_625)) (fun _ h9 => h9) (congrArg (fun z => some (Value.int z)) (show f_146 0 13 = v_5 from (by rw [ef_146, sg_up_s, sgu_n (by decide)]; exact ev_5.symm))) dX12_one_58 ?_
        refine lv_iconst (v := 1) hx hb dX12_one_61 (by decide) ?_
        refine lv_iadd hx hb dX12_one_62 ?_
        refine lv_topi (fun v_147 ev_147 => ?_)
        have q_148 : v_147.toInt = v_5.toInt + 1 := by rw [ev_147]; have k1 : (1 : Int32).toInt = 1 := (by decide); exact (bn_addI (by omega) (by omega)).trans (by omega)
        refine sg_put (ci := 12) (x := v_147) (ty := .int) (C := RX12) (T := TX12) (N := 55) hx hb hts (fun w h => List.mem_cons_of_mem _ (gx_12 w h)) tyX12 tyX12_ok nmX12 hown hh hA hK hP hS 0 (by decide) rfl rfl 13 (by decide) (hts _ (List.mem_cons_of_mem _ mw_625)) (fun _ h9 => h9) rfl rfl (by decide +kernel) rfl rfl (Nat.le_of_ble_eq_true rfl) dX12_one_63 (fun f_149 H locs ef_149 hP hS => ?_)
        have hI : sgI loM hiM f_149 := by rw [ef_149]; exact sgI.put hI 0 13 (show 0 ≤ (v_147 : Int32).toInt ∧ (v_147 : Int32).toInt ≤ 120 from by omega)
        have hF : sgK WkX12_one_3 f f_149 := sgK.put hF ef_149 (by rfl)
        refine lv_iload_n hx hb dX12_one_66 rfl (lv_at hl 0 rfl) ?_
        refine lv_bipush (v := 40) hx hb dX12_one_67 (by decide) ?_
        refine lv_icmp_ne (tgt := 79) hx hb dX12_one_69 (by decide) (fun c => ?_) (fun c => ?_)
        · skip
          have c_150 : r_92.toInt ≠ 40 := (by have z := bn_ne c; have k1 : (40 : Int32).toInt = 40 := (by decide); omega)
          refine lv_aload_n hx hb dX12_one_79 rfl (lv_at hl 1 rfl) ?_
          have q_152 : (f_149 0 16).toInt = 4 := (congrArg Int32.toInt (show f_149 0 16 = 4 from (by rw [ef_149, sg_up_s, sgu_n (by decide)]; exact (by rw [ef_146, sg_up_s, sgu_s])))).trans (by decide)
          have q_153 : (f_149 0 15).toInt = v_3.toInt := (congrArg Int32.toInt (show f_149 0 15 = v_3 from (by rw [ef_149, sg_up_s, sgu_n (by decide)]; exact (by rw [ef_146, sg_up_s, sgu_n (by decide)]; exact ev_3.symm))))
          have q_154 : (f_149 0 16).toInt = 4 := (congrArg Int32.toInt (show f_149 0 16 = 4 from (by rw [ef_149, sg_up_s, sgu_n (by decide)]; exact (by rw [ef_146, sg_up_s, sgu_s])))).trans (by decide)
          have q_155 : (f_149 0 13).toInt = v_147.toInt := (congrArg Int32.toInt (show f_149 0 13 = v_147 from (by rw [ef_149, sg_up_s, sgu_s])))
          refine sg_calli (va_runV (As := []) (rest := []) ⟨hx, hb, hml, hown, hts⟩ (kX12_one_4 l D ca za h hh f_149 L Q hI (by omega) (by omega) H.size) (cwV 0 hts (gw_V (fun _ h => List.mem_cons_of_mem _ h) mw_789 mw_790 mw_791 mw_619 mw_788) rfl rfl rfl (by decide +kernel) ⟨Nat.le_of_ble_eq_true rfl, Nat.le_of_ble_eq_true rfl⟩) (sg_preV (ci := 12) (C := RX12) (T := TX12) (N := 55) hA hK hP hS hZ 0 (by decide) rfl rfl) rfl rfl hl.1 rfl (lv_room (Nat.le_of_ble_eq_true rfl)) dX12_one_80 ⟨Nat.le_refl _, Nat.le_refl _⟩) hA hS (fun r_159 f_156 L_157 Q_158 H locs hq hP hS => ?_)
          obtain ⟨⟨hI, hk_f_156, eL9, eQ9⟩, hq, p_160, p_161, p_162⟩ := hq
          rw [eL9, eQ9] at hP; clear eL9 eQ9
          have hF : sgK WkX12_one_3 f f_156 := sgK.tr hF hk_f_156 (by decide)
          obtain ⟨v_163, ev_163⟩ : ∃ z : Int32, z = f_156 0 13 := ⟨_, rfl⟩
          have q_164 : 0 ≤ v_163.toInt ∧ v_163.toInt ≤ 120 := by rw [ev_163]; exact hI 0 13
          have q_165 : (f_156 0 13).toInt = v_163.toInt := (congrArg Int32.toInt (show f_156 0 13 = v_163 from ev_163.symm))
          obtain ⟨v_166, ev_166⟩ : ∃ z : Int32, z = f_156 0 16 := ⟨_, rfl⟩
          have q_167 : 0 ≤ v_166.toInt ∧ v_166.toInt ≤ 6 := by rw [ev_166]; exact hI 0 16
          have q_168 : (f_156 0 16).toInt = v_166.toInt := (congrArg Int32.toInt (show f_156 0 16 = v_166 from ev_166.symm))
          obtain ⟨v_169, ev_169⟩ : ∃ z : Int32, z = f_156 0 15 := ⟨_, rfl⟩
          have q_170 : (-1) ≤ v_169.toInt ∧ v_169.toInt ≤ 120 := by rw [ev_169]; exact hI 0 15
          have q_171 : (f_156 0 15).toInt = v_169.toInt := (congrArg Int32.toInt (show f_156 0 15 = v_169 from ev_169.symm))
          have q_172 : (f_156 0 16).toInt = v_166.toInt := (congrArg Int32.toInt (show f_156 0 16 = v_166 from ev_166.symm))
          refine lv_istore_n (lv' := [(2, .int r_159), (1, .int r_92), (0, .ref (h 0))]) hx hb dX12_one_83 rfl hl (by decide) rfl (fun ls hl => ?_)
          refine lv_iload_n hx hb dX12_one_84 rfl (lv_at hl 1 rfl) ?_
          refine lv_bipush (v := 40) hx hb dX12_one_85 (by decide) ?_
          refine lv_icmp_ne (tgt := 104) hx hb dX12_one_87 (by decide) (fun c => ?_) (fun c => ?_)
          · skip
            have c_173 : r_92.toInt ≠ 40 := (by have z := bn_ne c; have k1 : (40 : Int32).toInt = 40 := (by decide); omega)
            refine lv_aload_n hx hb dX12_one_104 rfl (lv_at hl 2 rfl) ?_
            refine lv_dup hx hb dX12_one_105 rfl ?_
            refine sg_get (ci := 12) (v := .int v_166) (C := RX12) (T := TX12) (N := 55) hx hb hts (fun w h => List.mem_cons_of_mem _ (gx_12 w h)) hown hK hP 0 (by decide) rfl rfl 16 (by decide) (hts _ (List.mem_cons_of_mem _ mw_628)) (fun _ h9 => h9) (congrArg (fun z => some (Value.int z)) (show f_156 0 16 = v_166 from ev_166.symm)) dX12_one_106 ?_
            refine lv_iconst (v := 1) hx hb dX12_one_109 (by decide) ?_
            refine lv_isub hx hb dX12_one_110 ?_
            refine lv_topi (fun v_175 ev_175 => ?_)
            have q_176 : v_175.toInt = v_166.toInt - 1 := by rw [ev_175]; have k1 : (1 : Int32).toInt = 1 := (by decide); exact (bn_subI (by omega) (by omega)).trans (by omega)
            refine sg_put (ci := 12) (x := v_175) (ty := .int) (C := RX12) (T := TX12) (N := 55) hx hb hts (fun w h => List.mem_cons_of_mem _ (gx_12 w h)) tyX12 tyX12_ok nmX12 hown hh hA hK hP hS 0 (by decide) rfl rfl 16 (by decide) (hts _ (List.mem_cons_of_mem _ mw_628)) (fun _ h9 => h9) rfl rfl (by decide +kernel) rfl rfl (Nat.le_of_ble_eq_true rfl) dX12_one_111 (fun f_177 H locs ef_177 hP hS => ?_)
            have hI : sgI loM hiM f_177 := by rw [ef_177]; exact sgI.put hI 0 16 (show 0 ≤ (v_175 : Int32).toInt ∧ (v_175 : Int32).toInt ≤ 6 from by omega)
            have hF : sgK WkX12_one_3 f f_177 := sgK.put hF ef_177 (by rfl)
            refine lv_iload_n hx hb dX12_one_114 rfl (lv_at hl 1 rfl) ?_
            refine lv_bipush (v := 40) hx hb dX12_one_115 (by decide) ?_
            refine lv_icmp_ne (tgt := 124) hx hb dX12_one_117 (by decide) (fun c => ?_) (fun c => ?_)
            · skip
              have c_178 : r_92.toInt ≠ 40 := (by have z := bn_ne c; have k1 : (40 : Int32).toInt = 40 := (by decide); omega)
              refine lv_iload_n hx hb dX12_one_124 rfl (lv_at hl 1 rfl) ?_
              refine lv_bipush (v := 45) hx hb dX12_one_125 (by decide) ?_
              refine lv_icmp_ne (tgt := 135) hx hb dX12_one_127 (by decide) (fun c => ?_) (fun c => ?_)
              · skip
                exfalso; have c_180 : r_92.toInt ≠ 45 := (by have z := bn_ne c; have k1 : (45 : Int32).toInt = 45 := (by decide); omega); omega
              · skip
                have c_181 : r_92.toInt = 45 := (by have z := Int32.toInt_inj.mpr c; have k1 : (45 : Int32).toInt = 45 := (by decide); omega)
                refine lv_iload_n hx hb dX12_one_130 rfl (lv_at hl 0 rfl) ?_
                refine lv_ineg hx hb dX12_one_131 ?_
                refine lv_topi (fun v_182 ev_182 => ?_)
                refine lv_goto (tgt := 144) hx hb dX12_one_132 (by decide) ?_
                have q_183 : (f_177 0 13).toInt = v_163.toInt := (congrArg Int32.toInt (show f_177 0 13 = v_163 from (by rw [ef_177, sg_up_s, sgu_n (by decide)]; exact ev_163.symm)))
                have q_184 : (f_177 0 16).toInt = v_175.toInt := (congrArg Int32.toInt (show f_177 0 16 = v_175 from (by rw [ef_177, sg_up_s, sgu_s])))
                have q_185 : (f_177 0 15).toInt = v_169.toInt := (congrArg Int32.toInt (show f_177 0 15 = v_169 from (by rw [ef_177, sg_up_s, sgu_n (by decide)]; exact ev_169.symm)))
                have q_186 : (f_177 0 16).toInt = v_175.toInt := (congrArg Int32.toInt (show f_177 0 16 = v_175 from (by rw [ef_177, sg_up_s, sgu_s])))
                exact hret _ _ _ _ (v_182) f_177 L Q dX12_one_144 hP hS ⟨⟨hI, hF, rfl, rfl⟩, trivial, (by omega), (by omega), (by omega)⟩
            · skip
              exfalso; have c_179 : r_92.toInt = 40 := (by have z := Int32.toInt_inj.mpr c; have k1 : (40 : Int32).toInt = 40 := (by decide); omega); omega
          · skip
            exfalso; have c_174 : r_92.toInt = 40 := (by have z := Int32.toInt_inj.mpr c; have k1 : (40 : Int32).toInt = 40 := (by decide); omega); omega
        · skip
          exfalso; have c_151 : r_92.toInt = 40 := (by have z := Int32.toInt_inj.mpr c; have k1 : (40 : Int32).toInt = 40 := (by decide); omega); omega
      · skip
        have c_144 : r_92.toInt ≠ 45 := (by have z := bn_ne c; have k1 : (45 : Int32).toInt = 45 := (by decide); omega)
        refine lv_iload_n hx hb dX12_one_26 rfl (lv_at hl 0 rfl) ?_
        refine lv_bipush (v := 40) hx hb dX12_one_27 (by decide) ?_
        refine lv_icmp_ne (tgt := 145) hx hb dX12_one_29 (by decide) (fun c => ?_) (fun c => ?_)
        · skip
          have c_187 : r_92.toInt ≠ 40 := (by have z := bn_ne c; have k1 : (40 : Int32).toInt = 40 := (by decide); omega)
          refine lv_iload_n hx hb dX12_one_145 rfl (lv_at hl 0 rfl) ?_
          refine sg_calli (va_runS (As := [.int r_92]) (rest := []) ⟨hx, hb, hml, hown, hts⟩ (kX12_nameOf l D ca za h hh f L Q hI r_92 (by omega) H.size) (va_cwS 1 hts (gw_S (fun _ h => List.mem_cons_of_mem _ h) mw_869 mw_870 mw_619 mw_868) rfl rfl rfl (by decide +kernel) ⟨Nat.le_of_ble_eq_true rfl, Nat.le_of_ble_eq_true rfl⟩) (sg_preS hA hK hP hS hZ) rfl rfl hl.1 rfl (lv_room (Nat.le_of_ble_eq_true rfl)) dX12_one_146 ⟨Nat.le_refl _, Nat.le_refl _⟩) hA hS (fun r_192 f_189 L_190 Q_191 H locs hq hP hS => ?_)
          obtain ⟨⟨ef9, eL9, eQ9⟩, hq, p_193⟩ := hq
          rw [ef9, eL9, eQ9] at hP; clear ef9 eL9 eQ9
          refine lv_istore_n (lv' := [(2, .int r_192), (1, .int r_92), (0, .ref (h 0))]) hx hb dX12_one_149 rfl hl (by decide) rfl (fun ls hl => ?_)
          refine lv_iload_n hx hb dX12_one_150 rfl (lv_at hl 0 rfl) ?_
          refine lv_if_lt (tgt := 171) hx hb dX12_one_151 (by decide) (fun c => ?_) (fun c => ?_)
          · skip
            have c_194 : r_192.toInt < 0 := (by have z := bn_lt c; have k1 : (0 : Int32).toInt = 0 := (by decide); omega)
            refine lv_iconst (v := 0) hx hb dX12_one_171 (by decide) ?_
            refine lv_istore_n (lv' := [(3, .int 0), (2, .int r_192), (1, .int r_92), (0, .ref (h 0))]) hx hb dX12_one_172 rfl hl (by decide) rfl (fun ls hl => ?_)
            refine lv_iconst (v := 0) hx hb dX12_one_173 (by decide) ?_
            refine lv_istore (lv' := [(4, .int 0), (3, .int 0), (2, .int r_192), (1, .int r_92), (0, .ref (h 0))]) hx hb dX12_one_174 hl (by decide) rfl (fun ls hl => ?_)
            exact loop_176 5 0 0 f _ _ _ (by have kc0 : (0 : Int32).toInt = 0 := (by decide); have kc1 : (0 : Int32).toInt = 0 := (by decide); omega) (by have zz0_15 : (f 0 15).toInt = v_3.toInt := (congrArg Int32.toInt (show f 0 15 = v_3 from ev_3.symm)); omega) (by decide) (by have kc0 : (0 : Int32).toInt = 0 := (by decide); have kc1 : (0 : Int32).toInt = 0 := (by decide); have zz0_13 : (f 0 13).toInt = v_5.toInt := (congrArg Int32.toInt (show f 0 13 = v_5 from ev_5.symm)); omega) (by have kc0 : (0 : Int32).toInt = 0 := (by decide); have kc1 : (0 : Int32).toInt = 0 := (by decide); have zz0_16 : (f 0 16).toInt = v_1.toInt := (congrArg Int32.toInt (show f 0 16 = v_1 from ev_1.symm)); omega) (by have kc0 : (0 : Int32).toInt = 0 := (by decide); have kc1 : (0 : Int32).toInt = 0 := (by decide); have zz0_15 : (f 0 15).toInt = v_3.toInt := (congrArg Int32.toInt (show f 0 15 = v_3 from ev_3.symm)); have zz0_16 : (f 0 16).toInt = v_1.toInt := (congrArg Int32.toInt (show f 0 16 = v_1 from ev_1.symm)); omega) hI hF hP hS (lv_sub hl [4, 1, 0] rfl)
          · skip
            have c_195 : 0 ≤ r_192.toInt := (by have z := bn_nlt c; have k1 : (0 : Int32).toInt = 0 := (by decide); omega)
            refine lv_aload_n hx hb dX12_one_154 rfl (lv_at hl 2 rfl) ?_
            refine lv_dup hx hb dX12_one_155 rfl ?_
            refine sg_get (ci := 12) (v := .int v_5) (C := RX12) (T := TX12) (N := 55) hx hb hts (fun w h => List.mem_cons_of_mem _ (gx_12 w h)) hown hK hP 0 (by decide) rfl rfl 13 (by decide) (hts _ (List.mem_cons_of_mem _ mw_625)) (fun _ h9 => h9) (congrArg (fun z => some (Value.int z)) (show f 0 13 = v_5 from ev_5.symm)) dX12_one_156 ?_
            refine lv_iconst (v := 1) hx hb dX12_one_159 (by decide) ?_
            refine lv_iadd hx hb dX12_one_160 ?_
            refine lv_topi (fun v_196 ev_196 => ?_)
            have q_197 : v_196.toInt = v_5.toInt + 1 := by rw [ev_196]; have k1 : (1 : Int32).toInt = 1 := (by decide); exact (bn_addI (by omega) (by omega)).trans (by omega)
            refine sg_put (ci := 12) (x := v_196) (ty := .int) (C := RX12) (T := TX12) (N := 55) hx hb hts (fun w h => List.mem_cons_of_mem _ (gx_12 w h)) tyX12 tyX12_ok nmX12 hown hh hA hK hP hS 0 (by decide) rfl rfl 13 (by decide) (hts _ (List.mem_cons_of_mem _ mw_625)) (fun _ h9 => h9) rfl rfl (by decide +kernel) rfl rfl (Nat.le_of_ble_eq_true rfl) dX12_one_161 (fun f_198 H locs ef_198 hP hS => ?_)
            have hI : sgI loM hiM f_198 := by rw [ef_198]; exact sgI.put hI 0 13 (show 0 ≤ (v_196 : Int32).toInt ∧ (v_196 : Int32).toInt ≤ 120 from by omega)
            have hF : sgK WkX12_one_3 f f_198 := sgK.put hF ef_198 (by rfl)
            refine lv_aload_n hx hb dX12_one_164 rfl (lv_at hl 2 rfl) ?_
            refine sg_get (ci := 12) (v := .ref (h 8)) (C := RX12) (T := TX12) (N := 55) hx hb hts (fun w h => List.mem_cons_of_mem _ (gx_12 w h)) hown hK hP 0 (by decide) rfl rfl 17 (by decide) (hts _ (List.mem_cons_of_mem _ mw_871)) (fun _ h9 => h9) rfl dX12_one_165 ?_
            refine lv_iload_n hx hb dX12_one_168 rfl (lv_at hl 0 rfl) ?_
            refine sg_iald hx hb hK hP 8 (by decide) 0 rfl rfl (i := r_192) (vp_in_iff.mpr ⟨by omega, by omega⟩) dX12_one_169 ?_
            refine lv_topi (fun v_199 ev_199 => ?_)
            have q_200 : 0 ≤ v_199.toInt ∧ v_199.toInt ≤ 60 := by rw [ev_199]; exact hI 8 _
            have q_201 : (f_198 0 13).toInt = v_196.toInt := (congrArg Int32.toInt (show f_198 0 13 = v_196 from (by rw [ef_198, sg_up_s, sgu_s])))
            have q_202 : (f_198 0 16).toInt = v_1.toInt := (congrArg Int32.toInt (show f_198 0 16 = v_1 from (by rw [ef_198, sg_up_s, sgu_n (by decide)]; exact ev_1.symm)))
            have q_203 : (f_198 0 15).toInt = v_3.toInt := (congrArg Int32.toInt (show f_198 0 15 = v_3 from (by rw [ef_198, sg_up_s, sgu_n (by decide)]; exact ev_3.symm)))
            have q_204 : (f_198 0 16).toInt = v_1.toInt := (congrArg Int32.toInt (show f_198 0 16 = v_1 from (by rw [ef_198, sg_up_s, sgu_n (by decide)]; exact ev_1.symm)))
            exact hret _ _ _ _ (v_199) f_198 L Q dX12_one_170 hP hS ⟨⟨hI, hF, rfl, rfl⟩, trivial, (by omega), (by omega), (by omega)⟩
        · skip
          have c_188 : r_92.toInt = 40 := (by have z := Int32.toInt_inj.mpr c; have k1 : (40 : Int32).toInt = 40 := (by decide); omega)
          refine lv_aload_n hx hb dX12_one_32 rfl (lv_at hl 1 rfl) ?_
          have c_205 : v_1 = 3 := Int32.toInt_inj.mp (by have k9 : (3 : Int32).toInt = 3 := (by decide); omega)
          refine sg_get (ci := 12) (v := .int 3) (C := RX12) (T := TX12) (N := 55) hx hb hts (fun w h => List.mem_cons_of_mem _ (gx_12 w h)) hown hK hP 0 (by decide) rfl rfl 16 (by decide) (hts _ (List.mem_cons_of_mem _ mw_628)) (fun _ h9 => h9) (congrArg (fun z => some (Value.int z)) (show f 0 16 = 3 from (Eq.trans ev_1.symm c_205))) dX12_one_33 ?_
          refine lv_bipush (v := 6) hx hb dX12_one_36 (by decide) ?_
          refine lv_icmp_ne (tgt := 46) hx hb dX12_one_38 (by decide) (fun c => ?_) (fun c => absurd c (by decide))
          refine lv_aload_n hx hb dX12_one_46 rfl (lv_at hl 1 rfl) ?_
          refine lv_dup hx hb dX12_one_47 rfl ?_
          refine sg_get (ci := 12) (v := .int 3) (C := RX12) (T := TX12) (N := 55) hx hb hts (fun w h => List.mem_cons_of_mem _ (gx_12 w h)) hown hK hP 0 (by decide) rfl rfl 16 (by decide) (hts _ (List.mem_cons_of_mem _ mw_628)) (fun _ h9 => h9) (congrArg (fun z => some (Value.int z)) (show f 0 16 = 3 from (Eq.trans ev_1.symm c_205))) dX12_one_48 ?_
          refine lv_iconst (v := 1) hx hb dX12_one_51 (by decide) ?_
          refine lv_iadd hx hb dX12_one_52 ?_
          refine W.eq (g2 := F0 m 53 ls [.int 4, .ref (h 0)]) (by rw [show (3 + 1 : Int32) = 4 from by decide]) ?_
          refine sg_put (ci := 12) (x := 4) (ty := .int) (C := RX12) (T := TX12) (N := 55) hx hb hts (fun w h => List.mem_cons_of_mem _ (gx_12 w h)) tyX12 tyX12_ok nmX12 hown hh hA hK hP hS 0 (by decide) rfl rfl 16 (by decide) (hts _ (List.mem_cons_of_mem _ mw_628)) (fun _ h9 => h9) rfl rfl (by decide +kernel) rfl rfl (Nat.le_of_ble_eq_true rfl) dX12_one_53 (fun f_206 H locs ef_206 hP hS => ?_)
          have hI : sgI loM hiM f_206 := by rw [ef_206]; exact sgI.put hI 0 16 (show 0 ≤ (4 : Int32).toInt ∧ (4 : Int32).toInt ≤ 6 from by decide)
          have hF : sgK WkX12_one_3 f f_206 := sgK.put hF ef_206 (by rfl)
          refine lv_aload_n hx hb dX12_one_56 rfl (lv_at hl 1 rfl) ?_
          refine lv_dup hx hb dX12_one_57 rfl ?_
          refine sg_get (ci := 12) (v := .int v_5) (C := RX12) (T := TX12) (N := 55) hx hb hts (fun w h => List.mem_cons_of_mem _ (gx_12 w h)) hown hK hP 0 (by decide) rfl rfl 13 (by decide) (hts _ (List.mem_cons_of_mem _ mw_625)) (fun _ h9 => h9) (congrArg (fun z => some (Value.int z)) (show f_206 0 13 = v_5 from (by rw [ef_206, sg_up_s, sgu_n (by decide)]; exact ev_5.symm))) dX12_one_58 ?_
          refine lv_iconst (v := 1) hx hb dX12_one_61 (by decide) ?_
          refine lv_iadd hx hb dX12_one_62 ?_
          refine lv_topi (fun v_207 ev_207 => ?_)
          have q_208 : v_207.toInt = v_5.toInt + 1 := by rw [ev_207]; have k1 : (1 : Int32).toInt = 1 := (by decide); exact (bn_addI (by omega) (by omega)).trans (by omega)
          refine sg_put (ci := 12) (x := v_207) (ty := .int) (C := RX12) (T := TX12) (N := 55) hx hb hts (fun w h => List.mem_cons_of_mem _ (gx_12 w h)) tyX12 tyX12_ok nmX12 hown hh hA hK hP hS 0 (by decide) rfl rfl 13 (by decide) (hts _ (List.mem_cons_of_mem _ mw_625)) (fun _ h9 => h9) rfl rfl (by decide +kernel) rfl rfl (Nat.le_of_ble_eq_true rfl) dX12_one_63 (fun f_209 H locs ef_209 hP hS => ?_)
          have hI : sgI loM hiM f_209 := by rw [ef_209]; exact sgI.put hI 0 13 (show 0 ≤ (v_207 : Int32).toInt ∧ (v_207 : Int32).toInt ≤ 120 from by omega)
          have hF : sgK WkX12_one_3 f f_209 := sgK.put hF ef_209 (by rfl)
          refine lv_iload_n hx hb dX12_one_66 rfl (lv_at hl 0 rfl) ?_
          refine lv_bipush (v := 40) hx hb dX12_one_67 (by decide) ?_
          refine lv_icmp_ne (tgt := 79) hx hb dX12_one_69 (by decide) (fun c => ?_) (fun c => ?_)
          · skip
            exfalso; have c_210 : r_92.toInt ≠ 40 := (by have z := bn_ne c; have k1 : (40 : Int32).toInt = 40 := (by decide); omega); omega
          · skip
            have c_211 : r_92.toInt = 40 := (by have z := Int32.toInt_inj.mpr c; have k1 : (40 : Int32).toInt = 40 := (by decide); omega)
            refine lv_aload_n hx hb dX12_one_72 rfl (lv_at hl 1 rfl) ?_
            have q_212 : (f_209 0 16).toInt = 4 := (congrArg Int32.toInt (show f_209 0 16 = 4 from (by rw [ef_209, sg_up_s, sgu_n (by decide)]; exact (by rw [ef_206, sg_up_s, sgu_s])))).trans (by decide)
            have q_213 : (f_209 0 15).toInt = v_3.toInt := (congrArg Int32.toInt (show f_209 0 15 = v_3 from (by rw [ef_209, sg_up_s, sgu_n (by decide)]; exact (by rw [ef_206, sg_up_s, sgu_n (by decide)]; exact ev_3.symm))))
            have q_214 : (f_209 0 16).toInt = 4 := (congrArg Int32.toInt (show f_209 0 16 = 4 from (by rw [ef_209, sg_up_s, sgu_n (by decide)]; exact (by rw [ef_206, sg_up_s, sgu_s])))).trans (by decide)
            have q_215 : (f_209 0 13).toInt = v_207.toInt := (congrArg Int32.toInt (show f_209 0 13 = v_207 from (by rw [ef_209, sg_up_s, sgu_s])))
            refine sg_calli (va_runV (As := []) (rest := []) ⟨hx, hb, hml, hown, hts⟩ (kX12_either_4 l D ca za h hh f_209 L Q hI (by omega) (by omega) H.size) (cwV 0 hts (gw_V (fun _ h => List.mem_cons_of_mem _ h) mw_893 mw_894 mw_895 mw_619 mw_892) rfl rfl rfl (by decide +kernel) ⟨Nat.le_of_ble_eq_true rfl, Nat.le_of_ble_eq_true rfl⟩) (sg_preV (ci := 12) (C := RX12) (T := TX12) (N := 55) hA hK hP hS hZ 0 (by decide) rfl rfl) rfl rfl hl.1 rfl (lv_room (Nat.le_of_ble_eq_true rfl)) dX12_one_73 ⟨Nat.le_refl _, Nat.le_refl _⟩) hA hS (fun r_219 f_216 L_217 Q_218 H locs hq hP hS => ?_)
            obtain ⟨⟨hI, hk_f_216, eL9, eQ9⟩, hq, p_220, p_221, p_222⟩ := hq
            rw [eL9, eQ9] at hP; clear eL9 eQ9
            have hF : sgK WkX12_one_3 f f_216 := sgK.tr hF hk_f_216 (by decide)
            obtain ⟨v_223, ev_223⟩ : ∃ z : Int32, z = f_216 0 13 := ⟨_, rfl⟩
            have q_224 : 0 ≤ v_223.toInt ∧ v_223.toInt ≤ 120 := by rw [ev_223]; exact hI 0 13
            have q_225 : (f_216 0 13).toInt = v_223.toInt := (congrArg Int32.toInt (show f_216 0 13 = v_223 from ev_223.symm))
            obtain ⟨v_226, ev_226⟩ : ∃ z : Int32, z = f_216 0 16 := ⟨_, rfl⟩
            have q_227 : 0 ≤ v_226.toInt ∧ v_226.toInt ≤ 6 := by rw [ev_226]; exact hI 0 16
            have q_228 : (f_216 0 16).toInt = v_226.toInt := (congrArg Int32.toInt (show f_216 0 16 = v_226 from ev_226.symm))
            obtain ⟨v_229, ev_229⟩ : ∃ z : Int32, z = f_216 0 15 := ⟨_, rfl⟩
            have q_230 : (-1) ≤ v_229.toInt ∧ v_229.toInt ≤ 120 := by rw [ev_229]; exact hI 0 15
            have q_231 : (f_216 0 15).toInt = v_229.toInt := (congrArg Int32.toInt (show f_216 0 15 = v_229 from ev_229.symm))
            have q_232 : (f_216 0 16).toInt = v_226.toInt := (congrArg Int32.toInt (show f_216 0 16 = v_226 from ev_226.symm))
            refine lv_goto (tgt := 83) hx hb dX12_one_76 (by decide) ?_
            refine lv_istore_n (lv' := [(2, .int r_219), (1, .int r_92), (0, .ref (h 0))]) hx hb dX12_one_83 rfl hl (by decide) rfl (fun ls hl => ?_)
            refine lv_iload_n hx hb dX12_one_84 rfl (lv_at hl 1 rfl) ?_
            refine lv_bipush (v := 40) hx hb dX12_one_85 (by decide) ?_
            refine lv_icmp_ne (tgt := 104) hx hb dX12_one_87 (by decide) (fun c => ?_) (fun c => ?_)
            · skip
              exfalso; have c_233 : r_92.toInt ≠ 40 := (by have z := bn_ne c; have k1 : (40 : Int32).toInt = 40 := (by decide); omega); omega
            · skip
              have c_234 : r_92.toInt = 40 := (by have z := Int32.toInt_inj.mpr c; have k1 : (40 : Int32).toInt = 40 := (by decide); omega)
              refine lv_aload_n hx hb dX12_one_90 rfl (lv_at hl 2 rfl) ?_
              refine lv_bipush (v := 41) hx hb dX12_one_91 (by decide) ?_
              have q_235 : (f_216 0 15).toInt = v_229.toInt := (congrArg Int32.toInt (show f_216 0 15 = v_229 from ev_229.symm))
              have q_236 : (f_216 0 13).toInt = v_223.toInt := (congrArg Int32.toInt (show f_216 0 13 = v_223 from ev_223.symm))
              have q_237 : (f_216 0 14).toInt = v_86.toInt := (congrArg Int32.toInt (show f_216 0 14 = v_86 from ((hk_f_216 0 14 (by decide)).trans (by rw [ef_209, sg_up_s, sgu_n (by decide)]; exact (by rw [ef_206, sg_up_s, sgu_n (by decide)]; exact ev_86.symm)))))
              have q_238 : (f_216 0 13).toInt = v_223.toInt := (congrArg Int32.toInt (show f_216 0 13 = v_223 from ev_223.symm))
              have q_239 : (f_216 0 13).toInt = v_223.toInt := (congrArg Int32.toInt (show f_216 0 13 = v_223 from ev_223.symm))
              refine sg_calli (va_runV (As := [.int 41]) (rest := []) ⟨hx, hb, hml, hown, hts⟩ (kX12_takes_41 l D ca za h hh f_216 L Q hI H.size) (cwV 1 hts (gw_V (fun _ h => List.mem_cons_of_mem _ h) mw_877 mw_878 mw_879 mw_619 mw_876) rfl rfl rfl (by decide +kernel) ⟨Nat.le_of_ble_eq_true rfl, Nat.le_of_ble_eq_true rfl⟩) (sg_preV (ci := 12) (C := RX12) (T := TX12) (N := 55) hA hK hP hS hZ 0 (by decide) rfl rfl) rfl rfl hl.1 rfl (lv_room (Nat.le_of_ble_eq_true rfl)) dX12_one_93 ⟨Nat.le_refl _, Nat.le_refl _⟩) hA hS (fun r_243 f_240 L_241 Q_242 H locs hq hP hS => ?_)
              obtain ⟨⟨hI, hk_f_240, eL9, eQ9⟩, hq⟩ := hq
              rw [eL9, eQ9] at hP; clear eL9 eQ9
              have hF : sgK WkX12_one_3 f f_240 := sgK.tr hF hk_f_240 (by decide)
              obtain ⟨v_244, ev_244⟩ : ∃ z : Int32, z = f_240 0 13 := ⟨_, rfl⟩
              have q_245 : 0 ≤ v_244.toInt ∧ v_244.toInt ≤ 120 := by rw [ev_244]; exact hI 0 13
              have q_246 : (f_240 0 13).toInt = v_244.toInt := (congrArg Int32.toInt (show f_240 0 13 = v_244 from ev_244.symm))
              have q_247 : (f_240 0 13).toInt = v_244.toInt := (congrArg Int32.toInt (show f_240 0 13 = v_244 from ev_244.symm))
              have k_248 : (41 : Int32).toInt = 41 := by decide
              rcases hq with ⟨rfl, hq⟩ | ⟨rfl, hq⟩
              · skip
                have q_249 := hq
                refine lv_if_ne (tgt := 104) hx hb dX12_one_96 (by decide) (fun c => ?_) (fun c => absurd c (by decide))
                refine lv_aload_n hx hb dX12_one_104 rfl (lv_at hl 2 rfl) ?_
                refine lv_dup hx hb dX12_one_105 rfl ?_
                refine sg_get (ci := 12) (v := .int v_226) (C := RX12) (T := TX12) (N := 55) hx hb hts (fun w h => List.mem_cons_of_mem _ (gx_12 w h)) hown hK hP 0 (by decide) rfl rfl 16 (by decide) (hts _ (List.mem_cons_of_mem _ mw_628)) (fun _ h9 => h9) (congrArg (fun z => some (Value.int z)) (show f_240 0 16 = v_226 from ((hk_f_240 0 16 (by decide)).trans ev_226.symm))) dX12_one_106 ?_
                refine lv_iconst (v := 1) hx hb dX12_one_109 (by decide) ?_
                refine lv_isub hx hb dX12_one_110 ?_
                refine lv_topi (fun v_250 ev_250 => ?_)
                have q_251 : v_250.toInt = v_226.toInt - 1 := by rw [ev_250]; have k1 : (1 : Int32).toInt = 1 := (by decide); exact (bn_subI (by omega) (by omega)).trans (by omega)
                refine sg_put (ci := 12) (x := v_250) (ty := .int) (C := RX12) (T := TX12) (N := 55) hx hb hts (fun w h => List.mem_cons_of_mem _ (gx_12 w h)) tyX12 tyX12_ok nmX12 hown hh hA hK hP hS 0 (by decide) rfl rfl 16 (by decide) (hts _ (List.mem_cons_of_mem _ mw_628)) (fun _ h9 => h9) rfl rfl (by decide +kernel) rfl rfl (Nat.le_of_ble_eq_true rfl) dX12_one_111 (fun f_252 H locs ef_252 hP hS => ?_)
                have hI : sgI loM hiM f_252 := by rw [ef_252]; exact sgI.put hI 0 16 (show 0 ≤ (v_250 : Int32).toInt ∧ (v_250 : Int32).toInt ≤ 6 from by omega)
                have hF : sgK WkX12_one_3 f f_252 := sgK.put hF ef_252 (by rfl)
                refine lv_iload_n hx hb dX12_one_114 rfl (lv_at hl 1 rfl) ?_
                refine lv_bipush (v := 40) hx hb dX12_one_115 (by decide) ?_
                refine lv_icmp_ne (tgt := 124) hx hb dX12_one_117 (by decide) (fun c => ?_) (fun c => ?_)
                · skip
                  exfalso; have c_253 : r_92.toInt ≠ 40 := (by have z := bn_ne c; have k1 : (40 : Int32).toInt = 40 := (by decide); omega); omega
                · skip
                  have c_254 : r_92.toInt = 40 := (by have z := Int32.toInt_inj.mpr c; have k1 : (40 : Int32).toInt = 40 := (by decide); omega)
                  refine lv_iload_n hx hb dX12_one_120 rfl (lv_at hl 0 rfl) ?_
                  refine lv_goto (tgt := 144) hx hb dX12_one_121 (by decide) ?_
                  have q_255 : (f_252 0 13).toInt = v_244.toInt := (congrArg Int32.toInt (show f_252 0 13 = v_244 from (by rw [ef_252, sg_up_s, sgu_n (by decide)]; exact ev_244.symm)))
                  have q_256 : (f_252 0 16).toInt = v_250.toInt := (congrArg Int32.toInt (show f_252 0 16 = v_250 from (by rw [ef_252, sg_up_s, sgu_s])))
                  have q_257 : (f_252 0 15).toInt = v_229.toInt := (congrArg Int32.toInt (show f_252 0 15 = v_229 from (by rw [ef_252, sg_up_s, sgu_n (by decide)]; exact ((hk_f_240 0 15 (by decide)).trans ev_229.symm))))
                  have q_258 : (f_252 0 16).toInt = v_250.toInt := (congrArg Int32.toInt (show f_252 0 16 = v_250 from (by rw [ef_252, sg_up_s, sgu_s])))
                  exact hret _ _ _ _ (r_219) f_252 L Q dX12_one_144 hP hS ⟨⟨hI, hF, rfl, rfl⟩, trivial, (by omega), (by omega), (by omega)⟩
              · skip
                have q_259 := hq
                refine lv_if_ne (tgt := 104) hx hb dX12_one_96 (by decide) (fun c => absurd c (by decide)) (fun c => ?_)
                refine lv_aload_n hx hb dX12_one_99 rfl (lv_at hl 2 rfl) ?_
                refine sg_calli (va_runV (As := []) (rest := []) ⟨hx, hb, hml, hown, hts⟩ (kX12_wrong l D ca za h hh f_240 L Q hI H.size) (cwV 0 hts (gw_V (fun _ h => List.mem_cons_of_mem _ h) mw_889 mw_890 mw_891 mw_619 mw_888) rfl rfl rfl (by decide +kernel) ⟨Nat.le_of_ble_eq_true rfl, Nat.le_of_ble_eq_true rfl⟩) (sg_preV (ci := 12) (C := RX12) (T := TX12) (N := 55) hA hK hP hS hZ 0 (by decide) rfl rfl) rfl rfl hl.1 rfl (lv_room (Nat.le_of_ble_eq_true rfl)) dX12_one_100 ⟨Nat.le_refl _, Nat.le_refl _⟩) hA hS (fun r_263 f_260 L_261 Q_262 H locs hq hP hS => ?_)
                obtain ⟨⟨hI, hk_f_260, eL9, eQ9⟩, hq, p_264⟩ := hq
                rw [eL9, eQ9] at hP; clear eL9 eQ9
                have hF : sgK WkX12_one_3 f f_260 := sgK.tr hF hk_f_260 (by decide)
                obtain ⟨v_265, ev_265⟩ : ∃ z : Int32, z = f_260 0 15 := ⟨_, rfl⟩
                have q_266 : (-1) ≤ v_265.toInt ∧ v_265.toInt ≤ 120 := by rw [ev_265]; exact hI 0 15
                have q_267 : (f_260 0 15).toInt = v_265.toInt := (congrArg Int32.toInt (show f_260 0 15 = v_265 from ev_265.symm))
                obtain rfl : r_263 = 0 := Int32.toInt_inj.mp (by have k9 : (0 : Int32).toInt = 0 := (by decide); omega)
                have q_268 : (f_260 0 13).toInt = v_244.toInt := (congrArg Int32.toInt (show f_260 0 13 = v_244 from ((hk_f_260 0 13 (by decide)).trans ev_244.symm)))
                have q_269 : (f_260 0 16).toInt = v_226.toInt := (congrArg Int32.toInt (show f_260 0 16 = v_226 from ((hk_f_260 0 16 (by decide)).trans ((hk_f_240 0 16 (by decide)).trans ev_226.symm))))
                have q_270 : (f_260 0 15).toInt = v_265.toInt := (congrArg Int32.toInt (show f_260 0 15 = v_265 from ev_265.symm))
                have q_271 : (f_260 0 16).toInt = v_226.toInt := (congrArg Int32.toInt (show f_260 0 16 = v_226 from ((hk_f_260 0 16 (by decide)).trans ((hk_f_240 0 16 (by decide)).trans ev_226.symm))))
                have k99 : (0 : Int32).toInt = 0 := (by decide)
                exact hret _ _ _ _ (0) f_260 L Q dX12_one_103 hP hS ⟨⟨hI, hF, rfl, rfl⟩, trivial, (by omega), (by omega), (by omega)⟩
  · skip
    have c_84 : 0 ≤ v_3.toInt := (by have z := bn_nlt c; have k1 : (0 : Int32).toInt = 0 := (by decide); omega)
    refine lv_iconst (v := 0) hx hb dX12_one_7 (by decide) ?_
    have q_272 : (f 0 13).toInt = v_5.toInt := (congrArg Int32.toInt (show f 0 13 = v_5 from ev_5.symm))
    have q_273 : (f 0 16).toInt = v_1.toInt := (congrArg Int32.toInt (show f 0 16 = v_1 from ev_1.symm))
    have q_274 : (f 0 15).toInt = v_3.toInt := (congrArg Int32.toInt (show f 0 15 = v_3 from ev_3.symm))
    have q_275 : (f 0 16).toInt = v_1.toInt := (congrArg Int32.toInt (show f 0 16 = v_1 from ev_1.symm))
    have k99 : (0 : Int32).toInt = 0 := (by decide)
    exact hret _ _ _ _ (0) f L Q dX12_one_8 hP hS ⟨⟨hI, hF, rfl, rfl⟩, trivial, (by omega), (by omega), (by omega)⟩

abbrev WkX12_product_3 : List (Nat × Nat × Option Nat) := [(0, 0, some 13), (0, 0, some 15), (0, 0, some 16)]
set_option maxHeartbeats 4000000 in
set_option maxRecDepth 100000 in
theorem kX12_product_3 (l : Launch) (D : va_G) (ca : Nat → ClassId) (za h : Nat → Nat) (hh : sgH 26 h) (f : sg_F) (L : sg_L) (Q : sg_Q) (hI : sgI loM hiM f) (p0 : 3 ≤ (f 0 16).toInt) (p1 : 0 ≤ (f 0 15).toInt ∨ (f 0 16).toInt = 3) (sz : Nat) : Met l yX12_product gwX12_product { frames := 20, cells := 0, slots := 0, locals := 455 } (sgP D vwCl (tyX ca) 26 h (eM ca h) zcM za f L Q sz [.ref (h 0)]) (sgQi D vwCl 26 h (eM ca h) sz (fun r f1 L1 Q1 => ((sgI loM hiM f1 ∧ sgK WkX12_product_3 f f1 ∧ L1 = L ∧ Q1 = Q) ∧ True ∧ ((f 0 13).toInt ≤ (f1 0 13).toInt) ∧ (3 ≤ (f1 0 16).toInt) ∧ (0 ≤ (f1 0 15).toInt ∨ (f1 0 16).toInt = 3)))) 0 0 (sgA 26 h sz) := by
  refine sg_ofWi (cc := cX12_product) (maxL := 4) RX12 (by decide) rfl rfl (Nat.le_of_ble_eq_true rfl) ?_
  intro p e s m below meth cd Qz ls hx hb hml hown hts hK hZ hP hS hl hret
  have hA := sgY.self (n := 26) (h := h) (sz := s.heap.size)
  have hl : lv_has ls 4 [(0, .ref (h 0))] := hl
  obtain ⟨H, hH⟩ : ∃ z : Heap, z = s.heap := ⟨_, rfl⟩
  obtain ⟨locs, hlo⟩ : ∃ z : List Loc, z = [] := ⟨_, rfl⟩
  have hP : va_P D vwCl (sgw 26 h (eM ca h) f L Q) H := by rw [hH]; exact hP
  have hS : va_S (sgA 26 h s.heap.size) s.heap H locs := by rw [hH, hlo]; exact hS
  suffices hgo : W p l e ({ frames := 20, cells := 0, slots := 0, locals := 455 }) s m ([.ref (h 0)] : List Value).toArray below meth cd H locs 0 0 Qz (F0 m 0 ls []) by rw [hH, hlo] at hgo; exact hgo
  clear hH hlo
  obtain ⟨v_1, ev_1⟩ : ∃ z : Int32, z = f 0 16 := ⟨_, rfl⟩
  have q_2 : 0 ≤ v_1.toInt ∧ v_1.toInt ≤ 6 := by rw [ev_1]; exact hI 0 16
  obtain ⟨v_3, ev_3⟩ : ∃ z : Int32, z = f 0 15 := ⟨_, rfl⟩
  have q_4 : (-1) ≤ v_3.toInt ∧ v_3.toInt ≤ 120 := by rw [ev_3]; exact hI 0 15
  obtain ⟨v_5, ev_5⟩ : ∃ z : Int32, z = f 0 13 := ⟨_, rfl⟩
  have q_6 : 0 ≤ v_5.toInt ∧ v_5.toInt ≤ 120 := by rw [ev_5]; exact hI 0 13
  obtain ⟨v_7, ev_7⟩ : ∃ z : Int32, z = f 0 14 := ⟨_, rfl⟩
  have q_8 : 0 ≤ v_7.toInt ∧ v_7.toInt ≤ 120 := by rw [ev_7]; exact hI 0 14
  have o_9 : (f 0 16).toInt = v_1.toInt := (congrArg Int32.toInt (show f 0 16 = v_1 from ev_1.symm))
  have o_10 : (f 0 15).toInt = v_3.toInt := (congrArg Int32.toInt (show f 0 15 = v_3 from ev_3.symm))
  have o_11 : (f 0 13).toInt = v_5.toInt := (congrArg Int32.toInt (show f 0 13 = v_5 from ev_5.symm))
  have o_12 : (f 0 14).toInt = v_7.toInt := (congrArg Int32.toInt (show f 0 14 = v_7 from ev_7.symm))
  have hF : sgK WkX12_product_3 f f := sgK.rf
  have loop_10 : ∀ (n_10 : Nat) (y1_10 : Int32) (y2_10 : Int32) (fp_10 : sg_F) (H : Heap) (locs : List Loc) (ls : Array Slot), 120 - (fp_10 0 13).toInt < (n_10 : Int) → 0 ≤ y2_10.toInt ∧ y2_10.toInt ≤ 255 → (f 0 13).toInt ≤ (fp_10 0 13).toInt → 3 ≤ (fp_10 0 16).toInt → 0 ≤ (fp_10 0 15).toInt ∨ (fp_10 0 16).toInt = 3 → y2_10.toInt = 0 ∨ (fp_10 0 13).toInt < (fp_10 0 14).toInt → sgI loM hiM fp_10 → sgK WkX12_product_3 f fp_10 → va_P D vwCl (sgw 26 h (eM ca h) fp_10 L Q) H → va_S (sgA 26 h s.heap.size) s.heap H locs → lv_has ls 4 [(0, .ref (h 0)), (1, .int y1_10), (2, .int y2_10)] → W p l e ({ frames := 20, cells := 0, slots := 0, locals := 455 }) s m ([.ref (h 0)] : List Value).toArray below meth cd H locs 0 0 Qz (F0 m 10 ls []) := by
    intro n_10
    induction n_10 with
    | zero => intro y1_10 y2_10 fp_10 H locs ls hm_10 hy0_10 hg0_10 hg1_10 hg2_10 hg3_10 hI hF hP hS hl; have zb := (show 0 ≤ (fp_10 0 13).toInt ∧ (fp_10 0 13).toInt ≤ 120 from hI 0 13); exact absurd hm_10 (by omega)
    | succ n_10 ih_10 =>
      intro y1_10 y2_10 fp_10 H locs ls hm_10 hy0_10 hg0_10 hg1_10 hg2_10 hg3_10 hI hF hP hS hl
      obtain ⟨v_13, ev_13⟩ : ∃ z : Int32, z = fp_10 0 13 := ⟨_, rfl⟩
      have q_14 : 0 ≤ v_13.toInt ∧ v_13.toInt ≤ 120 := by rw [ev_13]; exact hI 0 13
      have q_15 : (fp_10 0 13).toInt = v_13.toInt := by rw [ev_13]
      obtain ⟨v_16, ev_16⟩ : ∃ z : Int32, z = fp_10 0 16 := ⟨_, rfl⟩
      have q_17 : 0 ≤ v_16.toInt ∧ v_16.toInt ≤ 6 := by rw [ev_16]; exact hI 0 16
      have q_18 : (fp_10 0 16).toInt = v_16.toInt := by rw [ev_16]
      obtain ⟨v_19, ev_19⟩ : ∃ z : Int32, z = fp_10 0 15 := ⟨_, rfl⟩
      have q_20 : (-1) ≤ v_19.toInt ∧ v_19.toInt ≤ 120 := by rw [ev_19]; exact hI 0 15
      have q_21 : (fp_10 0 15).toInt = v_19.toInt := by rw [ev_19]
      obtain ⟨v_22, ev_22⟩ : ∃ z : Int32, z = fp_10 0 14 := ⟨_, rfl⟩
      have q_23 : 0 ≤ v_22.toInt ∧ v_22.toInt ≤ 120 := by rw [ev_22]; exact hI 0 14
      have q_24 : (fp_10 0 14).toInt = v_22.toInt := by rw [ev_22]
      refine lv_aload_n hx hb dX12_product_10 rfl (lv_at hl 0 rfl) ?_
      refine sg_get (ci := 12) (v := .int v_19) (C := RX12) (T := TX12) (N := 55) hx hb hts (fun w h => List.mem_cons_of_mem _ (gx_12 w h)) hown hK hP 0 (by decide) rfl rfl 15 (by decide) (hts _ (List.mem_cons_of_mem _ mw_627)) (fun _ h9 => h9) (congrArg (fun z => some (Value.int z)) (show fp_10 0 15 = v_19 from ev_19.symm)) dX12_product_11 ?_
      refine lv_if_ge (tgt := 94) hx hb dX12_product_14 (by decide) (fun c => ?_) (fun c => ?_)
      · skip
        have c_25 : 0 ≤ v_19.toInt := (by have z := bn_le c; have k1 : (0 : Int32).toInt = 0 := (by decide); omega)
        refine lv_iload_n hx hb dX12_product_94 rfl (lv_at hl 1 rfl) ?_
        have q_27 : (fp_10 0 13).toInt = v_13.toInt := (congrArg Int32.toInt (show fp_10 0 13 = v_13 from ev_13.symm))
        have q_28 : (fp_10 0 16).toInt = v_16.toInt := (congrArg Int32.toInt (show fp_10 0 16 = v_16 from ev_16.symm))
        have q_29 : (fp_10 0 15).toInt = v_19.toInt := (congrArg Int32.toInt (show fp_10 0 15 = v_19 from ev_19.symm))
        have q_30 : (fp_10 0 16).toInt = v_16.toInt := (congrArg Int32.toInt (show fp_10 0 16 = v_16 from ev_16.symm))
        exact hret _ _ _ _ (y1_10) fp_10 L Q dX12_product_95 hP hS ⟨⟨hI, hF, rfl, rfl⟩, trivial, (by omega), (by omega), (by omega)⟩
      · skip
        have c_26 : v_19.toInt < 0 := (by have z := bn_nle c; have k1 : (0 : Int32).toInt = 0 := (by decide); omega)
        refine lv_iload_n hx hb dX12_product_17 rfl (lv_at hl 2 rfl) ?_
        refine lv_bipush (v := 42) hx hb dX12_product_18 (by decide) ?_
        refine lv_icmp_eq (tgt := 35) hx hb dX12_product_20 (by decide) (fun c => ?_) (fun c => ?_)
        · skip
          have c_31 : y2_10.toInt = 42 := (by have z := Int32.toInt_inj.mpr c; have k1 : (42 : Int32).toInt = 42 := (by decide); omega)
          refine lv_aload_n hx hb dX12_product_35 rfl (lv_at hl 0 rfl) ?_
          refine lv_dup hx hb dX12_product_36 rfl ?_
          refine sg_get (ci := 12) (v := .int v_13) (C := RX12) (T := TX12) (N := 55) hx hb hts (fun w h => List.mem_cons_of_mem _ (gx_12 w h)) hown hK hP 0 (by decide) rfl rfl 13 (by decide) (hts _ (List.mem_cons_of_mem _ mw_625)) (fun _ h9 => h9) (congrArg (fun z => some (Value.int z)) (show fp_10 0 13 = v_13 from ev_13.symm)) dX12_product_37 ?_
          refine lv_iconst (v := 1) hx hb dX12_product_40 (by decide) ?_
          refine lv_iadd hx hb dX12_product_41 ?_
          refine lv_topi (fun v_33 ev_33 => ?_)
          have q_34 : v_33.toInt = v_13.toInt + 1 := by rw [ev_33]; have k1 : (1 : Int32).toInt = 1 := (by decide); exact (bn_addI (by omega) (by omega)).trans (by omega)
          refine sg_put (ci := 12) (x := v_33) (ty := .int) (C := RX12) (T := TX12) (N := 55) hx hb hts (fun w h => List.mem_cons_of_mem _ (gx_12 w h)) tyX12 tyX12_ok nmX12 hown hh hA hK hP hS 0 (by decide) rfl rfl 13 (by decide) (hts _ (List.mem_cons_of_mem _ mw_625)) (fun _ h9 => h9) rfl rfl (by decide +kernel) rfl rfl (Nat.le_of_ble_eq_true rfl) dX12_product_42 (fun f_35 H locs ef_35 hP hS => ?_)
          have hI : sgI loM hiM f_35 := by rw [ef_35]; exact sgI.put hI 0 13 (show 0 ≤ (v_33 : Int32).toInt ∧ (v_33 : Int32).toInt ≤ 120 from by omega)
          have hF : sgK WkX12_product_3 f f_35 := sgK.put hF ef_35 (by rfl)
          refine lv_aload_n hx hb dX12_product_45 rfl (lv_at hl 0 rfl) ?_
          have q_36 : (f_35 0 16).toInt = v_16.toInt := (congrArg Int32.toInt (show f_35 0 16 = v_16 from (by rw [ef_35, sg_up_s, sgu_n (by decide)]; exact ev_16.symm)))
          have q_37 : (f_35 0 15).toInt = v_19.toInt := (congrArg Int32.toInt (show f_35 0 15 = v_19 from (by rw [ef_35, sg_up_s, sgu_n (by decide)]; exact ev_19.symm)))
          have q_38 : (f_35 0 16).toInt = v_16.toInt := (congrArg Int32.toInt (show f_35 0 16 = v_16 from (by rw [ef_35, sg_up_s, sgu_n (by decide)]; exact ev_16.symm)))
          have q_39 : (f_35 0 13).toInt = v_33.toInt := (congrArg Int32.toInt (show f_35 0 13 = v_33 from (by rw [ef_35, sg_up_s, sgu_s])))
          refine sg_calli (va_runV (As := []) (rest := []) ⟨hx, hb, hml, hown, hts⟩ (kX12_one_3 l D ca za h hh f_35 L Q hI (by omega) (by omega) H.size) (cwV 0 hts (gw_V (fun _ h => List.mem_cons_of_mem _ h) mw_789 mw_790 mw_791 mw_619 mw_788) rfl rfl rfl (by decide +kernel) ⟨Nat.le_of_ble_eq_true rfl, Nat.le_of_ble_eq_true rfl⟩) (sg_preV (ci := 12) (C := RX12) (T := TX12) (N := 55) hA hK hP hS hZ 0 (by decide) rfl rfl) rfl rfl hl.1 rfl (lv_room (Nat.le_of_ble_eq_true rfl)) dX12_product_46 ⟨Nat.le_refl _, Nat.le_refl _⟩) hA hS (fun r_43 f_40 L_41 Q_42 H locs hq hP hS => ?_)
          obtain ⟨⟨hI, hk_f_40, eL9, eQ9⟩, hq, p_44, p_45, p_46⟩ := hq
          rw [eL9, eQ9] at hP; clear eL9 eQ9
          have hF : sgK WkX12_product_3 f f_40 := sgK.tr hF hk_f_40 (by decide)
          obtain ⟨v_47, ev_47⟩ : ∃ z : Int32, z = f_40 0 13 := ⟨_, rfl⟩
          have q_48 : 0 ≤ v_47.toInt ∧ v_47.toInt ≤ 120 := by rw [ev_47]; exact hI 0 13
          have q_49 : (f_40 0 13).toInt = v_47.toInt := (congrArg Int32.toInt (show f_40 0 13 = v_47 from ev_47.symm))
          obtain ⟨v_50, ev_50⟩ : ∃ z : Int32, z = f_40 0 16 := ⟨_, rfl⟩
          have q_51 : 0 ≤ v_50.toInt ∧ v_50.toInt ≤ 6 := by rw [ev_50]; exact hI 0 16
          have q_52 : (f_40 0 16).toInt = v_50.toInt := (congrArg Int32.toInt (show f_40 0 16 = v_50 from ev_50.symm))
          obtain ⟨v_53, ev_53⟩ : ∃ z : Int32, z = f_40 0 15 := ⟨_, rfl⟩
          have q_54 : (-1) ≤ v_53.toInt ∧ v_53.toInt ≤ 120 := by rw [ev_53]; exact hI 0 15
          have q_55 : (f_40 0 15).toInt = v_53.toInt := (congrArg Int32.toInt (show f_40 0 15 = v_53 from ev_53.symm))
          have q_56 : (f_40 0 16).toInt = v_50.toInt := (congrArg Int32.toInt (show f_40 0 16 = v_50 from ev_50.symm))
          refine lv_istore_n (lv' := [(3, .int r_43), (0, .ref (h 0)), (1, .int y1_10), (2, .int y2_10)]) hx hb dX12_product_49 rfl hl (by decide) rfl (fun ls hl => ?_)
          refine lv_iload_n hx hb dX12_product_50 rfl (lv_at hl 3 rfl) ?_
          refine lv_bipush (v := 42) hx hb dX12_product_51 (by decide) ?_
          refine lv_icmp_ne (tgt := 62) hx hb dX12_product_53 (by decide) (fun c => ?_) (fun c => ?_)
          · skip
            exfalso; have c_57 : y2_10.toInt ≠ 42 := (by have z := bn_ne c; have k1 : (42 : Int32).toInt = 42 := (by decide); omega); omega
          · skip
            have c_58 : y2_10.toInt = 42 := (by have z := Int32.toInt_inj.mpr c; have k1 : (42 : Int32).toInt = 42 := (by decide); omega)
            refine lv_iload_n hx hb dX12_product_56 rfl (lv_at hl 2 rfl) ?_
            refine lv_iload_n hx hb dX12_product_57 rfl (lv_at hl 0 rfl) ?_
            refine lv_imul hx hb dX12_product_58 ?_
            refine lv_topi (fun v_59 ev_59 => ?_)
            refine lv_goto (tgt := 85) hx hb dX12_product_59 (by decide) ?_
            refine lv_istore_n (lv' := [(1, .int v_59), (3, .int r_43), (0, .ref (h 0)), (2, .int y2_10)]) hx hb dX12_product_85 rfl hl (by decide) rfl (fun ls hl => ?_)
            refine lv_aload_n hx hb dX12_product_86 rfl (lv_at hl 2 rfl) ?_
            have q_60 : (f_40 0 13).toInt = v_47.toInt := (congrArg Int32.toInt (show f_40 0 13 = v_47 from ev_47.symm))
            have q_61 : (f_40 0 14).toInt = v_22.toInt := (congrArg Int32.toInt (show f_40 0 14 = v_22 from ((hk_f_40 0 14 (by decide)).trans (by rw [ef_35, sg_up_s, sgu_n (by decide)]; exact ev_22.symm))))
            refine sg_calli (va_runV (As := []) (rest := []) ⟨hx, hb, hml, hown, hts⟩ (kX12_byteAt l D ca za h hh f_40 L Q hI H.size) (cwV 0 hts (gw_V (fun _ h => List.mem_cons_of_mem _ h) mw_840 mw_841 mw_842 mw_619 mw_839) rfl rfl rfl (by decide +kernel) ⟨Nat.le_of_ble_eq_true rfl, Nat.le_of_ble_eq_true rfl⟩) (sg_preV (ci := 12) (C := RX12) (T := TX12) (N := 55) hA hK hP hS hZ 0 (by decide) rfl rfl) rfl rfl hl.1 rfl (lv_room (Nat.le_of_ble_eq_true rfl)) dX12_product_87 ⟨Nat.le_refl _, Nat.le_refl _⟩) hA hS (fun r_65 f_62 L_63 Q_64 H locs hq hP hS => ?_)
            obtain ⟨⟨ef9, eL9, eQ9⟩, hq, p_66⟩ := hq
            rw [ef9, eL9, eQ9] at hP; clear ef9 eL9 eQ9
            refine lv_istore_n (lv' := [(2, .int r_65), (1, .int v_59), (3, .int r_43), (0, .ref (h 0))]) hx hb dX12_product_90 rfl hl (by decide) rfl (fun ls hl => ?_)
            refine lv_goto (tgt := 10) hx hb dX12_product_91 (by decide) ?_
            exact ih_10 v_59 r_65 f_40 _ _ _ (by have zz0_13 : (f_40 0 13).toInt = v_47.toInt := (congrArg Int32.toInt (show f_40 0 13 = v_47 from ev_47.symm)); omega) (by omega) (by have zz0_13 : (f_40 0 13).toInt = v_47.toInt := (congrArg Int32.toInt (show f_40 0 13 = v_47 from ev_47.symm)); omega) (by have zz0_16 : (f_40 0 16).toInt = v_50.toInt := (congrArg Int32.toInt (show f_40 0 16 = v_50 from ev_50.symm)); omega) (by have zz0_15 : (f_40 0 15).toInt = v_53.toInt := (congrArg Int32.toInt (show f_40 0 15 = v_53 from ev_53.symm)); have zz0_16 : (f_40 0 16).toInt = v_50.toInt := (congrArg Int32.toInt (show f_40 0 16 = v_50 from ev_50.symm)); omega) (by have zz0_13 : (f_40 0 13).toInt = v_47.toInt := (congrArg Int32.toInt (show f_40 0 13 = v_47 from ev_47.symm)); have zz0_14 : (f_40 0 14).toInt = v_22.toInt := (congrArg Int32.toInt (show f_40 0 14 = v_22 from ((hk_f_40 0 14 (by decide)).trans (by rw [ef_35, sg_up_s, sgu_n (by decide)]; exact ev_22.symm)))); omega) hI hF hP hS (lv_sub hl [3, 1, 0] rfl)
        · skip
          have c_32 : y2_10.toInt ≠ 42 := (by have z := bn_ne c; have k1 : (42 : Int32).toInt = 42 := (by decide); omega)
          refine lv_iload_n hx hb dX12_product_23 rfl (lv_at hl 2 rfl) ?_
          refine lv_bipush (v := 47) hx hb dX12_product_24 (by decide) ?_
          refine lv_icmp_eq (tgt := 35) hx hb dX12_product_26 (by decide) (fun c => ?_) (fun c => ?_)
          · skip
            have c_67 : y2_10.toInt = 47 := (by have z := Int32.toInt_inj.mpr c; have k1 : (47 : Int32).toInt = 47 := (by decide); omega)
            refine lv_aload_n hx hb dX12_product_35 rfl (lv_at hl 0 rfl) ?_
            refine lv_dup hx hb dX12_product_36 rfl ?_
            refine sg_get (ci := 12) (v := .int v_13) (C := RX12) (T := TX12) (N := 55) hx hb hts (fun w h => List.mem_cons_of_mem _ (gx_12 w h)) hown hK hP 0 (by decide) rfl rfl 13 (by decide) (hts _ (List.mem_cons_of_mem _ mw_625)) (fun _ h9 => h9) (congrArg (fun z => some (Value.int z)) (show fp_10 0 13 = v_13 from ev_13.symm)) dX12_product_37 ?_
            refine lv_iconst (v := 1) hx hb dX12_product_40 (by decide) ?_
            refine lv_iadd hx hb dX12_product_41 ?_
            refine lv_topi (fun v_69 ev_69 => ?_)
            have q_70 : v_69.toInt = v_13.toInt + 1 := by rw [ev_69]; have k1 : (1 : Int32).toInt = 1 := (by decide); exact (bn_addI (by omega) (by omega)).trans (by omega)
            refine sg_put (ci := 12) (x := v_69) (ty := .int) (C := RX12) (T := TX12) (N := 55) hx hb hts (fun w h => List.mem_cons_of_mem _ (gx_12 w h)) tyX12 tyX12_ok nmX12 hown hh hA hK hP hS 0 (by decide) rfl rfl 13 (by decide) (hts _ (List.mem_cons_of_mem _ mw_625)) (fun _ h9 => h9) rfl rfl (by decide +kernel) rfl rfl (Nat.le_of_ble_eq_true rfl) dX12_product_42 (fun f_71 H locs ef_71 hP hS => ?_)
            have hI : sgI loM hiM f_71 := by rw [ef_71]; exact sgI.put hI 0 13 (show 0 ≤ (v_69 : Int32).toInt ∧ (v_69 : Int32).toInt ≤ 120 from by omega)
            have hF : sgK WkX12_product_3 f f_71 := sgK.put hF ef_71 (by rfl)
            refine lv_aload_n hx hb dX12_product_45 rfl (lv_at hl 0 rfl) ?_
            have q_72 : (f_71 0 16).toInt = v_16.toInt := (congrArg Int32.toInt (show f_71 0 16 = v_16 from (by rw [ef_71, sg_up_s, sgu_n (by decide)]; exact ev_16.symm)))
            have q_73 : (f_71 0 15).toInt = v_19.toInt := (congrArg Int32.toInt (show f_71 0 15 = v_19 from (by rw [ef_71, sg_up_s, sgu_n (by decide)]; exact ev_19.symm)))
            have q_74 : (f_71 0 16).toInt = v_16.toInt := (congrArg Int32.toInt (show f_71 0 16 = v_16 from (by rw [ef_71, sg_up_s, sgu_n (by decide)]; exact ev_16.symm)))
            have q_75 : (f_71 0 13).toInt = v_69.toInt := (congrArg Int32.toInt (show f_71 0 13 = v_69 from (by rw [ef_71, sg_up_s, sgu_s])))
            refine sg_calli (va_runV (As := []) (rest := []) ⟨hx, hb, hml, hown, hts⟩ (kX12_one_3 l D ca za h hh f_71 L Q hI (by omega) (by omega) H.size) (cwV 0 hts (gw_V (fun _ h => List.mem_cons_of_mem _ h) mw_789 mw_790 mw_791 mw_619 mw_788) rfl rfl rfl (by decide +kernel) ⟨Nat.le_of_ble_eq_true rfl, Nat.le_of_ble_eq_true rfl⟩) (sg_preV (ci := 12) (C := RX12) (T := TX12) (N := 55) hA hK hP hS hZ 0 (by decide) rfl rfl) rfl rfl hl.1 rfl (lv_room (Nat.le_of_ble_eq_true rfl)) dX12_product_46 ⟨Nat.le_refl _, Nat.le_refl _⟩) hA hS (fun r_79 f_76 L_77 Q_78 H locs hq hP hS => ?_)
            obtain ⟨⟨hI, hk_f_76, eL9, eQ9⟩, hq, p_80, p_81, p_82⟩ := hq
            rw [eL9, eQ9] at hP; clear eL9 eQ9
            have hF : sgK WkX12_product_3 f f_76 := sgK.tr hF hk_f_76 (by decide)
            obtain ⟨v_83, ev_83⟩ : ∃ z : Int32, z = f_76 0 13 := ⟨_, rfl⟩
            have q_84 : 0 ≤ v_83.toInt ∧ v_83.toInt ≤ 120 := by rw [ev_83]; exact hI 0 13
            have q_85 : (f_76 0 13).toInt = v_83.toInt := (congrArg Int32.toInt (show f_76 0 13 = v_83 from ev_83.symm))
            obtain ⟨v_86, ev_86⟩ : ∃ z : Int32, z = f_76 0 16 := ⟨_, rfl⟩
            have q_87 : 0 ≤ v_86.toInt ∧ v_86.toInt ≤ 6 := by rw [ev_86]; exact hI 0 16
            have q_88 : (f_76 0 16).toInt = v_86.toInt := (congrArg Int32.toInt (show f_76 0 16 = v_86 from ev_86.symm))
            obtain ⟨v_89, ev_89⟩ : ∃ z : Int32, z = f_76 0 15 := ⟨_, rfl⟩
            have q_90 : (-1) ≤ v_89.toInt ∧ v_89.toInt ≤ 120 := by rw [ev_89]; exact hI 0 15
            have q_91 : (f_76 0 15).toInt = v_89.toInt := (congrArg Int32.toInt (show f_76 0 15 = v_89 from ev_89.symm))
            have q_92 : (f_76 0 16).toInt = v_86.toInt := (congrArg Int32.toInt (show f_76 0 16 = v_86 from ev_86.symm))
            refine lv_istore_n (lv' := [(3, .int r_79), (0, .ref (h 0)), (1, .int y1_10), (2, .int y2_10)]) hx hb dX12_product_49 rfl hl (by decide) rfl (fun ls hl => ?_)
            refine lv_iload_n hx hb dX12_product_50 rfl (lv_at hl 3 rfl) ?_
            refine lv_bipush (v := 42) hx hb dX12_product_51 (by decide) ?_
            refine lv_icmp_ne (tgt := 62) hx hb dX12_product_53 (by decide) (fun c => ?_) (fun c => ?_)
            · skip
              have c_93 : y2_10.toInt ≠ 42 := (by have z := bn_ne c; have k1 : (42 : Int32).toInt = 42 := (by decide); omega)
              refine lv_iload_n hx hb dX12_product_62 rfl (lv_at hl 0 rfl) ?_
              refine lv_if_ne (tgt := 70) hx hb dX12_product_63 (by decide) (fun c => ?_) (fun c => ?_)
              · skip
                have c_95 : r_79.toInt ≠ 0 := (by have z := bn_ne c; have k1 : (0 : Int32).toInt = 0 := (by decide); omega)
                refine lv_iload_n hx hb dX12_product_70 rfl (lv_at hl 3 rfl) ?_
                refine lv_bipush (v := 47) hx hb dX12_product_71 (by decide) ?_
                refine lv_icmp_ne (tgt := 82) hx hb dX12_product_73 (by decide) (fun c => ?_) (fun c => ?_)
                · skip
                  exfalso; have c_97 : y2_10.toInt ≠ 47 := (by have z := bn_ne c; have k1 : (47 : Int32).toInt = 47 := (by decide); omega); omega
                · skip
                  have c_98 : y2_10.toInt = 47 := (by have z := Int32.toInt_inj.mpr c; have k1 : (47 : Int32).toInt = 47 := (by decide); omega)
                  refine lv_iload_n hx hb dX12_product_76 rfl (lv_at hl 2 rfl) ?_
                  refine lv_iload_n hx hb dX12_product_77 rfl (lv_at hl 0 rfl) ?_
                  refine lv_idiv hx hb dX12_product_78 (bn_nz (by omega)) ?_
                  refine lv_topi (fun v_99 ev_99 => ?_)
                  refine lv_goto (tgt := 85) hx hb dX12_product_79 (by decide) ?_
                  refine lv_istore_n (lv' := [(1, .int v_99), (3, .int r_79), (0, .ref (h 0)), (2, .int y2_10)]) hx hb dX12_product_85 rfl hl (by decide) rfl (fun ls hl => ?_)
                  refine lv_aload_n hx hb dX12_product_86 rfl (lv_at hl 2 rfl) ?_
                  have q_100 : (f_76 0 13).toInt = v_83.toInt := (congrArg Int32.toInt (show f_76 0 13 = v_83 from ev_83.symm))
                  have q_101 : (f_76 0 14).toInt = v_22.toInt := (congrArg Int32.toInt (show f_76 0 14 = v_22 from ((hk_f_76 0 14 (by decide)).trans (by rw [ef_71, sg_up_s, sgu_n (by decide)]; exact ev_22.symm))))
                  refine sg_calli (va_runV (As := []) (rest := []) ⟨hx, hb, hml, hown, hts⟩ (kX12_byteAt l D ca za h hh f_76 L Q hI H.size) (cwV 0 hts (gw_V (fun _ h => List.mem_cons_of_mem _ h) mw_840 mw_841 mw_842 mw_619 mw_839) rfl rfl rfl (by decide +kernel) ⟨Nat.le_of_ble_eq_true rfl, Nat.le_of_ble_eq_true rfl⟩) (sg_preV (ci := 12) (C := RX12) (T := TX12) (N := 55) hA hK hP hS hZ 0 (by decide) rfl rfl) rfl rfl hl.1 rfl (lv_room (Nat.le_of_ble_eq_true rfl)) dX12_product_87 ⟨Nat.le_refl _, Nat.le_refl _⟩) hA hS (fun r_105 f_102 L_103 Q_104 H locs hq hP hS => ?_)
                  obtain ⟨⟨ef9, eL9, eQ9⟩, hq, p_106⟩ := hq
                  rw [ef9, eL9, eQ9] at hP; clear ef9 eL9 eQ9
                  refine lv_istore_n (lv' := [(2, .int r_105), (1, .int v_99), (3, .int r_79), (0, .ref (h 0))]) hx hb dX12_product_90 rfl hl (by decide) rfl (fun ls hl => ?_)
                  refine lv_goto (tgt := 10) hx hb dX12_product_91 (by decide) ?_
                  exact ih_10 v_99 r_105 f_76 _ _ _ (by have zz0_13 : (f_76 0 13).toInt = v_83.toInt := (congrArg Int32.toInt (show f_76 0 13 = v_83 from ev_83.symm)); omega) (by omega) (by have zz0_13 : (f_76 0 13).toInt = v_83.toInt := (congrArg Int32.toInt (show f_76 0 13 = v_83 from ev_83.symm)); omega) (by have zz0_16 : (f_76 0 16).toInt = v_86.toInt := (congrArg Int32.toInt (show f_76 0 16 = v_86 from ev_86.symm)); omega) (by have zz0_15 : (f_76 0 15).toInt = v_89.toInt := (congrArg Int32.toInt (show f_76 0 15 = v_89 from ev_89.symm)); have zz0_16 : (f_76 0 16).toInt = v_86.toInt := (congrArg Int32.toInt (show f_76 0 16 = v_86 from ev_86.symm)); omega) (by have zz0_13 : (f_76 0 13).toInt = v_83.toInt := (congrArg Int32.toInt (show f_76 0 13 = v_83 from ev_83.symm)); have zz0_14 : (f_76 0 14).toInt = v_22.toInt := (congrArg Int32.toInt (show f_76 0 14 = v_22 from ((hk_f_76 0 14 (by decide)).trans (by rw [ef_71, sg_up_s, sgu_n (by decide)]; exact ev_22.symm)))); omega) hI hF hP hS (lv_sub hl [3, 1, 0] rfl)
              · skip
                have c_96 : r_79.toInt = 0 := (by have z := Int32.toInt_inj.mpr c; have k1 : (0 : Int32).toInt = 0 := (by decide); omega)
                refine lv_iconst (v := 0) hx hb dX12_product_66 (by decide) ?_
                refine lv_goto (tgt := 85) hx hb dX12_product_67 (by decide) ?_
                refine lv_istore_n (lv' := [(1, .int 0), (3, .int r_79), (0, .ref (h 0)), (2, .int y2_10)]) hx hb dX12_product_85 rfl hl (by decide) rfl (fun ls hl => ?_)
                refine lv_aload_n hx hb dX12_product_86 rfl (lv_at hl 2 rfl) ?_
                have q_107 : (f_76 0 13).toInt = v_83.toInt := (congrArg Int32.toInt (show f_76 0 13 = v_83 from ev_83.symm))
                have q_108 : (f_76 0 14).toInt = v_22.toInt := (congrArg Int32.toInt (show f_76 0 14 = v_22 from ((hk_f_76 0 14 (by decide)).trans (by rw [ef_71, sg_up_s, sgu_n (by decide)]; exact ev_22.symm))))
                refine sg_calli (va_runV (As := []) (rest := []) ⟨hx, hb, hml, hown, hts⟩ (kX12_byteAt l D ca za h hh f_76 L Q hI H.size) (cwV 0 hts (gw_V (fun _ h => List.mem_cons_of_mem _ h) mw_840 mw_841 mw_842 mw_619 mw_839) rfl rfl rfl (by decide +kernel) ⟨Nat.le_of_ble_eq_true rfl, Nat.le_of_ble_eq_true rfl⟩) (sg_preV (ci := 12) (C := RX12) (T := TX12) (N := 55) hA hK hP hS hZ 0 (by decide) rfl rfl) rfl rfl hl.1 rfl (lv_room (Nat.le_of_ble_eq_true rfl)) dX12_product_87 ⟨Nat.le_refl _, Nat.le_refl _⟩) hA hS (fun r_112 f_109 L_110 Q_111 H locs hq hP hS => ?_)
                obtain ⟨⟨ef9, eL9, eQ9⟩, hq, p_113⟩ := hq
                rw [ef9, eL9, eQ9] at hP; clear ef9 eL9 eQ9
                refine lv_istore_n (lv' := [(2, .int r_112), (1, .int 0), (3, .int r_79), (0, .ref (h 0))]) hx hb dX12_product_90 rfl hl (by decide) rfl (fun ls hl => ?_)
                refine lv_goto (tgt := 10) hx hb dX12_product_91 (by decide) ?_
                exact ih_10 0 r_112 f_76 _ _ _ (by have kc0 : (0 : Int32).toInt = 0 := (by decide); have zz0_13 : (f_76 0 13).toInt = v_83.toInt := (congrArg Int32.toInt (show f_76 0 13 = v_83 from ev_83.symm)); omega) (by omega) (by have kc0 : (0 : Int32).toInt = 0 := (by decide); have zz0_13 : (f_76 0 13).toInt = v_83.toInt := (congrArg Int32.toInt (show f_76 0 13 = v_83 from ev_83.symm)); omega) (by have kc0 : (0 : Int32).toInt = 0 := (by decide); have zz0_16 : (f_76 0 16).toInt = v_86.toInt := (congrArg Int32.toInt (show f_76 0 16 = v_86 from ev_86.symm)); omega) (by have kc0 : (0 : Int32).toInt = 0 := (by decide); have zz0_15 : (f_76 0 15).toInt = v_89.toInt := (congrArg Int32.toInt (show f_76 0 15 = v_89 from ev_89.symm)); have zz0_16 : (f_76 0 16).toInt = v_86.toInt := (congrArg Int32.toInt (show f_76 0 16 = v_86 from ev_86.symm)); omega) (by have kc0 : (0 : Int32).toInt = 0 := (by decide); have zz0_13 : (f_76 0 13).toInt = v_83.toInt := (congrArg Int32.toInt (show f_76 0 13 = v_83 from ev_83.symm)); have zz0_14 : (f_76 0 14).toInt = v_22.toInt := (congrArg Int32.toInt (show f_76 0 14 = v_22 from ((hk_f_76 0 14 (by decide)).trans (by rw [ef_71, sg_up_s, sgu_n (by decide)]; exact ev_22.symm)))); omega) hI hF hP hS (lv_sub hl [3, 1, 0] rfl)
            · skip
              exfalso; have c_94 : y2_10.toInt = 42 := (by have z := Int32.toInt_inj.mpr c; have k1 : (42 : Int32).toInt = 42 := (by decide); omega); omega
          · skip
            have c_68 : y2_10.toInt ≠ 47 := (by have z := bn_ne c; have k1 : (47 : Int32).toInt = 47 := (by decide); omega)
            refine lv_iload_n hx hb dX12_product_29 rfl (lv_at hl 2 rfl) ?_
            refine lv_bipush (v := 37) hx hb dX12_product_30 (by decide) ?_
            refine lv_icmp_ne (tgt := 94) hx hb dX12_product_32 (by decide) (fun c => ?_) (fun c => ?_)
            · skip
              have c_114 : y2_10.toInt ≠ 37 := (by have z := bn_ne c; have k1 : (37 : Int32).toInt = 37 := (by decide); omega)
              refine lv_iload_n hx hb dX12_product_94 rfl (lv_at hl 1 rfl) ?_
              have q_116 : (fp_10 0 13).toInt = v_13.toInt := (congrArg Int32.toInt (show fp_10 0 13 = v_13 from ev_13.symm))
              have q_117 : (fp_10 0 16).toInt = v_16.toInt := (congrArg Int32.toInt (show fp_10 0 16 = v_16 from ev_16.symm))
              have q_118 : (fp_10 0 15).toInt = v_19.toInt := (congrArg Int32.toInt (show fp_10 0 15 = v_19 from ev_19.symm))
              have q_119 : (fp_10 0 16).toInt = v_16.toInt := (congrArg Int32.toInt (show fp_10 0 16 = v_16 from ev_16.symm))
              exact hret _ _ _ _ (y1_10) fp_10 L Q dX12_product_95 hP hS ⟨⟨hI, hF, rfl, rfl⟩, trivial, (by omega), (by omega), (by omega)⟩
            · skip
              have c_115 : y2_10.toInt = 37 := (by have z := Int32.toInt_inj.mpr c; have k1 : (37 : Int32).toInt = 37 := (by decide); omega)
              refine lv_aload_n hx hb dX12_product_35 rfl (lv_at hl 0 rfl) ?_
              refine lv_dup hx hb dX12_product_36 rfl ?_
              refine sg_get (ci := 12) (v := .int v_13) (C := RX12) (T := TX12) (N := 55) hx hb hts (fun w h => List.mem_cons_of_mem _ (gx_12 w h)) hown hK hP 0 (by decide) rfl rfl 13 (by decide) (hts _ (List.mem_cons_of_mem _ mw_625)) (fun _ h9 => h9) (congrArg (fun z => some (Value.int z)) (show fp_10 0 13 = v_13 from ev_13.symm)) dX12_product_37 ?_
              refine lv_iconst (v := 1) hx hb dX12_product_40 (by decide) ?_
              refine lv_iadd hx hb dX12_product_41 ?_
              refine lv_topi (fun v_120 ev_120 => ?_)
              have q_121 : v_120.toInt = v_13.toInt + 1 := by rw [ev_120]; have k1 : (1 : Int32).toInt = 1 := (by decide); exact (bn_addI (by omega) (by omega)).trans (by omega)
              refine sg_put (ci := 12) (x := v_120) (ty := .int) (C := RX12) (T := TX12) (N := 55) hx hb hts (fun w h => List.mem_cons_of_mem _ (gx_12 w h)) tyX12 tyX12_ok nmX12 hown hh hA hK hP hS 0 (by decide) rfl rfl 13 (by decide) (hts _ (List.mem_cons_of_mem _ mw_625)) (fun _ h9 => h9) rfl rfl (by decide +kernel) rfl rfl (Nat.le_of_ble_eq_true rfl) dX12_product_42 (fun f_122 H locs ef_122 hP hS => ?_)
              have hI : sgI loM hiM f_122 := by rw [ef_122]; exact sgI.put hI 0 13 (show 0 ≤ (v_120 : Int32).toInt ∧ (v_120 : Int32).toInt ≤ 120 from by omega)
              have hF : sgK WkX12_product_3 f f_122 := sgK.put hF ef_122 (by rfl)
              refine lv_aload_n hx hb dX12_product_45 rfl (lv_at hl 0 rfl) ?_
              have q_123 : (f_122 0 16).toInt = v_16.toInt := (congrArg Int32.toInt (show f_122 0 16 = v_16 from (by rw [ef_122, sg_up_s, sgu_n (by decide)]; exact ev_16.symm)))
              have q_124 : (f_122 0 15).toInt = v_19.toInt := (congrArg Int32.toInt (show f_122 0 15 = v_19 from (by rw [ef_122, sg_up_s, sgu_n (by decide)]; exact ev_19.symm)))
              have q_125 : (f_122 0 16).toInt = v_16.toInt := (congrArg Int32.toInt (show f_122 0 16 = v_16 from (by rw [ef_122, sg_up_s, sgu_n (by decide)]; exact ev_16.symm)))
              have q_126 : (f_122 0 13).toInt = v_120.toInt := (congrArg Int32.toInt (show f_122 0 13 = v_120 from (by rw [ef_122, sg_up_s, sgu_s])))
              refine sg_calli (va_runV (As := []) (rest := []) ⟨hx, hb, hml, hown, hts⟩ (kX12_one_3 l D ca za h hh f_122 L Q hI (by omega) (by omega) H.size) (cwV 0 hts (gw_V (fun _ h => List.mem_cons_of_mem _ h) mw_789 mw_790 mw_791 mw_619 mw_788) rfl rfl rfl (by decide +kernel) ⟨Nat.le_of_ble_eq_true rfl, Nat.le_of_ble_eq_true rfl⟩) (sg_preV (ci := 12) (C := RX12) (T := TX12) (N := 55) hA hK hP hS hZ 0 (by decide) rfl rfl) rfl rfl hl.1 rfl (lv_room (Nat.le_of_ble_eq_true rfl)) dX12_product_46 ⟨Nat.le_refl _, Nat.le_refl _⟩) hA hS (fun r_130 f_127 L_128 Q_129 H locs hq hP hS => ?_)
              obtain ⟨⟨hI, hk_f_127, eL9, eQ9⟩, hq, p_131, p_132, p_133⟩ := hq
              rw [eL9, eQ9] at hP; clear eL9 eQ9
              have hF : sgK WkX12_product_3 f f_127 := sgK.tr hF hk_f_127 (by decide)
              obtain ⟨v_134, ev_134⟩ : ∃ z : Int32, z = f_127 0 13 := ⟨_, rfl⟩
              have q_135 : 0 ≤ v_134.toInt ∧ v_134.toInt ≤ 120 := by rw [ev_134]; exact hI 0 13
              have q_136 : (f_127 0 13).toInt = v_134.toInt := (congrArg Int32.toInt (show f_127 0 13 = v_134 from ev_134.symm))
              obtain ⟨v_137, ev_137⟩ : ∃ z : Int32, z = f_127 0 16 := ⟨_, rfl⟩
              have q_138 : 0 ≤ v_137.toInt ∧ v_137.toInt ≤ 6 := by rw [ev_137]; exact hI 0 16
              have q_139 : (f_127 0 16).toInt = v_137.toInt := (congrArg Int32.toInt (show f_127 0 16 = v_137 from ev_137.symm))
              obtain ⟨v_140, ev_140⟩ : ∃ z : Int32, z = f_127 0 15 := ⟨_, rfl⟩
              have q_141 : (-1) ≤ v_140.toInt ∧ v_140.toInt ≤ 120 := by rw [ev_140]; exact hI 0 15
              have q_142 : (f_127 0 15).toInt = v_140.toInt := (congrArg Int32.toInt (show f_127 0 15 = v_140 from ev_140.symm))
              have q_143 : (f_127 0 16).toInt = v_137.toInt := (congrArg Int32.toInt (show f_127 0 16 = v_137 from ev_137.symm))
              refine lv_istore_n (lv' := [(3, .int r_130), (0, .ref (h 0)), (1, .int y1_10), (2, .int y2_10)]) hx hb dX12_product_49 rfl hl (by decide) rfl (fun ls hl => ?_)
              refine lv_iload_n hx hb dX12_product_50 rfl (lv_at hl 3 rfl) ?_
              refine lv_bipush (v := 42) hx hb dX12_product_51 (by decide) ?_
              refine lv_icmp_ne (tgt := 62) hx hb dX12_product_53 (by decide) (fun c => ?_) (fun c => ?_)
              · skip
                have c_144 : y2_10.toInt ≠ 42 := (by have z := bn_ne c; have k1 : (42 : Int32).toInt = 42 := (by decide); omega)
                refine lv_iload_n hx hb dX12_product_62 rfl (lv_at hl 0 rfl) ?_
                refine lv_if_ne (tgt := 70) hx hb dX12_product_63 (by decide) (fun c => ?_) (fun c => ?_)
                · skip
                  have c_146 : r_130.toInt ≠ 0 := (by have z := bn_ne c; have k1 : (0 : Int32).toInt = 0 := (by decide); omega)
                  refine lv_iload_n hx hb dX12_product_70 rfl (lv_at hl 3 rfl) ?_
                  refine lv_bipush (v := 47) hx hb dX12_product_71 (by decide) ?_
                  refine lv_icmp_ne (tgt := 82) hx hb dX12_product_73 (by decide) (fun c => ?_) (fun c => ?_)
                  · skip
                    have c_148 : y2_10.toInt ≠ 47 := (by have z := bn_ne c; have k1 : (47 : Int32).toInt = 47 := (by decide); omega)
                    refine lv_iload_n hx hb dX12_product_82 rfl (lv_at hl 2 rfl) ?_
                    refine lv_iload_n hx hb dX12_product_83 rfl (lv_at hl 0 rfl) ?_
                    refine lv_irem hx hb dX12_product_84 (bn_nz (by omega)) ?_
                    refine lv_topi (fun v_150 ev_150 => ?_)
                    refine lv_istore_n (lv' := [(1, .int v_150), (3, .int r_130), (0, .ref (h 0)), (2, .int y2_10)]) hx hb dX12_product_85 rfl hl (by decide) rfl (fun ls hl => ?_)
                    refine lv_aload_n hx hb dX12_product_86 rfl (lv_at hl 2 rfl) ?_
                    have q_151 : (f_127 0 13).toInt = v_134.toInt := (congrArg Int32.toInt (show f_127 0 13 = v_134 from ev_134.symm))
                    have q_152 : (f_127 0 14).toInt = v_22.toInt := (congrArg Int32.toInt (show f_127 0 14 = v_22 from ((hk_f_127 0 14 (by decide)).trans (by rw [ef_122, sg_up_s, sgu_n (by decide)]; exact ev_22.symm))))
                    refine sg_calli (va_runV (As := []) (rest := []) ⟨hx, hb, hml, hown, hts⟩ (kX12_byteAt l D ca za h hh f_127 L Q hI H.size) (cwV 0 hts (gw_V (fun _ h => List.mem_cons_of_mem _ h) mw_840 mw_841 mw_842 mw_619 mw_839) rfl rfl rfl (by decide +kernel) ⟨Nat.le_of_ble_eq_true rfl, Nat.le_of_ble_eq_true rfl⟩) (sg_preV (ci := 12) (C := RX12) (T := TX12) (N := 55) hA hK hP hS hZ 0 (by decide) rfl rfl) rfl rfl hl.1 rfl (lv_room (Nat.le_of_ble_eq_true rfl)) dX12_product_87 ⟨Nat.le_refl _, Nat.le_refl _⟩) hA hS (fun r_156 f_153 L_154 Q_155 H locs hq hP hS => ?_)
                    obtain ⟨⟨ef9, eL9, eQ9⟩, hq, p_157⟩ := hq
                    rw [ef9, eL9, eQ9] at hP; clear ef9 eL9 eQ9
                    refine lv_istore_n (lv' := [(2, .int r_156), (1, .int v_150), (3, .int r_130), (0, .ref (h 0))]) hx hb dX12_product_90 rfl hl (by decide) rfl (fun ls hl => ?_)
                    refine lv_goto (tgt := 10) hx hb dX12_product_91 (by decide) ?_
                    exact ih_10 v_150 r_156 f_127 _ _ _ (by have zz0_13 : (f_127 0 13).toInt = v_134.toInt := (congrArg Int32.toInt (show f_127 0 13 = v_134 from ev_134.symm)); omega) (by omega) (by have zz0_13 : (f_127 0 13).toInt = v_134.toInt := (congrArg Int32.toInt (show f_127 0 13 = v_134 from ev_134.symm)); omega) (by have zz0_16 : (f_127 0 16).toInt = v_137.toInt := (congrArg Int32.toInt (show f_127 0 16 = v_137 from ev_137.symm)); omega) (by have zz0_15 : (f_127 0 15).toInt = v_140.toInt := (congrArg Int32.toInt (show f_127 0 15 = v_140 from ev_140.symm)); have zz0_16 : (f_127 0 16).toInt = v_137.toInt := (congrArg Int32.toInt (show f_127 0 16 = v_137 from ev_137.symm)); omega) (by have zz0_13 : (f_127 0 13).toInt = v_134.toInt := (congrArg Int32.toInt (show f_127 0 13 = v_134 from ev_134.symm)); have zz0_14 : (f_127 0 14).toInt = v_22.toInt := (congrArg Int32.toInt (show f_127 0 14 = v_22 from ((hk_f_127 0 14 (by decide)).trans (by rw [ef_122, sg_up_s, sgu_n (by decide)]; exact ev_22.symm)))); omega) hI hF hP hS (lv_sub hl [3, 1, 0] rfl)
                  · skip
                    exfalso; have c_149 : y2_10.toInt = 47 := (by have z := Int32.toInt_inj.mpr c; have k1 : (47 : Int32).toInt = 47 := (by decide); omega); omega
                · skip
                  have c_147 : r_130.toInt = 0 := (by have z := Int32.toInt_inj.mpr c; have k1 : (0 : Int32).toInt = 0 := (by decide); omega)
                  refine lv_iconst (v := 0) hx hb dX12_product_66 (by decide) ?_
                  refine lv_goto (tgt := 85) hx hb dX12_product_67 (by decide) ?_
                  refine lv_istore_n (lv' := [(1, .int 0), (3, .int r_130), (0, .ref (h 0)), (2, .int y2_10)]) hx hb dX12_product_85 rfl hl (by decide) rfl (fun ls hl => ?_)
                  refine lv_aload_n hx hb dX12_product_86 rfl (lv_at hl 2 rfl) ?_
                  have q_158 : (f_127 0 13).toInt = v_134.toInt := (congrArg Int32.toInt (show f_127 0 13 = v_134 from ev_134.symm))
                  have q_159 : (f_127 0 14).toInt = v_22.toInt := (congrArg Int32.toInt (show f_127 0 14 = v_22 from ((hk_f_127 0 14 (by decide)).trans (by rw [ef_122, sg_up_s, sgu_n (by decide)]; exact ev_22.symm))))
                  refine sg_calli (va_runV (As := []) (rest := []) ⟨hx, hb, hml, hown, hts⟩ (kX12_byteAt l D ca za h hh f_127 L Q hI H.size) (cwV 0 hts (gw_V (fun _ h => List.mem_cons_of_mem _ h) mw_840 mw_841 mw_842 mw_619 mw_839) rfl rfl rfl (by decide +kernel) ⟨Nat.le_of_ble_eq_true rfl, Nat.le_of_ble_eq_true rfl⟩) (sg_preV (ci := 12) (C := RX12) (T := TX12) (N := 55) hA hK hP hS hZ 0 (by decide) rfl rfl) rfl rfl hl.1 rfl (lv_room (Nat.le_of_ble_eq_true rfl)) dX12_product_87 ⟨Nat.le_refl _, Nat.le_refl _⟩) hA hS (fun r_163 f_160 L_161 Q_162 H locs hq hP hS => ?_)
                  obtain ⟨⟨ef9, eL9, eQ9⟩, hq, p_164⟩ := hq
                  rw [ef9, eL9, eQ9] at hP; clear ef9 eL9 eQ9
                  refine lv_istore_n (lv' := [(2, .int r_163), (1, .int 0), (3, .int r_130), (0, .ref (h 0))]) hx hb dX12_product_90 rfl hl (by decide) rfl (fun ls hl => ?_)
                  refine lv_goto (tgt := 10) hx hb dX12_product_91 (by decide) ?_
                  exact ih_10 0 r_163 f_127 _ _ _ (by have kc0 : (0 : Int32).toInt = 0 := (by decide); have zz0_13 : (f_127 0 13).toInt = v_134.toInt := (congrArg Int32.toInt (show f_127 0 13 = v_134 from ev_134.symm)); omega) (by omega) (by have kc0 : (0 : Int32).toInt = 0 := (by decide); have zz0_13 : (f_127 0 13).toInt = v_134.toInt := (congrArg Int32.toInt (show f_127 0 13 = v_134 from ev_134.symm)); omega) (by have kc0 : (0 : Int32).toInt = 0 := (by decide); have zz0_16 : (f_127 0 16).toInt = v_137.toInt := (congrArg Int32.toInt (show f_127 0 16 = v_137 from ev_137.symm)); omega) (by have kc0 : (0 : Int32).toInt = 0 := (by decide); have zz0_15 : (f_127 0 15).toInt = v_140.toInt := (congrArg Int32.toInt (show f_127 0 15 = v_140 from ev_140.symm)); have zz0_16 : (f_127 0 16).toInt = v_137.toInt := (congrArg Int32.toInt (show f_127 0 16 = v_137 from ev_137.symm)); omega) (by have kc0 : (0 : Int32).toInt = 0 := (by decide); have zz0_13 : (f_127 0 13).toInt = v_134.toInt := (congrArg Int32.toInt (show f_127 0 13 = v_134 from ev_134.symm)); have zz0_14 : (f_127 0 14).toInt = v_22.toInt := (congrArg Int32.toInt (show f_127 0 14 = v_22 from ((hk_f_127 0 14 (by decide)).trans (by rw [ef_122, sg_up_s, sgu_n (by decide)]; exact ev_22.symm)))); omega) hI hF hP hS (lv_sub hl [3, 1, 0] rfl)
              · skip
                exfalso; have c_145 : y2_10.toInt = 42 := (by have z := Int32.toInt_inj.mpr c; have k1 : (42 : Int32).toInt = 42 := (by decide); omega); omega
  refine lv_aload_n hx hb dX12_product_0 rfl (lv_at hl 0 rfl) ?_
  have q_165 : (f 0 16).toInt = v_1.toInt := (congrArg Int32.toInt (show f 0 16 = v_1 from ev_1.symm))
  have q_166 : (f 0 15).toInt = v_3.toInt := (congrArg Int32.toInt (show f 0 15 = v_3 from ev_3.symm))
  have q_167 : (f 0 16).toInt = v_1.toInt := (congrArg Int32.toInt (show f 0 16 = v_1 from ev_1.symm))
  have q_168 : (f 0 13).toInt = v_5.toInt := (congrArg Int32.toInt (show f 0 13 = v_5 from ev_5.symm))
  refine sg_calli (va_runV (As := []) (rest := []) ⟨hx, hb, hml, hown, hts⟩ (kX12_one_3 l D ca za h hh f L Q hI (by omega) (by omega) H.size) (cwV 0 hts (gw_V (fun _ h => List.mem_cons_of_mem _ h) mw_789 mw_790 mw_791 mw_619 mw_788) rfl rfl rfl (by decide +kernel) ⟨Nat.le_of_ble_eq_true rfl, Nat.le_of_ble_eq_true rfl⟩) (sg_preV (ci := 12) (C := RX12) (T := TX12) (N := 55) hA hK hP hS hZ 0 (by decide) rfl rfl) rfl rfl hl.1 rfl (lv_room (Nat.le_of_ble_eq_true rfl)) dX12_product_1 ⟨Nat.le_refl _, Nat.le_refl _⟩) hA hS (fun r_172 f_169 L_170 Q_171 H locs hq hP hS => ?_)
  obtain ⟨⟨hI, hk_f_169, eL9, eQ9⟩, hq, p_173, p_174, p_175⟩ := hq
  rw [eL9, eQ9] at hP; clear eL9 eQ9
  have hF : sgK WkX12_product_3 f f_169 := sgK.tr hF hk_f_169 (by decide)
  obtain ⟨v_176, ev_176⟩ : ∃ z : Int32, z = f_169 0 13 := ⟨_, rfl⟩
  have q_177 : 0 ≤ v_176.toInt ∧ v_176.toInt ≤ 120 := by rw [ev_176]; exact hI 0 13
  have q_178 : (f_169 0 13).toInt = v_176.toInt := (congrArg Int32.toInt (show f_169 0 13 = v_176 from ev_176.symm))
  obtain ⟨v_179, ev_179⟩ : ∃ z : Int32, z = f_169 0 16 := ⟨_, rfl⟩
  have q_180 : 0 ≤ v_179.toInt ∧ v_179.toInt ≤ 6 := by rw [ev_179]; exact hI 0 16
  have q_181 : (f_169 0 16).toInt = v_179.toInt := (congrArg Int32.toInt (show f_169 0 16 = v_179 from ev_179.symm))
  obtain ⟨v_182, ev_182⟩ : ∃ z : Int32, z = f_169 0 15 := ⟨_, rfl⟩
  have q_183 : (-1) ≤ v_182.toInt ∧ v_182.toInt ≤ 120 := by rw [ev_182]; exact hI 0 15
  have q_184 : (f_169 0 15).toInt = v_182.toInt := (congrArg Int32.toInt (show f_169 0 15 = v_182 from ev_182.symm))
  have q_185 : (f_169 0 16).toInt = v_179.toInt := (congrArg Int32.toInt (show f_169 0 16 = v_179 from ev_179.symm))
  refine lv_istore_n (lv' := [(1, .int r_172), (0, .ref (h 0))]) hx hb dX12_product_4 rfl hl (by decide) rfl (fun ls hl => ?_)
  refine lv_aload_n hx hb dX12_product_5 rfl (lv_at hl 1 rfl) ?_
  have q_186 : (f_169 0 13).toInt = v_176.toInt := (congrArg Int32.toInt (show f_169 0 13 = v_176 from ev_176.symm))
  have q_187 : (f_169 0 14).toInt = v_7.toInt := (congrArg Int32.toInt (show f_169 0 14 = v_7 from ((hk_f_169 0 14 (by decide)).trans ev_7.symm)))
  refine sg_calli (va_runV (As := []) (rest := []) ⟨hx, hb, hml, hown, hts⟩ (kX12_byteAt l D ca za h hh f_169 L Q hI H.size) (cwV 0 hts (gw_V (fun _ h => List.mem_cons_of_mem _ h) mw_840 mw_841 mw_842 mw_619 mw_839) rfl rfl rfl (by decide +kernel) ⟨Nat.le_of_ble_eq_true rfl, Nat.le_of_ble_eq_true rfl⟩) (sg_preV (ci := 12) (C := RX12) (T := TX12) (N := 55) hA hK hP hS hZ 0 (by decide) rfl rfl) rfl rfl hl.1 rfl (lv_room (Nat.le_of_ble_eq_true rfl)) dX12_product_6 ⟨Nat.le_refl _, Nat.le_refl _⟩) hA hS (fun r_191 f_188 L_189 Q_190 H locs hq hP hS => ?_)
  obtain ⟨⟨ef9, eL9, eQ9⟩, hq, p_192⟩ := hq
  rw [ef9, eL9, eQ9] at hP; clear ef9 eL9 eQ9
  refine lv_istore_n (lv' := [(2, .int r_191), (1, .int r_172), (0, .ref (h 0))]) hx hb dX12_product_9 rfl hl (by decide) rfl (fun ls hl => ?_)
  exact loop_10 121 r_172 r_191 f_169 _ _ _ (by have zz0_13 : (f_169 0 13).toInt = v_176.toInt := (congrArg Int32.toInt (show f_169 0 13 = v_176 from ev_176.symm)); omega) (by omega) (by have zz0_13 : (f_169 0 13).toInt = v_176.toInt := (congrArg Int32.toInt (show f_169 0 13 = v_176 from ev_176.symm)); omega) (by have zz0_16 : (f_169 0 16).toInt = v_179.toInt := (congrArg Int32.toInt (show f_169 0 16 = v_179 from ev_179.symm)); omega) (by have zz0_15 : (f_169 0 15).toInt = v_182.toInt := (congrArg Int32.toInt (show f_169 0 15 = v_182 from ev_182.symm)); have zz0_16 : (f_169 0 16).toInt = v_179.toInt := (congrArg Int32.toInt (show f_169 0 16 = v_179 from ev_179.symm)); omega) (by have zz0_13 : (f_169 0 13).toInt = v_176.toInt := (congrArg Int32.toInt (show f_169 0 13 = v_176 from ev_176.symm)); have zz0_14 : (f_169 0 14).toInt = v_7.toInt := (congrArg Int32.toInt (show f_169 0 14 = v_7 from ((hk_f_169 0 14 (by decide)).trans ev_7.symm))); omega) hI hF hP hS (lv_sub hl [2, 1, 0] rfl)

abbrev WkX12_sums_3 : List (Nat × Nat × Option Nat) := [(0, 0, some 13), (0, 0, some 15), (0, 0, some 16)]
set_option maxHeartbeats 4000000 in
set_option maxRecDepth 100000 in
theorem kX12_sums_3 (l : Launch) (D : va_G) (ca : Nat → ClassId) (za h : Nat → Nat) (hh : sgH 26 h) (f : sg_F) (L : sg_L) (Q : sg_Q) (hI : sgI loM hiM f) (p0 : 3 ≤ (f 0 16).toInt) (p1 : 0 ≤ (f 0 15).toInt ∨ (f 0 16).toInt = 3) (sz : Nat) : Met l yX12_sums gwX12_sums { frames := 21, cells := 0, slots := 0, locals := 478 } (sgP D vwCl (tyX ca) 26 h (eM ca h) zcM za f L Q sz [.ref (h 0)]) (sgQi D vwCl 26 h (eM ca h) sz (fun r f1 L1 Q1 => ((sgI loM hiM f1 ∧ sgK WkX12_sums_3 f f1 ∧ L1 = L ∧ Q1 = Q) ∧ True ∧ ((f 0 13).toInt ≤ (f1 0 13).toInt) ∧ (3 ≤ (f1 0 16).toInt) ∧ (0 ≤ (f1 0 15).toInt ∨ (f1 0 16).toInt = 3)))) 0 0 (sgA 26 h sz) := by
  refine sg_ofWi (cc := cX12_sums) (maxL := 4) RX12 (by decide) rfl rfl (Nat.le_of_ble_eq_true rfl) ?_
  intro p e s m below meth cd Qz ls hx hb hml hown hts hK hZ hP hS hl hret
  have hA := sgY.self (n := 26) (h := h) (sz := s.heap.size)
  have hl : lv_has ls 4 [(0, .ref (h 0))] := hl
  obtain ⟨H, hH⟩ : ∃ z : Heap, z = s.heap := ⟨_, rfl⟩
  obtain ⟨locs, hlo⟩ : ∃ z : List Loc, z = [] := ⟨_, rfl⟩
  have hP : va_P D vwCl (sgw 26 h (eM ca h) f L Q) H := by rw [hH]; exact hP
  have hS : va_S (sgA 26 h s.heap.size) s.heap H locs := by rw [hH, hlo]; exact hS
  suffices hgo : W p l e ({ frames := 21, cells := 0, slots := 0, locals := 478 }) s m ([.ref (h 0)] : List Value).toArray below meth cd H locs 0 0 Qz (F0 m 0 ls []) by rw [hH, hlo] at hgo; exact hgo
  clear hH hlo
  obtain ⟨v_1, ev_1⟩ : ∃ z : Int32, z = f 0 16 := ⟨_, rfl⟩
  have q_2 : 0 ≤ v_1.toInt ∧ v_1.toInt ≤ 6 := by rw [ev_1]; exact hI 0 16
  obtain ⟨v_3, ev_3⟩ : ∃ z : Int32, z = f 0 15 := ⟨_, rfl⟩
  have q_4 : (-1) ≤ v_3.toInt ∧ v_3.toInt ≤ 120 := by rw [ev_3]; exact hI 0 15
  obtain ⟨v_5, ev_5⟩ : ∃ z : Int32, z = f 0 13 := ⟨_, rfl⟩
  have q_6 : 0 ≤ v_5.toInt ∧ v_5.toInt ≤ 120 := by rw [ev_5]; exact hI 0 13
  have o_7 : (f 0 16).toInt = v_1.toInt := (congrArg Int32.toInt (show f 0 16 = v_1 from ev_1.symm))
  have o_8 : (f 0 15).toInt = v_3.toInt := (congrArg Int32.toInt (show f 0 15 = v_3 from ev_3.symm))
  have o_9 : (f 0 13).toInt = v_5.toInt := (congrArg Int32.toInt (show f 0 13 = v_5 from ev_5.symm))
  have hF : sgK WkX12_sums_3 f f := sgK.rf
  have loop_5 : ∀ (n_5 : Nat) (y1_5 : Int32) (fp_5 : sg_F) (H : Heap) (locs : List Loc) (ls : Array Slot), 120 - (fp_5 0 13).toInt < (n_5 : Int) → (f 0 13).toInt ≤ (fp_5 0 13).toInt → 3 ≤ (fp_5 0 16).toInt → 0 ≤ (fp_5 0 15).toInt ∨ (fp_5 0 16).toInt = 3 → sgI loM hiM fp_5 → sgK WkX12_sums_3 f fp_5 → va_P D vwCl (sgw 26 h (eM ca h) fp_5 L Q) H → va_S (sgA 26 h s.heap.size) s.heap H locs → lv_has ls 4 [(0, .ref (h 0)), (1, .int y1_5)] → W p l e ({ frames := 21, cells := 0, slots := 0, locals := 478 }) s m ([.ref (h 0)] : List Value).toArray below meth cd H locs 0 0 Qz (F0 m 5 ls []) := by
    intro n_5
    induction n_5 with
    | zero => intro y1_5 fp_5 H locs ls hm_5 hg0_5 hg1_5 hg2_5 hI hF hP hS hl; have zb := (show 0 ≤ (fp_5 0 13).toInt ∧ (fp_5 0 13).toInt ≤ 120 from hI 0 13); exact absurd hm_5 (by omega)
    | succ n_5 ih_5 =>
      intro y1_5 fp_5 H locs ls hm_5 hg0_5 hg1_5 hg2_5 hI hF hP hS hl
      obtain ⟨v_10, ev_10⟩ : ∃ z : Int32, z = fp_5 0 13 := ⟨_, rfl⟩
      have q_11 : 0 ≤ v_10.toInt ∧ v_10.toInt ≤ 120 := by rw [ev_10]; exact hI 0 13
      have q_12 : (fp_5 0 13).toInt = v_10.toInt := by rw [ev_10]
      obtain ⟨v_13, ev_13⟩ : ∃ z : Int32, z = fp_5 0 16 := ⟨_, rfl⟩
      have q_14 : 0 ≤ v_13.toInt ∧ v_13.toInt ≤ 6 := by rw [ev_13]; exact hI 0 16
      have q_15 : (fp_5 0 16).toInt = v_13.toInt := by rw [ev_13]
      obtain ⟨v_16, ev_16⟩ : ∃ z : Int32, z = fp_5 0 15 := ⟨_, rfl⟩
      have q_17 : (-1) ≤ v_16.toInt ∧ v_16.toInt ≤ 120 := by rw [ev_16]; exact hI 0 15
      have q_18 : (fp_5 0 15).toInt = v_16.toInt := by rw [ev_16]
      refine lv_aload_n hx hb dX12_sums_5 rfl (lv_at hl 0 rfl) ?_
      refine sg_get (ci := 12) (v := .int v_16) (C := RX12) (T := TX12) (N := 55) hx hb hts (fun w h => List.mem_cons_of_mem _ (gx_12 w h)) hown hK hP 0 (by decide) rfl rfl 15 (by decide) (hts _ (List.mem_cons_of_mem _ mw_627)) (fun _ h9 => h9) (congrArg (fun z => some (Value.int z)) (show fp_5 0 15 = v_16 from ev_16.symm)) dX12_sums_6 ?_
      refine lv_if_ge (tgt := 77) hx hb dX12_sums_9 (by decide) (fun c => ?_) (fun c => ?_)
      · skip
        have c_19 : 0 ≤ v_16.toInt := (by have z := bn_le c; have k1 : (0 : Int32).toInt = 0 := (by decide); omega)
        refine lv_iload_n hx hb dX12_sums_77 rfl (lv_at hl 1 rfl) ?_
        have q_21 : (fp_5 0 13).toInt = v_10.toInt := (congrArg Int32.toInt (show fp_5 0 13 = v_10 from ev_10.symm))
        have q_22 : (fp_5 0 16).toInt = v_13.toInt := (congrArg Int32.toInt (show fp_5 0 16 = v_13 from ev_13.symm))
        have q_23 : (fp_5 0 15).toInt = v_16.toInt := (congrArg Int32.toInt (show fp_5 0 15 = v_16 from ev_16.symm))
        have q_24 : (fp_5 0 16).toInt = v_13.toInt := (congrArg Int32.toInt (show fp_5 0 16 = v_13 from ev_13.symm))
        exact hret _ _ _ _ (y1_5) fp_5 L Q dX12_sums_78 hP hS ⟨⟨hI, hF, rfl, rfl⟩, trivial, (by omega), (by omega), (by omega)⟩
      · skip
        have c_20 : v_16.toInt < 0 := (by have z := bn_nle c; have k1 : (0 : Int32).toInt = 0 := (by decide); omega)
        refine lv_aload_n hx hb dX12_sums_12 rfl (lv_at hl 0 rfl) ?_
        have q_25 : (fp_5 0 13).toInt = v_10.toInt := (congrArg Int32.toInt (show fp_5 0 13 = v_10 from ev_10.symm))
        obtain ⟨v_26, ev_26⟩ : ∃ z : Int32, z = fp_5 0 14 := ⟨_, rfl⟩
        have q_27 : 0 ≤ v_26.toInt ∧ v_26.toInt ≤ 120 := by rw [ev_26]; exact hI 0 14
        have q_28 : (fp_5 0 14).toInt = v_26.toInt := (congrArg Int32.toInt (show fp_5 0 14 = v_26 from ev_26.symm))
        refine sg_calli (va_runV (As := []) (rest := []) ⟨hx, hb, hml, hown, hts⟩ (kX12_byteAt l D ca za h hh fp_5 L Q hI H.size) (cwV 0 hts (gw_V (fun _ h => List.mem_cons_of_mem _ h) mw_840 mw_841 mw_842 mw_619 mw_839) rfl rfl rfl (by decide +kernel) ⟨Nat.le_of_ble_eq_true rfl, Nat.le_of_ble_eq_true rfl⟩) (sg_preV (ci := 12) (C := RX12) (T := TX12) (N := 55) hA hK hP hS hZ 0 (by decide) rfl rfl) rfl rfl hl.1 rfl (lv_room (Nat.le_of_ble_eq_true rfl)) dX12_sums_13 ⟨Nat.le_refl _, Nat.le_refl _⟩) hA hS (fun r_32 f_29 L_30 Q_31 H locs hq hP hS => ?_)
        obtain ⟨⟨ef9, eL9, eQ9⟩, hq, p_33⟩ := hq
        rw [ef9, eL9, eQ9] at hP; clear ef9 eL9 eQ9
        refine lv_bipush (v := 43) hx hb dX12_sums_16 (by decide) ?_
        refine lv_icmp_eq (tgt := 30) hx hb dX12_sums_18 (by decide) (fun c => ?_) (fun c => ?_)
        · skip
          have c_34 : r_32.toInt = 43 := (by have z := Int32.toInt_inj.mpr c; have k1 : (43 : Int32).toInt = 43 := (by decide); omega)
          refine lv_aload_n hx hb dX12_sums_30 rfl (lv_at hl 0 rfl) ?_
          have q_36 : (fp_5 0 13).toInt = v_10.toInt := (congrArg Int32.toInt (show fp_5 0 13 = v_10 from ev_10.symm))
          have q_37 : (fp_5 0 14).toInt = v_26.toInt := (congrArg Int32.toInt (show fp_5 0 14 = v_26 from ev_26.symm))
          refine sg_calli (va_runV (As := []) (rest := []) ⟨hx, hb, hml, hown, hts⟩ (kX12_byteAt l D ca za h hh fp_5 L Q hI H.size) (cwV 0 hts (gw_V (fun _ h => List.mem_cons_of_mem _ h) mw_840 mw_841 mw_842 mw_619 mw_839) rfl rfl rfl (by decide +kernel) ⟨Nat.le_of_ble_eq_true rfl, Nat.le_of_ble_eq_true rfl⟩) (sg_preV (ci := 12) (C := RX12) (T := TX12) (N := 55) hA hK hP hS hZ 0 (by decide) rfl rfl) rfl rfl hl.1 rfl (lv_room (Nat.le_of_ble_eq_true rfl)) dX12_sums_31 ⟨Nat.le_refl _, Nat.le_refl _⟩) hA hS (fun r_41 f_38 L_39 Q_40 H locs hq hP hS => ?_)
          obtain ⟨⟨ef9, eL9, eQ9⟩, hq, p_42⟩ := hq
          rw [ef9, eL9, eQ9] at hP; clear ef9 eL9 eQ9
          refine lv_bipush (v := 43) hx hb dX12_sums_34 (by decide) ?_
          refine lv_icmp_ne (tgt := 43) hx hb dX12_sums_36 (by decide) (fun c => ?_) (fun c => ?_)
          · skip
            have c_43 : r_41.toInt ≠ 43 := (by have z := bn_ne c; have k1 : (43 : Int32).toInt = 43 := (by decide); omega)
            refine lv_iconst (v := 0) hx hb dX12_sums_43 (by decide) ?_
            refine lv_istore_n (lv' := [(2, .int 0), (0, .ref (h 0)), (1, .int y1_5)]) hx hb dX12_sums_44 rfl hl (by decide) rfl (fun ls hl => ?_)
            refine lv_aload_n hx hb dX12_sums_45 rfl (lv_at hl 1 rfl) ?_
            refine lv_dup hx hb dX12_sums_46 rfl ?_
            refine sg_get (ci := 12) (v := .int v_10) (C := RX12) (T := TX12) (N := 55) hx hb hts (fun w h => List.mem_cons_of_mem _ (gx_12 w h)) hown hK hP 0 (by decide) rfl rfl 13 (by decide) (hts _ (List.mem_cons_of_mem _ mw_625)) (fun _ h9 => h9) (congrArg (fun z => some (Value.int z)) (show fp_5 0 13 = v_10 from ev_10.symm)) dX12_sums_47 ?_
            refine lv_iconst (v := 1) hx hb dX12_sums_50 (by decide) ?_
            refine lv_iadd hx hb dX12_sums_51 ?_
            refine lv_topi (fun v_45 ev_45 => ?_)
            have q_46 : v_45.toInt = v_10.toInt + 1 := by rw [ev_45]; have k1 : (1 : Int32).toInt = 1 := (by decide); exact (bn_addI (by omega) (by omega)).trans (by omega)
            refine sg_put (ci := 12) (x := v_45) (ty := .int) (C := RX12) (T := TX12) (N := 55) hx hb hts (fun w h => List.mem_cons_of_mem _ (gx_12 w h)) tyX12 tyX12_ok nmX12 hown hh hA hK hP hS 0 (by decide) rfl rfl 13 (by decide) (hts _ (List.mem_cons_of_mem _ mw_625)) (fun _ h9 => h9) rfl rfl (by decide +kernel) rfl rfl (Nat.le_of_ble_eq_true rfl) dX12_sums_52 (fun f_47 H locs ef_47 hP hS => ?_)
            have hI : sgI loM hiM f_47 := by rw [ef_47]; exact sgI.put hI 0 13 (show 0 ≤ (v_45 : Int32).toInt ∧ (v_45 : Int32).toInt ≤ 120 from by omega)
            have hF : sgK WkX12_sums_3 f f_47 := sgK.put hF ef_47 (by rfl)
            refine lv_aload_n hx hb dX12_sums_55 rfl (lv_at hl 1 rfl) ?_
            have q_48 : (f_47 0 16).toInt = v_13.toInt := (congrArg Int32.toInt (show f_47 0 16 = v_13 from (by rw [ef_47, sg_up_s, sgu_n (by decide)]; exact ev_13.symm)))
            have q_49 : (f_47 0 15).toInt = v_16.toInt := (congrArg Int32.toInt (show f_47 0 15 = v_16 from (by rw [ef_47, sg_up_s, sgu_n (by decide)]; exact ev_16.symm)))
            have q_50 : (f_47 0 16).toInt = v_13.toInt := (congrArg Int32.toInt (show f_47 0 16 = v_13 from (by rw [ef_47, sg_up_s, sgu_n (by decide)]; exact ev_13.symm)))
            have q_51 : (f_47 0 13).toInt = v_45.toInt := (congrArg Int32.toInt (show f_47 0 13 = v_45 from (by rw [ef_47, sg_up_s, sgu_s])))
            refine sg_calli (va_runV (As := []) (rest := []) ⟨hx, hb, hml, hown, hts⟩ (kX12_product_3 l D ca za h hh f_47 L Q hI (by omega) (by omega) H.size) (cwV 0 hts (gw_V (fun _ h => List.mem_cons_of_mem _ h) mw_848 mw_849 mw_850 mw_619 mw_847) rfl rfl rfl (by decide +kernel) ⟨Nat.le_of_ble_eq_true rfl, Nat.le_of_ble_eq_true rfl⟩) (sg_preV (ci := 12) (C := RX12) (T := TX12) (N := 55) hA hK hP hS hZ 0 (by decide) rfl rfl) rfl rfl hl.1 rfl (lv_room (Nat.le_of_ble_eq_true rfl)) dX12_sums_56 ⟨Nat.le_refl _, Nat.le_refl _⟩) hA hS (fun r_55 f_52 L_53 Q_54 H locs hq hP hS => ?_)
            obtain ⟨⟨hI, hk_f_52, eL9, eQ9⟩, hq, p_56, p_57, p_58⟩ := hq
            rw [eL9, eQ9] at hP; clear eL9 eQ9
            have hF : sgK WkX12_sums_3 f f_52 := sgK.tr hF hk_f_52 (by decide)
            obtain ⟨v_59, ev_59⟩ : ∃ z : Int32, z = f_52 0 13 := ⟨_, rfl⟩
            have q_60 : 0 ≤ v_59.toInt ∧ v_59.toInt ≤ 120 := by rw [ev_59]; exact hI 0 13
            have q_61 : (f_52 0 13).toInt = v_59.toInt := (congrArg Int32.toInt (show f_52 0 13 = v_59 from ev_59.symm))
            obtain ⟨v_62, ev_62⟩ : ∃ z : Int32, z = f_52 0 16 := ⟨_, rfl⟩
            have q_63 : 0 ≤ v_62.toInt ∧ v_62.toInt ≤ 6 := by rw [ev_62]; exact hI 0 16
            have q_64 : (f_52 0 16).toInt = v_62.toInt := (congrArg Int32.toInt (show f_52 0 16 = v_62 from ev_62.symm))
            obtain ⟨v_65, ev_65⟩ : ∃ z : Int32, z = f_52 0 15 := ⟨_, rfl⟩
            have q_66 : (-1) ≤ v_65.toInt ∧ v_65.toInt ≤ 120 := by rw [ev_65]; exact hI 0 15
            have q_67 : (f_52 0 15).toInt = v_65.toInt := (congrArg Int32.toInt (show f_52 0 15 = v_65 from ev_65.symm))
            have q_68 : (f_52 0 16).toInt = v_62.toInt := (congrArg Int32.toInt (show f_52 0 16 = v_62 from ev_62.symm))
            refine lv_istore_n (lv' := [(3, .int r_55), (2, .int 0), (0, .ref (h 0)), (1, .int y1_5)]) hx hb dX12_sums_59 rfl hl (by decide) rfl (fun ls hl => ?_)
            refine lv_iload_n hx hb dX12_sums_60 rfl (lv_at hl 1 rfl) ?_
            refine lv_if_eq (tgt := 70) hx hb dX12_sums_61 (by decide) (fun c => ?_) (fun c => absurd c (by decide))
            refine lv_iload_n hx hb dX12_sums_70 rfl (lv_at hl 3 rfl) ?_
            refine lv_iload_n hx hb dX12_sums_71 rfl (lv_at hl 0 rfl) ?_
            refine lv_isub hx hb dX12_sums_72 ?_
            refine lv_topi (fun v_69 ev_69 => ?_)
            refine lv_istore_n (lv' := [(1, .int v_69), (3, .int r_55), (2, .int 0), (0, .ref (h 0))]) hx hb dX12_sums_73 rfl hl (by decide) rfl (fun ls hl => ?_)
            refine lv_goto (tgt := 5) hx hb dX12_sums_74 (by decide) ?_
            exact ih_5 v_69 f_52 _ _ _ (by have zz0_13 : (f_52 0 13).toInt = v_59.toInt := (congrArg Int32.toInt (show f_52 0 13 = v_59 from ev_59.symm)); omega) (by have zz0_13 : (f_52 0 13).toInt = v_59.toInt := (congrArg Int32.toInt (show f_52 0 13 = v_59 from ev_59.symm)); omega) (by have zz0_16 : (f_52 0 16).toInt = v_62.toInt := (congrArg Int32.toInt (show f_52 0 16 = v_62 from ev_62.symm)); omega) (by have zz0_15 : (f_52 0 15).toInt = v_65.toInt := (congrArg Int32.toInt (show f_52 0 15 = v_65 from ev_65.symm)); have zz0_16 : (f_52 0 16).toInt = v_62.toInt := (congrArg Int32.toInt (show f_52 0 16 = v_62 from ev_62.symm)); omega) hI hF hP hS (lv_sub hl [3, 0] rfl)
          · skip
            have c_44 : r_41.toInt = 43 := (by have z := Int32.toInt_inj.mpr c; have k1 : (43 : Int32).toInt = 43 := (by decide); omega)
            refine lv_iconst (v := 1) hx hb dX12_sums_39 (by decide) ?_
            refine lv_goto (tgt := 44) hx hb dX12_sums_40 (by decide) ?_
            refine lv_istore_n (lv' := [(2, .int 1), (0, .ref (h 0)), (1, .int y1_5)]) hx hb dX12_sums_44 rfl hl (by decide) rfl (fun ls hl => ?_)
            refine lv_aload_n hx hb dX12_sums_45 rfl (lv_at hl 1 rfl) ?_
            refine lv_dup hx hb dX12_sums_46 rfl ?_
            refine sg_get (ci := 12) (v := .int v_10) (C := RX12) (T := TX12) (N := 55) hx hb hts (fun w h => List.mem_cons_of_mem _ (gx_12 w h)) hown hK hP 0 (by decide) rfl rfl 13 (by decide) (hts _ (List.mem_cons_of_mem _ mw_625)) (fun _ h9 => h9) (congrArg (fun z => some (Value.int z)) (show fp_5 0 13 = v_10 from ev_10.symm)) dX12_sums_47 ?_
            refine lv_iconst (v := 1) hx hb dX12_sums_50 (by decide) ?_
            refine lv_iadd hx hb dX12_sums_51 ?_
            refine lv_topi (fun v_70 ev_70 => ?_)
            have q_71 : v_70.toInt = v_10.toInt + 1 := by rw [ev_70]; have k1 : (1 : Int32).toInt = 1 := (by decide); exact (bn_addI (by omega) (by omega)).trans (by omega)
            refine sg_put (ci := 12) (x := v_70) (ty := .int) (C := RX12) (T := TX12) (N := 55) hx hb hts (fun w h => List.mem_cons_of_mem _ (gx_12 w h)) tyX12 tyX12_ok nmX12 hown hh hA hK hP hS 0 (by decide) rfl rfl 13 (by decide) (hts _ (List.mem_cons_of_mem _ mw_625)) (fun _ h9 => h9) rfl rfl (by decide +kernel) rfl rfl (Nat.le_of_ble_eq_true rfl) dX12_sums_52 (fun f_72 H locs ef_72 hP hS => ?_)
            have hI : sgI loM hiM f_72 := by rw [ef_72]; exact sgI.put hI 0 13 (show 0 ≤ (v_70 : Int32).toInt ∧ (v_70 : Int32).toInt ≤ 120 from by omega)
            have hF : sgK WkX12_sums_3 f f_72 := sgK.put hF ef_72 (by rfl)
            refine lv_aload_n hx hb dX12_sums_55 rfl (lv_at hl 1 rfl) ?_
            have q_73 : (f_72 0 16).toInt = v_13.toInt := (congrArg Int32.toInt (show f_72 0 16 = v_13 from (by rw [ef_72, sg_up_s, sgu_n (by decide)]; exact ev_13.symm)))
            have q_74 : (f_72 0 15).toInt = v_16.toInt := (congrArg Int32.toInt (show f_72 0 15 = v_16 from (by rw [ef_72, sg_up_s, sgu_n (by decide)]; exact ev_16.symm)))
            have q_75 : (f_72 0 16).toInt = v_13.toInt := (congrArg Int32.toInt (show f_72 0 16 = v_13 from (by rw [ef_72, sg_up_s, sgu_n (by decide)]; exact ev_13.symm)))
            have q_76 : (f_72 0 13).toInt = v_70.toInt := (congrArg Int32.toInt (show f_72 0 13 = v_70 from (by rw [ef_72, sg_up_s, sgu_s])))
            refine sg_calli (va_runV (As := []) (rest := []) ⟨hx, hb, hml, hown, hts⟩ (kX12_product_3 l D ca za h hh f_72 L Q hI (by omega) (by omega) H.size) (cwV 0 hts (gw_V (fun _ h => List.mem_cons_of_mem _ h) mw_848 mw_849 mw_850 mw_619 mw_847) rfl rfl rfl (by decide +kernel) ⟨Nat.le_of_ble_eq_true rfl, Nat.le_of_ble_eq_true rfl⟩) (sg_preV (ci := 12) (C := RX12) (T := TX12) (N := 55) hA hK hP hS hZ 0 (by decide) rfl rfl) rfl rfl hl.1 rfl (lv_room (Nat.le_of_ble_eq_true rfl)) dX12_sums_56 ⟨Nat.le_refl _, Nat.le_refl _⟩) hA hS (fun r_80 f_77 L_78 Q_79 H locs hq hP hS => ?_)
            obtain ⟨⟨hI, hk_f_77, eL9, eQ9⟩, hq, p_81, p_82, p_83⟩ := hq
            rw [eL9, eQ9] at hP; clear eL9 eQ9
            have hF : sgK WkX12_sums_3 f f_77 := sgK.tr hF hk_f_77 (by decide)
            obtain ⟨v_84, ev_84⟩ : ∃ z : Int32, z = f_77 0 13 := ⟨_, rfl⟩
            have q_85 : 0 ≤ v_84.toInt ∧ v_84.toInt ≤ 120 := by rw [ev_84]; exact hI 0 13
            have q_86 : (f_77 0 13).toInt = v_84.toInt := (congrArg Int32.toInt (show f_77 0 13 = v_84 from ev_84.symm))
            obtain ⟨v_87, ev_87⟩ : ∃ z : Int32, z = f_77 0 16 := ⟨_, rfl⟩
            have q_88 : 0 ≤ v_87.toInt ∧ v_87.toInt ≤ 6 := by rw [ev_87]; exact hI 0 16
            have q_89 : (f_77 0 16).toInt = v_87.toInt := (congrArg Int32.toInt (show f_77 0 16 = v_87 from ev_87.symm))
            obtain ⟨v_90, ev_90⟩ : ∃ z : Int32, z = f_77 0 15 := ⟨_, rfl⟩
            have q_91 : (-1) ≤ v_90.toInt ∧ v_90.toInt ≤ 120 := by rw [ev_90]; exact hI 0 15
            have q_92 : (f_77 0 15).toInt = v_90.toInt := (congrArg Int32.toInt (show f_77 0 15 = v_90 from ev_90.symm))
            have q_93 : (f_77 0 16).toInt = v_87.toInt := (congrArg Int32.toInt (show f_77 0 16 = v_87 from ev_87.symm))
            refine lv_istore_n (lv' := [(3, .int r_80), (2, .int 1), (0, .ref (h 0)), (1, .int y1_5)]) hx hb dX12_sums_59 rfl hl (by decide) rfl (fun ls hl => ?_)
            refine lv_iload_n hx hb dX12_sums_60 rfl (lv_at hl 1 rfl) ?_
            refine lv_if_eq (tgt := 70) hx hb dX12_sums_61 (by decide) (fun c => absurd c (by decide)) (fun c => ?_)
            refine lv_iload_n hx hb dX12_sums_64 rfl (lv_at hl 3 rfl) ?_
            refine lv_iload_n hx hb dX12_sums_65 rfl (lv_at hl 0 rfl) ?_
            refine lv_iadd hx hb dX12_sums_66 ?_
            refine lv_topi (fun v_94 ev_94 => ?_)
            refine lv_goto (tgt := 73) hx hb dX12_sums_67 (by decide) ?_
            refine lv_istore_n (lv' := [(1, .int v_94), (3, .int r_80), (2, .int 1), (0, .ref (h 0))]) hx hb dX12_sums_73 rfl hl (by decide) rfl (fun ls hl => ?_)
            refine lv_goto (tgt := 5) hx hb dX12_sums_74 (by decide) ?_
            exact ih_5 v_94 f_77 _ _ _ (by have zz0_13 : (f_77 0 13).toInt = v_84.toInt := (congrArg Int32.toInt (show f_77 0 13 = v_84 from ev_84.symm)); omega) (by have zz0_13 : (f_77 0 13).toInt = v_84.toInt := (congrArg Int32.toInt (show f_77 0 13 = v_84 from ev_84.symm)); omega) (by have zz0_16 : (f_77 0 16).toInt = v_87.toInt := (congrArg Int32.toInt (show f_77 0 16 = v_87 from ev_87.symm)); omega) (by have zz0_15 : (f_77 0 15).toInt = v_90.toInt := (congrArg Int32.toInt (show f_77 0 15 = v_90 from ev_90.symm)); have zz0_16 : (f_77 0 16).toInt = v_87.toInt := (congrArg Int32.toInt (show f_77 0 16 = v_87 from ev_87.symm)); omega) hI hF hP hS (lv_sub hl [3, 0] rfl)
        · skip
          have c_35 : r_32.toInt ≠ 43 := (by have z := bn_ne c; have k1 : (43 : Int32).toInt = 43 := (by decide); omega)
          refine lv_aload_n hx hb dX12_sums_21 rfl (lv_at hl 0 rfl) ?_
          have q_95 : (fp_5 0 13).toInt = v_10.toInt := (congrArg Int32.toInt (show fp_5 0 13 = v_10 from ev_10.symm))
          have q_96 : (fp_5 0 14).toInt = v_26.toInt := (congrArg Int32.toInt (show fp_5 0 14 = v_26 from ev_26.symm))
          refine sg_calli (va_runV (As := []) (rest := []) ⟨hx, hb, hml, hown, hts⟩ (kX12_byteAt l D ca za h hh fp_5 L Q hI H.size) (cwV 0 hts (gw_V (fun _ h => List.mem_cons_of_mem _ h) mw_840 mw_841 mw_842 mw_619 mw_839) rfl rfl rfl (by decide +kernel) ⟨Nat.le_of_ble_eq_true rfl, Nat.le_of_ble_eq_true rfl⟩) (sg_preV (ci := 12) (C := RX12) (T := TX12) (N := 55) hA hK hP hS hZ 0 (by decide) rfl rfl) rfl rfl hl.1 rfl (lv_room (Nat.le_of_ble_eq_true rfl)) dX12_sums_22 ⟨Nat.le_refl _, Nat.le_refl _⟩) hA hS (fun r_100 f_97 L_98 Q_99 H locs hq hP hS => ?_)
          obtain ⟨⟨ef9, eL9, eQ9⟩, hq, p_101⟩ := hq
          rw [ef9, eL9, eQ9] at hP; clear ef9 eL9 eQ9
          refine lv_bipush (v := 45) hx hb dX12_sums_25 (by decide) ?_
          refine lv_icmp_ne (tgt := 77) hx hb dX12_sums_27 (by decide) (fun c => ?_) (fun c => ?_)
          · skip
            have c_102 : r_100.toInt ≠ 45 := (by have z := bn_ne c; have k1 : (45 : Int32).toInt = 45 := (by decide); omega)
            refine lv_iload_n hx hb dX12_sums_77 rfl (lv_at hl 1 rfl) ?_
            have q_104 : (fp_5 0 13).toInt = v_10.toInt := (congrArg Int32.toInt (show fp_5 0 13 = v_10 from ev_10.symm))
            have q_105 : (fp_5 0 16).toInt = v_13.toInt := (congrArg Int32.toInt (show fp_5 0 16 = v_13 from ev_13.symm))
            have q_106 : (fp_5 0 15).toInt = v_16.toInt := (congrArg Int32.toInt (show fp_5 0 15 = v_16 from ev_16.symm))
            have q_107 : (fp_5 0 16).toInt = v_13.toInt := (congrArg Int32.toInt (show fp_5 0 16 = v_13 from ev_13.symm))
            exact hret _ _ _ _ (y1_5) fp_5 L Q dX12_sums_78 hP hS ⟨⟨hI, hF, rfl, rfl⟩, trivial, (by omega), (by omega), (by omega)⟩
          · skip
            have c_103 : r_100.toInt = 45 := (by have z := Int32.toInt_inj.mpr c; have k1 : (45 : Int32).toInt = 45 := (by decide); omega)
            refine lv_aload_n hx hb dX12_sums_30 rfl (lv_at hl 0 rfl) ?_
            have q_108 : (fp_5 0 13).toInt = v_10.toInt := (congrArg Int32.toInt (show fp_5 0 13 = v_10 from ev_10.symm))
            have q_109 : (fp_5 0 14).toInt = v_26.toInt := (congrArg Int32.toInt (show fp_5 0 14 = v_26 from ev_26.symm))
            refine sg_calli (va_runV (As := []) (rest := []) ⟨hx, hb, hml, hown, hts⟩ (kX12_byteAt l D ca za h hh fp_5 L Q hI H.size) (cwV 0 hts (gw_V (fun _ h => List.mem_cons_of_mem _ h) mw_840 mw_841 mw_842 mw_619 mw_839) rfl rfl rfl (by decide +kernel) ⟨Nat.le_of_ble_eq_true rfl, Nat.le_of_ble_eq_true rfl⟩) (sg_preV (ci := 12) (C := RX12) (T := TX12) (N := 55) hA hK hP hS hZ 0 (by decide) rfl rfl) rfl rfl hl.1 rfl (lv_room (Nat.le_of_ble_eq_true rfl)) dX12_sums_31 ⟨Nat.le_refl _, Nat.le_refl _⟩) hA hS (fun r_113 f_110 L_111 Q_112 H locs hq hP hS => ?_)
            obtain ⟨⟨ef9, eL9, eQ9⟩, hq, p_114⟩ := hq
            rw [ef9, eL9, eQ9] at hP; clear ef9 eL9 eQ9
            refine lv_bipush (v := 43) hx hb dX12_sums_34 (by decide) ?_
            refine lv_icmp_ne (tgt := 43) hx hb dX12_sums_36 (by decide) (fun c => ?_) (fun c => ?_)
            · skip
              have c_115 : r_113.toInt ≠ 43 := (by have z := bn_ne c; have k1 : (43 : Int32).toInt = 43 := (by decide); omega)
              refine lv_iconst (v := 0) hx hb dX12_sums_43 (by decide) ?_
              refine lv_istore_n (lv' := [(2, .int 0), (0, .ref (h 0)), (1, .int y1_5)]) hx hb dX12_sums_44 rfl hl (by decide) rfl (fun ls hl => ?_)
              refine lv_aload_n hx hb dX12_sums_45 rfl (lv_at hl 1 rfl) ?_
              refine lv_dup hx hb dX12_sums_46 rfl ?_
              refine sg_get (ci := 12) (v := .int v_10) (C := RX12) (T := TX12) (N := 55) hx hb hts (fun w h => List.mem_cons_of_mem _ (gx_12 w h)) hown hK hP 0 (by decide) rfl rfl 13 (by decide) (hts _ (List.mem_cons_of_mem _ mw_625)) (fun _ h9 => h9) (congrArg (fun z => some (Value.int z)) (show fp_5 0 13 = v_10 from ev_10.symm)) dX12_sums_47 ?_
              refine lv_iconst (v := 1) hx hb dX12_sums_50 (by decide) ?_
              refine lv_iadd hx hb dX12_sums_51 ?_
              refine lv_topi (fun v_117 ev_117 => ?_)
              have q_118 : v_117.toInt = v_10.toInt + 1 := by rw [ev_117]; have k1 : (1 : Int32).toInt = 1 := (by decide); exact (bn_addI (by omega) (by omega)).trans (by omega)
              refine sg_put (ci := 12) (x := v_117) (ty := .int) (C := RX12) (T := TX12) (N := 55) hx hb hts (fun w h => List.mem_cons_of_mem _ (gx_12 w h)) tyX12 tyX12_ok nmX12 hown hh hA hK hP hS 0 (by decide) rfl rfl 13 (by decide) (hts _ (List.mem_cons_of_mem _ mw_625)) (fun _ h9 => h9) rfl rfl (by decide +kernel) rfl rfl (Nat.le_of_ble_eq_true rfl) dX12_sums_52 (fun f_119 H locs ef_119 hP hS => ?_)
              have hI : sgI loM hiM f_119 := by rw [ef_119]; exact sgI.put hI 0 13 (show 0 ≤ (v_117 : Int32).toInt ∧ (v_117 : Int32).toInt ≤ 120 from by omega)
              have hF : sgK WkX12_sums_3 f f_119 := sgK.put hF ef_119 (by rfl)
              refine lv_aload_n hx hb dX12_sums_55 rfl (lv_at hl 1 rfl) ?_
              have q_120 : (f_119 0 16).toInt = v_13.toInt := (congrArg Int32.toInt (show f_119 0 16 = v_13 from (by rw [ef_119, sg_up_s, sgu_n (by decide)]; exact ev_13.symm)))
              have q_121 : (f_119 0 15).toInt = v_16.toInt := (congrArg Int32.toInt (show f_119 0 15 = v_16 from (by rw [ef_119, sg_up_s, sgu_n (by decide)]; exact ev_16.symm)))
              have q_122 : (f_119 0 16).toInt = v_13.toInt := (congrArg Int32.toInt (show f_119 0 16 = v_13 from (by rw [ef_119, sg_up_s, sgu_n (by decide)]; exact ev_13.symm)))
              have q_123 : (f_119 0 13).toInt = v_117.toInt := (congrArg Int32.toInt (show f_119 0 13 = v_117 from (by rw [ef_119, sg_up_s, sgu_s])))
              refine sg_calli (va_runV (As := []) (rest := []) ⟨hx, hb, hml, hown, hts⟩ (kX12_product_3 l D ca za h hh f_119 L Q hI (by omega) (by omega) H.size) (cwV 0 hts (gw_V (fun _ h => List.mem_cons_of_mem _ h) mw_848 mw_849 mw_850 mw_619 mw_847) rfl rfl rfl (by decide +kernel) ⟨Nat.le_of_ble_eq_true rfl, Nat.le_of_ble_eq_true rfl⟩) (sg_preV (ci := 12) (C := RX12) (T := TX12) (N := 55) hA hK hP hS hZ 0 (by decide) rfl rfl) rfl rfl hl.1 rfl (lv_room (Nat.le_of_ble_eq_true rfl)) dX12_sums_56 ⟨Nat.le_refl _, Nat.le_refl _⟩) hA hS (fun r_127 f_124 L_125 Q_126 H locs hq hP hS => ?_)
              obtain ⟨⟨hI, hk_f_124, eL9, eQ9⟩, hq, p_128, p_129, p_130⟩ := hq
              rw [eL9, eQ9] at hP; clear eL9 eQ9
              have hF : sgK WkX12_sums_3 f f_124 := sgK.tr hF hk_f_124 (by decide)
              obtain ⟨v_131, ev_131⟩ : ∃ z : Int32, z = f_124 0 13 := ⟨_, rfl⟩
              have q_132 : 0 ≤ v_131.toInt ∧ v_131.toInt ≤ 120 := by rw [ev_131]; exact hI 0 13
              have q_133 : (f_124 0 13).toInt = v_131.toInt := (congrArg Int32.toInt (show f_124 0 13 = v_131 from ev_131.symm))
              obtain ⟨v_134, ev_134⟩ : ∃ z : Int32, z = f_124 0 16 := ⟨_, rfl⟩
              have q_135 : 0 ≤ v_134.toInt ∧ v_134.toInt ≤ 6 := by rw [ev_134]; exact hI 0 16
              have q_136 : (f_124 0 16).toInt = v_134.toInt := (congrArg Int32.toInt (show f_124 0 16 = v_134 from ev_134.symm))
              obtain ⟨v_137, ev_137⟩ : ∃ z : Int32, z = f_124 0 15 := ⟨_, rfl⟩
              have q_138 : (-1) ≤ v_137.toInt ∧ v_137.toInt ≤ 120 := by rw [ev_137]; exact hI 0 15
              have q_139 : (f_124 0 15).toInt = v_137.toInt := (congrArg Int32.toInt (show f_124 0 15 = v_137 from ev_137.symm))
              have q_140 : (f_124 0 16).toInt = v_134.toInt := (congrArg Int32.toInt (show f_124 0 16 = v_134 from ev_134.symm))
              refine lv_istore_n (lv' := [(3, .int r_127), (2, .int 0), (0, .ref (h 0)), (1, .int y1_5)]) hx hb dX12_sums_59 rfl hl (by decide) rfl (fun ls hl => ?_)
              refine lv_iload_n hx hb dX12_sums_60 rfl (lv_at hl 1 rfl) ?_
              refine lv_if_eq (tgt := 70) hx hb dX12_sums_61 (by decide) (fun c => ?_) (fun c => absurd c (by decide))
              refine lv_iload_n hx hb dX12_sums_70 rfl (lv_at hl 3 rfl) ?_
              refine lv_iload_n hx hb dX12_sums_71 rfl (lv_at hl 0 rfl) ?_
              refine lv_isub hx hb dX12_sums_72 ?_
              refine lv_topi (fun v_141 ev_141 => ?_)
              refine lv_istore_n (lv' := [(1, .int v_141), (3, .int r_127), (2, .int 0), (0, .ref (h 0))]) hx hb dX12_sums_73 rfl hl (by decide) rfl (fun ls hl => ?_)
              refine lv_goto (tgt := 5) hx hb dX12_sums_74 (by decide) ?_
              exact ih_5 v_141 f_124 _ _ _ (by have zz0_13 : (f_124 0 13).toInt = v_131.toInt := (congrArg Int32.toInt (show f_124 0 13 = v_131 from ev_131.symm)); omega) (by have zz0_13 : (f_124 0 13).toInt = v_131.toInt := (congrArg Int32.toInt (show f_124 0 13 = v_131 from ev_131.symm)); omega) (by have zz0_16 : (f_124 0 16).toInt = v_134.toInt := (congrArg Int32.toInt (show f_124 0 16 = v_134 from ev_134.symm)); omega) (by have zz0_15 : (f_124 0 15).toInt = v_137.toInt := (congrArg Int32.toInt (show f_124 0 15 = v_137 from ev_137.symm)); have zz0_16 : (f_124 0 16).toInt = v_134.toInt := (congrArg Int32.toInt (show f_124 0 16 = v_134 from ev_134.symm)); omega) hI hF hP hS (lv_sub hl [3, 0] rfl)
            · skip
              have c_116 : r_113.toInt = 43 := (by have z := Int32.toInt_inj.mpr c; have k1 : (43 : Int32).toInt = 43 := (by decide); omega)
              refine lv_iconst (v := 1) hx hb dX12_sums_39 (by decide) ?_
              refine lv_goto (tgt := 44) hx hb dX12_sums_40 (by decide) ?_
              refine lv_istore_n (lv' := [(2, .int 1), (0, .ref (h 0)), (1, .int y1_5)]) hx hb dX12_sums_44 rfl hl (by decide) rfl (fun ls hl => ?_)
              refine lv_aload_n hx hb dX12_sums_45 rfl (lv_at hl 1 rfl) ?_
              refine lv_dup hx hb dX12_sums_46 rfl ?_
              refine sg_get (ci := 12) (v := .int v_10) (C := RX12) (T := TX12) (N := 55) hx hb hts (fun w h => List.mem_cons_of_mem _ (gx_12 w h)) hown hK hP 0 (by decide) rfl rfl 13 (by decide) (hts _ (List.mem_cons_of_mem _ mw_625)) (fun _ h9 => h9) (congrArg (fun z => some (Value.int z)) (show fp_5 0 13 = v_10 from ev_10.symm)) dX12_sums_47 ?_
              refine lv_iconst (v := 1) hx hb dX12_sums_50 (by decide) ?_
              refine lv_iadd hx hb dX12_sums_51 ?_
              refine lv_topi (fun v_142 ev_142 => ?_)
              have q_143 : v_142.toInt = v_10.toInt + 1 := by rw [ev_142]; have k1 : (1 : Int32).toInt = 1 := (by decide); exact (bn_addI (by omega) (by omega)).trans (by omega)
              refine sg_put (ci := 12) (x := v_142) (ty := .int) (C := RX12) (T := TX12) (N := 55) hx hb hts (fun w h => List.mem_cons_of_mem _ (gx_12 w h)) tyX12 tyX12_ok nmX12 hown hh hA hK hP hS 0 (by decide) rfl rfl 13 (by decide) (hts _ (List.mem_cons_of_mem _ mw_625)) (fun _ h9 => h9) rfl rfl (by decide +kernel) rfl rfl (Nat.le_of_ble_eq_true rfl) dX12_sums_52 (fun f_144 H locs ef_144 hP hS => ?_)
              have hI : sgI loM hiM f_144 := by rw [ef_144]; exact sgI.put hI 0 13 (show 0 ≤ (v_142 : Int32).toInt ∧ (v_142 : Int32).toInt ≤ 120 from by omega)
              have hF : sgK WkX12_sums_3 f f_144 := sgK.put hF ef_144 (by rfl)
              refine lv_aload_n hx hb dX12_sums_55 rfl (lv_at hl 1 rfl) ?_
              have q_145 : (f_144 0 16).toInt = v_13.toInt := (congrArg Int32.toInt (show f_144 0 16 = v_13 from (by rw [ef_144, sg_up_s, sgu_n (by decide)]; exact ev_13.symm)))
              have q_146 : (f_144 0 15).toInt = v_16.toInt := (congrArg Int32.toInt (show f_144 0 15 = v_16 from (by rw [ef_144, sg_up_s, sgu_n (by decide)]; exact ev_16.symm)))
              have q_147 : (f_144 0 16).toInt = v_13.toInt := (congrArg Int32.toInt (show f_144 0 16 = v_13 from (by rw [ef_144, sg_up_s, sgu_n (by decide)]; exact ev_13.symm)))
              have q_148 : (f_144 0 13).toInt = v_142.toInt := (congrArg Int32.toInt (show f_144 0 13 = v_142 from (by rw [ef_144, sg_up_s, sgu_s])))
              refine sg_calli (va_runV (As := []) (rest := []) ⟨hx, hb, hml, hown, hts⟩ (kX12_product_3 l D ca za h hh f_144 L Q hI (by omega) (by omega) H.size) (cwV 0 hts (gw_V (fun _ h => List.mem_cons_of_mem _ h) mw_848 mw_849 mw_850 mw_619 mw_847) rfl rfl rfl (by decide +kernel) ⟨Nat.le_of_ble_eq_true rfl, Nat.le_of_ble_eq_true rfl⟩) (sg_preV (ci := 12) (C := RX12) (T := TX12) (N := 55) hA hK hP hS hZ 0 (by decide) rfl rfl) rfl rfl hl.1 rfl (lv_room (Nat.le_of_ble_eq_true rfl)) dX12_sums_56 ⟨Nat.le_refl _, Nat.le_refl _⟩) hA hS (fun r_152 f_149 L_150 Q_151 H locs hq hP hS => ?_)
              obtain ⟨⟨hI, hk_f_149, eL9, eQ9⟩, hq, p_153, p_154, p_155⟩ := hq
              rw [eL9, eQ9] at hP; clear eL9 eQ9
              have hF : sgK WkX12_sums_3 f f_149 := sgK.tr hF hk_f_149 (by decide)
              obtain ⟨v_156, ev_156⟩ : ∃ z : Int32, z = f_149 0 13 := ⟨_, rfl⟩
              have q_157 : 0 ≤ v_156.toInt ∧ v_156.toInt ≤ 120 := by rw [ev_156]; exact hI 0 13
              have q_158 : (f_149 0 13).toInt = v_156.toInt := (congrArg Int32.toInt (show f_149 0 13 = v_156 from ev_156.symm))
              obtain ⟨v_159, ev_159⟩ : ∃ z : Int32, z = f_149 0 16 := ⟨_, rfl⟩
              have q_160 : 0 ≤ v_159.toInt ∧ v_159.toInt ≤ 6 := by rw [ev_159]; exact hI 0 16
              have q_161 : (f_149 0 16).toInt = v_159.toInt := (congrArg Int32.toInt (show f_149 0 16 = v_159 from ev_159.symm))
              obtain ⟨v_162, ev_162⟩ : ∃ z : Int32, z = f_149 0 15 := ⟨_, rfl⟩
              have q_163 : (-1) ≤ v_162.toInt ∧ v_162.toInt ≤ 120 := by rw [ev_162]; exact hI 0 15
              have q_164 : (f_149 0 15).toInt = v_162.toInt := (congrArg Int32.toInt (show f_149 0 15 = v_162 from ev_162.symm))
              have q_165 : (f_149 0 16).toInt = v_159.toInt := (congrArg Int32.toInt (show f_149 0 16 = v_159 from ev_159.symm))
              refine lv_istore_n (lv' := [(3, .int r_152), (2, .int 1), (0, .ref (h 0)), (1, .int y1_5)]) hx hb dX12_sums_59 rfl hl (by decide) rfl (fun ls hl => ?_)
              refine lv_iload_n hx hb dX12_sums_60 rfl (lv_at hl 1 rfl) ?_
              refine lv_if_eq (tgt := 70) hx hb dX12_sums_61 (by decide) (fun c => absurd c (by decide)) (fun c => ?_)
              refine lv_iload_n hx hb dX12_sums_64 rfl (lv_at hl 3 rfl) ?_
              refine lv_iload_n hx hb dX12_sums_65 rfl (lv_at hl 0 rfl) ?_
              refine lv_iadd hx hb dX12_sums_66 ?_
              refine lv_topi (fun v_166 ev_166 => ?_)
              refine lv_goto (tgt := 73) hx hb dX12_sums_67 (by decide) ?_
              refine lv_istore_n (lv' := [(1, .int v_166), (3, .int r_152), (2, .int 1), (0, .ref (h 0))]) hx hb dX12_sums_73 rfl hl (by decide) rfl (fun ls hl => ?_)
              refine lv_goto (tgt := 5) hx hb dX12_sums_74 (by decide) ?_
              exact ih_5 v_166 f_149 _ _ _ (by have zz0_13 : (f_149 0 13).toInt = v_156.toInt := (congrArg Int32.toInt (show f_149 0 13 = v_156 from ev_156.symm)); omega) (by have zz0_13 : (f_149 0 13).toInt = v_156.toInt := (congrArg Int32.toInt (show f_149 0 13 = v_156 from ev_156.symm)); omega) (by have zz0_16 : (f_149 0 16).toInt = v_159.toInt := (congrArg Int32.toInt (show f_149 0 16 = v_159 from ev_159.symm)); omega) (by have zz0_15 : (f_149 0 15).toInt = v_162.toInt := (congrArg Int32.toInt (show f_149 0 15 = v_162 from ev_162.symm)); have zz0_16 : (f_149 0 16).toInt = v_159.toInt := (congrArg Int32.toInt (show f_149 0 16 = v_159 from ev_159.symm)); omega) hI hF hP hS (lv_sub hl [3, 0] rfl)
  refine lv_aload_n hx hb dX12_sums_0 rfl (lv_at hl 0 rfl) ?_
  have q_167 : (f 0 16).toInt = v_1.toInt := (congrArg Int32.toInt (show f 0 16 = v_1 from ev_1.symm))
  have q_168 : (f 0 15).toInt = v_3.toInt := (congrArg Int32.toInt (show f 0 15 = v_3 from ev_3.symm))
  have q_169 : (f 0 16).toInt = v_1.toInt := (congrArg Int32.toInt (show f 0 16 = v_1 from ev_1.symm))
  have q_170 : (f 0 13).toInt = v_5.toInt := (congrArg Int32.toInt (show f 0 13 = v_5 from ev_5.symm))
  refine sg_calli (va_runV (As := []) (rest := []) ⟨hx, hb, hml, hown, hts⟩ (kX12_product_3 l D ca za h hh f L Q hI (by omega) (by omega) H.size) (cwV 0 hts (gw_V (fun _ h => List.mem_cons_of_mem _ h) mw_848 mw_849 mw_850 mw_619 mw_847) rfl rfl rfl (by decide +kernel) ⟨Nat.le_of_ble_eq_true rfl, Nat.le_of_ble_eq_true rfl⟩) (sg_preV (ci := 12) (C := RX12) (T := TX12) (N := 55) hA hK hP hS hZ 0 (by decide) rfl rfl) rfl rfl hl.1 rfl (lv_room (Nat.le_of_ble_eq_true rfl)) dX12_sums_1 ⟨Nat.le_refl _, Nat.le_refl _⟩) hA hS (fun r_174 f_171 L_172 Q_173 H locs hq hP hS => ?_)
  obtain ⟨⟨hI, hk_f_171, eL9, eQ9⟩, hq, p_175, p_176, p_177⟩ := hq
  rw [eL9, eQ9] at hP; clear eL9 eQ9
  have hF : sgK WkX12_sums_3 f f_171 := sgK.tr hF hk_f_171 (by decide)
  obtain ⟨v_178, ev_178⟩ : ∃ z : Int32, z = f_171 0 13 := ⟨_, rfl⟩
  have q_179 : 0 ≤ v_178.toInt ∧ v_178.toInt ≤ 120 := by rw [ev_178]; exact hI 0 13
  have q_180 : (f_171 0 13).toInt = v_178.toInt := (congrArg Int32.toInt (show f_171 0 13 = v_178 from ev_178.symm))
  obtain ⟨v_181, ev_181⟩ : ∃ z : Int32, z = f_171 0 16 := ⟨_, rfl⟩
  have q_182 : 0 ≤ v_181.toInt ∧ v_181.toInt ≤ 6 := by rw [ev_181]; exact hI 0 16
  have q_183 : (f_171 0 16).toInt = v_181.toInt := (congrArg Int32.toInt (show f_171 0 16 = v_181 from ev_181.symm))
  obtain ⟨v_184, ev_184⟩ : ∃ z : Int32, z = f_171 0 15 := ⟨_, rfl⟩
  have q_185 : (-1) ≤ v_184.toInt ∧ v_184.toInt ≤ 120 := by rw [ev_184]; exact hI 0 15
  have q_186 : (f_171 0 15).toInt = v_184.toInt := (congrArg Int32.toInt (show f_171 0 15 = v_184 from ev_184.symm))
  have q_187 : (f_171 0 16).toInt = v_181.toInt := (congrArg Int32.toInt (show f_171 0 16 = v_181 from ev_181.symm))
  refine lv_istore_n (lv' := [(1, .int r_174), (0, .ref (h 0))]) hx hb dX12_sums_4 rfl hl (by decide) rfl (fun ls hl => ?_)
  exact loop_5 121 r_174 f_171 _ _ _ (by have zz0_13 : (f_171 0 13).toInt = v_178.toInt := (congrArg Int32.toInt (show f_171 0 13 = v_178 from ev_178.symm)); omega) (by have zz0_13 : (f_171 0 13).toInt = v_178.toInt := (congrArg Int32.toInt (show f_171 0 13 = v_178 from ev_178.symm)); omega) (by have zz0_16 : (f_171 0 16).toInt = v_181.toInt := (congrArg Int32.toInt (show f_171 0 16 = v_181 from ev_181.symm)); omega) (by have zz0_15 : (f_171 0 15).toInt = v_184.toInt := (congrArg Int32.toInt (show f_171 0 15 = v_184 from ev_184.symm)); have zz0_16 : (f_171 0 16).toInt = v_181.toInt := (congrArg Int32.toInt (show f_171 0 16 = v_181 from ev_181.symm)); omega) hI hF hP hS (lv_sub hl [1, 0] rfl)

abbrev WkX12_compared_3 : List (Nat × Nat × Option Nat) := [(0, 0, some 13), (0, 0, some 15), (0, 0, some 16)]
set_option maxHeartbeats 4000000 in
set_option maxRecDepth 100000 in
theorem kX12_compared_3 (l : Launch) (D : va_G) (ca : Nat → ClassId) (za h : Nat → Nat) (hh : sgH 26 h) (f : sg_F) (L : sg_L) (Q : sg_Q) (hI : sgI loM hiM f) (p0 : 3 ≤ (f 0 16).toInt) (p1 : 0 ≤ (f 0 15).toInt ∨ (f 0 16).toInt = 3) (sz : Nat) : Met l yX12_compared gwX12_compared { frames := 22, cells := 0, slots := 0, locals := 501 } (sgP D vwCl (tyX ca) 26 h (eM ca h) zcM za f L Q sz [.ref (h 0)]) (sgQi D vwCl 26 h (eM ca h) sz (fun r f1 L1 Q1 => ((sgI loM hiM f1 ∧ sgK WkX12_compared_3 f f1 ∧ L1 = L ∧ Q1 = Q) ∧ True ∧ ((f 0 13).toInt ≤ (f1 0 13).toInt) ∧ (3 ≤ (f1 0 16).toInt) ∧ (0 ≤ (f1 0 15).toInt ∨ (f1 0 16).toInt = 3)))) 0 0 (sgA 26 h sz) := by
  refine sg_ofWi (cc := cX12_compared) (maxL := 4) RX12 (by decide) rfl rfl (Nat.le_of_ble_eq_true rfl) ?_
  intro p e s m below meth cd Qz ls hx hb hml hown hts hK hZ hP hS hl hret
  have hA := sgY.self (n := 26) (h := h) (sz := s.heap.size)
  have hl : lv_has ls 4 [(0, .ref (h 0))] := hl
  obtain ⟨H, hH⟩ : ∃ z : Heap, z = s.heap := ⟨_, rfl⟩
  obtain ⟨locs, hlo⟩ : ∃ z : List Loc, z = [] := ⟨_, rfl⟩
  have hP : va_P D vwCl (sgw 26 h (eM ca h) f L Q) H := by rw [hH]; exact hP
  have hS : va_S (sgA 26 h s.heap.size) s.heap H locs := by rw [hH, hlo]; exact hS
  suffices hgo : W p l e ({ frames := 22, cells := 0, slots := 0, locals := 501 }) s m ([.ref (h 0)] : List Value).toArray below meth cd H locs 0 0 Qz (F0 m 0 ls []) by rw [hH, hlo] at hgo; exact hgo
  clear hH hlo
  obtain ⟨v_1, ev_1⟩ : ∃ z : Int32, z = f 0 16 := ⟨_, rfl⟩
  have q_2 : 0 ≤ v_1.toInt ∧ v_1.toInt ≤ 6 := by rw [ev_1]; exact hI 0 16
  obtain ⟨v_3, ev_3⟩ : ∃ z : Int32, z = f 0 15 := ⟨_, rfl⟩
  have q_4 : (-1) ≤ v_3.toInt ∧ v_3.toInt ≤ 120 := by rw [ev_3]; exact hI 0 15
  obtain ⟨v_5, ev_5⟩ : ∃ z : Int32, z = f 0 13 := ⟨_, rfl⟩
  have q_6 : 0 ≤ v_5.toInt ∧ v_5.toInt ≤ 120 := by rw [ev_5]; exact hI 0 13
  have o_7 : (f 0 16).toInt = v_1.toInt := (congrArg Int32.toInt (show f 0 16 = v_1 from ev_1.symm))
  have o_8 : (f 0 15).toInt = v_3.toInt := (congrArg Int32.toInt (show f 0 15 = v_3 from ev_3.symm))
  have o_9 : (f 0 13).toInt = v_5.toInt := (congrArg Int32.toInt (show f 0 13 = v_5 from ev_5.symm))
  have hF : sgK WkX12_compared_3 f f := sgK.rf
  refine lv_aload_n hx hb dX12_compared_0 rfl (lv_at hl 0 rfl) ?_
  have q_10 : (f 0 16).toInt = v_1.toInt := (congrArg Int32.toInt (show f 0 16 = v_1 from ev_1.symm))
  have q_11 : (f 0 15).toInt = v_3.toInt := (congrArg Int32.toInt (show f 0 15 = v_3 from ev_3.symm))
  have q_12 : (f 0 16).toInt = v_1.toInt := (congrArg Int32.toInt (show f 0 16 = v_1 from ev_1.symm))
  have q_13 : (f 0 13).toInt = v_5.toInt := (congrArg Int32.toInt (show f 0 13 = v_5 from ev_5.symm))
  refine sg_calli (va_runV (As := []) (rest := []) ⟨hx, hb, hml, hown, hts⟩ (kX12_sums_3 l D ca za h hh f L Q hI (by omega) (by omega) H.size) (cwV 0 hts (gw_V (fun _ h => List.mem_cons_of_mem _ h) mw_852 mw_853 mw_854 mw_619 mw_851) rfl rfl rfl (by decide +kernel) ⟨Nat.le_of_ble_eq_true rfl, Nat.le_of_ble_eq_true rfl⟩) (sg_preV (ci := 12) (C := RX12) (T := TX12) (N := 55) hA hK hP hS hZ 0 (by decide) rfl rfl) rfl rfl hl.1 rfl (lv_room (Nat.le_of_ble_eq_true rfl)) dX12_compared_1 ⟨Nat.le_refl _, Nat.le_refl _⟩) hA hS (fun r_17 f_14 L_15 Q_16 H locs hq hP hS => ?_)
  obtain ⟨⟨hI, hk_f_14, eL9, eQ9⟩, hq, p_18, p_19, p_20⟩ := hq
  rw [eL9, eQ9] at hP; clear eL9 eQ9
  have hF : sgK WkX12_compared_3 f f_14 := sgK.tr hF hk_f_14 (by decide)
  obtain ⟨v_21, ev_21⟩ : ∃ z : Int32, z = f_14 0 13 := ⟨_, rfl⟩
  have q_22 : 0 ≤ v_21.toInt ∧ v_21.toInt ≤ 120 := by rw [ev_21]; exact hI 0 13
  have q_23 : (f_14 0 13).toInt = v_21.toInt := (congrArg Int32.toInt (show f_14 0 13 = v_21 from ev_21.symm))
  obtain ⟨v_24, ev_24⟩ : ∃ z : Int32, z = f_14 0 16 := ⟨_, rfl⟩
  have q_25 : 0 ≤ v_24.toInt ∧ v_24.toInt ≤ 6 := by rw [ev_24]; exact hI 0 16
  have q_26 : (f_14 0 16).toInt = v_24.toInt := (congrArg Int32.toInt (show f_14 0 16 = v_24 from ev_24.symm))
  obtain ⟨v_27, ev_27⟩ : ∃ z : Int32, z = f_14 0 15 := ⟨_, rfl⟩
  have q_28 : (-1) ≤ v_27.toInt ∧ v_27.toInt ≤ 120 := by rw [ev_27]; exact hI 0 15
  have q_29 : (f_14 0 15).toInt = v_27.toInt := (congrArg Int32.toInt (show f_14 0 15 = v_27 from ev_27.symm))
  have q_30 : (f_14 0 16).toInt = v_24.toInt := (congrArg Int32.toInt (show f_14 0 16 = v_24 from ev_24.symm))
  refine lv_istore_n (lv' := [(1, .int r_17), (0, .ref (h 0))]) hx hb dX12_compared_4 rfl hl (by decide) rfl (fun ls hl => ?_)
  refine lv_aload_n hx hb dX12_compared_5 rfl (lv_at hl 1 rfl) ?_
  have q_31 : (f_14 0 13).toInt = v_21.toInt := (congrArg Int32.toInt (show f_14 0 13 = v_21 from ev_21.symm))
  obtain ⟨v_32, ev_32⟩ : ∃ z : Int32, z = f_14 0 14 := ⟨_, rfl⟩
  have q_33 : 0 ≤ v_32.toInt ∧ v_32.toInt ≤ 120 := by rw [ev_32]; exact hI 0 14
  have q_34 : (f_14 0 14).toInt = v_32.toInt := (congrArg Int32.toInt (show f_14 0 14 = v_32 from ev_32.symm))
  refine sg_calli (va_runV (As := []) (rest := []) ⟨hx, hb, hml, hown, hts⟩ (kX12_byteAt l D ca za h hh f_14 L Q hI H.size) (cwV 0 hts (gw_V (fun _ h => List.mem_cons_of_mem _ h) mw_840 mw_841 mw_842 mw_619 mw_839) rfl rfl rfl (by decide +kernel) ⟨Nat.le_of_ble_eq_true rfl, Nat.le_of_ble_eq_true rfl⟩) (sg_preV (ci := 12) (C := RX12) (T := TX12) (N := 55) hA hK hP hS hZ 0 (by decide) rfl rfl) rfl rfl hl.1 rfl (lv_room (Nat.le_of_ble_eq_true rfl)) dX12_compared_6 ⟨Nat.le_refl _, Nat.le_refl _⟩) hA hS (fun r_38 f_35 L_36 Q_37 H locs hq hP hS => ?_)
  obtain ⟨⟨ef9, eL9, eQ9⟩, hq, p_39⟩ := hq
  rw [ef9, eL9, eQ9] at hP; clear ef9 eL9 eQ9
  refine lv_istore_n (lv' := [(2, .int r_38), (1, .int r_17), (0, .ref (h 0))]) hx hb dX12_compared_9 rfl hl (by decide) rfl (fun ls hl => ?_)
  refine lv_aload_n hx hb dX12_compared_10 rfl (lv_at hl 2 rfl) ?_
  refine sg_get (ci := 12) (v := .int v_27) (C := RX12) (T := TX12) (N := 55) hx hb hts (fun w h => List.mem_cons_of_mem _ (gx_12 w h)) hown hK hP 0 (by decide) rfl rfl 15 (by decide) (hts _ (List.mem_cons_of_mem _ mw_627)) (fun _ h9 => h9) (congrArg (fun z => some (Value.int z)) (show f_14 0 15 = v_27 from ev_27.symm)) dX12_compared_11 ?_
  refine lv_if_ge (tgt := 35) hx hb dX12_compared_14 (by decide) (fun c => ?_) (fun c => ?_)
  · skip
    have c_40 : 0 ≤ v_27.toInt := (by have z := bn_le c; have k1 : (0 : Int32).toInt = 0 := (by decide); omega)
    refine lv_iload_n hx hb dX12_compared_35 rfl (lv_at hl 1 rfl) ?_
    have q_42 : (f_14 0 13).toInt = v_21.toInt := (congrArg Int32.toInt (show f_14 0 13 = v_21 from ev_21.symm))
    have q_43 : (f_14 0 16).toInt = v_24.toInt := (congrArg Int32.toInt (show f_14 0 16 = v_24 from ev_24.symm))
    have q_44 : (f_14 0 15).toInt = v_27.toInt := (congrArg Int32.toInt (show f_14 0 15 = v_27 from ev_27.symm))
    have q_45 : (f_14 0 16).toInt = v_24.toInt := (congrArg Int32.toInt (show f_14 0 16 = v_24 from ev_24.symm))
    exact hret _ _ _ _ (r_17) f_14 L Q dX12_compared_36 hP hS ⟨⟨hI, hF, rfl, rfl⟩, trivial, (by omega), (by omega), (by omega)⟩
  · skip
    have c_41 : v_27.toInt < 0 := (by have z := bn_nle c; have k1 : (0 : Int32).toInt = 0 := (by decide); omega)
    refine lv_iload_n hx hb dX12_compared_17 rfl (lv_at hl 0 rfl) ?_
    refine lv_bipush (v := 60) hx hb dX12_compared_18 (by decide) ?_
    refine lv_icmp_eq (tgt := 37) hx hb dX12_compared_20 (by decide) (fun c => ?_) (fun c => ?_)
    · skip
      have c_46 : r_38.toInt = 60 := (by have z := Int32.toInt_inj.mpr c; have k1 : (60 : Int32).toInt = 60 := (by decide); omega)
      refine lv_aload_n hx hb dX12_compared_37 rfl (lv_at hl 2 rfl) ?_
      refine lv_dup hx hb dX12_compared_38 rfl ?_
      refine sg_get (ci := 12) (v := .int v_21) (C := RX12) (T := TX12) (N := 55) hx hb hts (fun w h => List.mem_cons_of_mem _ (gx_12 w h)) hown hK hP 0 (by decide) rfl rfl 13 (by decide) (hts _ (List.mem_cons_of_mem _ mw_625)) (fun _ h9 => h9) (congrArg (fun z => some (Value.int z)) (show f_14 0 13 = v_21 from ev_21.symm)) dX12_compared_39 ?_
      refine lv_iconst (v := 1) hx hb dX12_compared_42 (by decide) ?_
      refine lv_iadd hx hb dX12_compared_43 ?_
      refine lv_topi (fun v_48 ev_48 => ?_)
      have q_49 : v_48.toInt = v_21.toInt + 1 := by rw [ev_48]; have k1 : (1 : Int32).toInt = 1 := (by decide); exact (bn_addI (by omega) (by omega)).trans (by omega)
      refine sg_put (ci := 12) (x := v_48) (ty := .int) (C := RX12) (T := TX12) (N := 55) hx hb hts (fun w h => List.mem_cons_of_mem _ (gx_12 w h)) tyX12 tyX12_ok nmX12 hown hh hA hK hP hS 0 (by decide) rfl rfl 13 (by decide) (hts _ (List.mem_cons_of_mem _ mw_625)) (fun _ h9 => h9) rfl rfl (by decide +kernel) rfl rfl (Nat.le_of_ble_eq_true rfl) dX12_compared_44 (fun f_50 H locs ef_50 hP hS => ?_)
      have hI : sgI loM hiM f_50 := by rw [ef_50]; exact sgI.put hI 0 13 (show 0 ≤ (v_48 : Int32).toInt ∧ (v_48 : Int32).toInt ≤ 120 from by omega)
      have hF : sgK WkX12_compared_3 f f_50 := sgK.put hF ef_50 (by rfl)
      refine lv_aload_n hx hb dX12_compared_47 rfl (lv_at hl 2 rfl) ?_
      have q_51 : (f_50 0 16).toInt = v_24.toInt := (congrArg Int32.toInt (show f_50 0 16 = v_24 from (by rw [ef_50, sg_up_s, sgu_n (by decide)]; exact ev_24.symm)))
      have q_52 : (f_50 0 15).toInt = v_27.toInt := (congrArg Int32.toInt (show f_50 0 15 = v_27 from (by rw [ef_50, sg_up_s, sgu_n (by decide)]; exact ev_27.symm)))
      have q_53 : (f_50 0 16).toInt = v_24.toInt := (congrArg Int32.toInt (show f_50 0 16 = v_24 from (by rw [ef_50, sg_up_s, sgu_n (by decide)]; exact ev_24.symm)))
      have q_54 : (f_50 0 13).toInt = v_48.toInt := (congrArg Int32.toInt (show f_50 0 13 = v_48 from (by rw [ef_50, sg_up_s, sgu_s])))
      refine sg_calli (va_runV (As := []) (rest := []) ⟨hx, hb, hml, hown, hts⟩ (kX12_sums_3 l D ca za h hh f_50 L Q hI (by omega) (by omega) H.size) (cwV 0 hts (gw_V (fun _ h => List.mem_cons_of_mem _ h) mw_852 mw_853 mw_854 mw_619 mw_851) rfl rfl rfl (by decide +kernel) ⟨Nat.le_of_ble_eq_true rfl, Nat.le_of_ble_eq_true rfl⟩) (sg_preV (ci := 12) (C := RX12) (T := TX12) (N := 55) hA hK hP hS hZ 0 (by decide) rfl rfl) rfl rfl hl.1 rfl (lv_room (Nat.le_of_ble_eq_true rfl)) dX12_compared_48 ⟨Nat.le_refl _, Nat.le_refl _⟩) hA hS (fun r_58 f_55 L_56 Q_57 H locs hq hP hS => ?_)
      obtain ⟨⟨hI, hk_f_55, eL9, eQ9⟩, hq, p_59, p_60, p_61⟩ := hq
      rw [eL9, eQ9] at hP; clear eL9 eQ9
      have hF : sgK WkX12_compared_3 f f_55 := sgK.tr hF hk_f_55 (by decide)
      obtain ⟨v_62, ev_62⟩ : ∃ z : Int32, z = f_55 0 13 := ⟨_, rfl⟩
      have q_63 : 0 ≤ v_62.toInt ∧ v_62.toInt ≤ 120 := by rw [ev_62]; exact hI 0 13
      have q_64 : (f_55 0 13).toInt = v_62.toInt := (congrArg Int32.toInt (show f_55 0 13 = v_62 from ev_62.symm))
      obtain ⟨v_65, ev_65⟩ : ∃ z : Int32, z = f_55 0 16 := ⟨_, rfl⟩
      have q_66 : 0 ≤ v_65.toInt ∧ v_65.toInt ≤ 6 := by rw [ev_65]; exact hI 0 16
      have q_67 : (f_55 0 16).toInt = v_65.toInt := (congrArg Int32.toInt (show f_55 0 16 = v_65 from ev_65.symm))
      obtain ⟨v_68, ev_68⟩ : ∃ z : Int32, z = f_55 0 15 := ⟨_, rfl⟩
      have q_69 : (-1) ≤ v_68.toInt ∧ v_68.toInt ≤ 120 := by rw [ev_68]; exact hI 0 15
      have q_70 : (f_55 0 15).toInt = v_68.toInt := (congrArg Int32.toInt (show f_55 0 15 = v_68 from ev_68.symm))
      have q_71 : (f_55 0 16).toInt = v_65.toInt := (congrArg Int32.toInt (show f_55 0 16 = v_65 from ev_65.symm))
      refine lv_istore_n (lv' := [(3, .int r_58), (2, .int r_38), (1, .int r_17), (0, .ref (h 0))]) hx hb dX12_compared_51 rfl hl (by decide) rfl (fun ls hl => ?_)
      refine lv_iload_n hx hb dX12_compared_52 rfl (lv_at hl 1 rfl) ?_
      refine lv_bipush (v := 60) hx hb dX12_compared_53 (by decide) ?_
      refine lv_icmp_ne (tgt := 66) hx hb dX12_compared_55 (by decide) (fun c => ?_) (fun c => ?_)
      · skip
        exfalso; have c_72 : r_38.toInt ≠ 60 := (by have z := bn_ne c; have k1 : (60 : Int32).toInt = 60 := (by decide); omega); omega
      · skip
        have c_73 : r_38.toInt = 60 := (by have z := Int32.toInt_inj.mpr c; have k1 : (60 : Int32).toInt = 60 := (by decide); omega)
        refine lv_iload_n hx hb dX12_compared_58 rfl (lv_at hl 2 rfl) ?_
        refine lv_iload_n hx hb dX12_compared_59 rfl (lv_at hl 0 rfl) ?_
        refine lv_icmp_ge (tgt := 89) hx hb dX12_compared_60 (by decide) (fun c => ?_) (fun c => ?_)
        · skip
          have c_74 : r_58.toInt ≤ r_17.toInt := (by have z := bn_le c; omega)
          refine lv_iconst (v := 0) hx hb dX12_compared_89 (by decide) ?_
          have q_76 : (f_55 0 13).toInt = v_62.toInt := (congrArg Int32.toInt (show f_55 0 13 = v_62 from ev_62.symm))
          have q_77 : (f_55 0 16).toInt = v_65.toInt := (congrArg Int32.toInt (show f_55 0 16 = v_65 from ev_65.symm))
          have q_78 : (f_55 0 15).toInt = v_68.toInt := (congrArg Int32.toInt (show f_55 0 15 = v_68 from ev_68.symm))
          have q_79 : (f_55 0 16).toInt = v_65.toInt := (congrArg Int32.toInt (show f_55 0 16 = v_65 from ev_65.symm))
          have k99 : (0 : Int32).toInt = 0 := (by decide)
          exact hret _ _ _ _ (0) f_55 L Q dX12_compared_90 hP hS ⟨⟨hI, hF, rfl, rfl⟩, trivial, (by omega), (by omega), (by omega)⟩
        · skip
          have c_75 : r_17.toInt < r_58.toInt := (by have z := bn_nle c; omega)
          refine lv_goto (tgt := 85) hx hb dX12_compared_63 (by decide) ?_
          refine lv_iconst (v := 1) hx hb dX12_compared_85 (by decide) ?_
          refine lv_goto (tgt := 90) hx hb dX12_compared_86 (by decide) ?_
          have q_80 : (f_55 0 13).toInt = v_62.toInt := (congrArg Int32.toInt (show f_55 0 13 = v_62 from ev_62.symm))
          have q_81 : (f_55 0 16).toInt = v_65.toInt := (congrArg Int32.toInt (show f_55 0 16 = v_65 from ev_65.symm))
          have q_82 : (f_55 0 15).toInt = v_68.toInt := (congrArg Int32.toInt (show f_55 0 15 = v_68 from ev_68.symm))
          have q_83 : (f_55 0 16).toInt = v_65.toInt := (congrArg Int32.toInt (show f_55 0 16 = v_65 from ev_65.symm))
          have k99 : (1 : Int32).toInt = 1 := (by decide)
          exact hret _ _ _ _ (1) f_55 L Q dX12_compared_90 hP hS ⟨⟨hI, hF, rfl, rfl⟩, trivial, (by omega), (by omega), (by omega)⟩
    · skip
      have c_47 : r_38.toInt ≠ 60 := (by have z := bn_ne c; have k1 : (60 : Int32).toInt = 60 := (by decide); omega)
      refine lv_iload_n hx hb dX12_compared_23 rfl (lv_at hl 0 rfl) ?_
      refine lv_bipush (v := 61) hx hb dX12_compared_24 (by decide) ?_
      refine lv_icmp_eq (tgt := 37) hx hb dX12_compared_26 (by decide) (fun c => ?_) (fun c => ?_)
      · skip
        have c_84 : r_38.toInt = 61 := (by have z := Int32.toInt_inj.mpr c; have k1 : (61 : Int32).toInt = 61 := (by decide); omega)
        refine lv_aload_n hx hb dX12_compared_37 rfl (lv_at hl 2 rfl) ?_
        refine lv_dup hx hb dX12_compared_38 rfl ?_
        refine sg_get (ci := 12) (v := .int v_21) (C := RX12) (T := TX12) (N := 55) hx hb hts (fun w h => List.mem_cons_of_mem _ (gx_12 w h)) hown hK hP 0 (by decide) rfl rfl 13 (by decide) (hts _ (List.mem_cons_of_mem _ mw_625)) (fun _ h9 => h9) (congrArg (fun z => some (Value.int z)) (show f_14 0 13 = v_21 from ev_21.symm)) dX12_compared_39 ?_
        refine lv_iconst (v := 1) hx hb dX12_compared_42 (by decide) ?_
        refine lv_iadd hx hb dX12_compared_43 ?_
        refine lv_topi (fun v_86 ev_86 => ?_)
        have q_87 : v_86.toInt = v_21.toInt + 1 := by rw [ev_86]; have k1 : (1 : Int32).toInt = 1 := (by decide); exact (bn_addI (by omega) (by omega)).trans (by omega)
        refine sg_put (ci := 12) (x := v_86) (ty := .int) (C := RX12) (T := TX12) (N := 55) hx hb hts (fun w h => List.mem_cons_of_mem _ (gx_12 w h)) tyX12 tyX12_ok nmX12 hown hh hA hK hP hS 0 (by decide) rfl rfl 13 (by decide) (hts _ (List.mem_cons_of_mem _ mw_625)) (fun _ h9 => h9) rfl rfl (by decide +kernel) rfl rfl (Nat.le_of_ble_eq_true rfl) dX12_compared_44 (fun f_88 H locs ef_88 hP hS => ?_)
        have hI : sgI loM hiM f_88 := by rw [ef_88]; exact sgI.put hI 0 13 (show 0 ≤ (v_86 : Int32).toInt ∧ (v_86 : Int32).toInt ≤ 120 from by omega)
        have hF : sgK WkX12_compared_3 f f_88 := sgK.put hF ef_88 (by rfl)
        refine lv_aload_n hx hb dX12_compared_47 rfl (lv_at hl 2 rfl) ?_
        have q_89 : (f_88 0 16).toInt = v_24.toInt := (congrArg Int32.toInt (show f_88 0 16 = v_24 from (by rw [ef_88, sg_up_s, sgu_n (by decide)]; exact ev_24.symm)))
        have q_90 : (f_88 0 15).toInt = v_27.toInt := (congrArg Int32.toInt (show f_88 0 15 = v_27 from (by rw [ef_88, sg_up_s, sgu_n (by decide)]; exact ev_27.symm)))
        have q_91 : (f_88 0 16).toInt = v_24.toInt := (congrArg Int32.toInt (show f_88 0 16 = v_24 from (by rw [ef_88, sg_up_s, sgu_n (by decide)]; exact ev_24.symm)))
        have q_92 : (f_88 0 13).toInt = v_86.toInt := (congrArg Int32.toInt (show f_88 0 13 = v_86 from (by rw [ef_88, sg_up_s, sgu_s])))
        refine sg_calli (va_runV (As := []) (rest := []) ⟨hx, hb, hml, hown, hts⟩ (kX12_sums_3 l D ca za h hh f_88 L Q hI (by omega) (by omega) H.size) (cwV 0 hts (gw_V (fun _ h => List.mem_cons_of_mem _ h) mw_852 mw_853 mw_854 mw_619 mw_851) rfl rfl rfl (by decide +kernel) ⟨Nat.le_of_ble_eq_true rfl, Nat.le_of_ble_eq_true rfl⟩) (sg_preV (ci := 12) (C := RX12) (T := TX12) (N := 55) hA hK hP hS hZ 0 (by decide) rfl rfl) rfl rfl hl.1 rfl (lv_room (Nat.le_of_ble_eq_true rfl)) dX12_compared_48 ⟨Nat.le_refl _, Nat.le_refl _⟩) hA hS (fun r_96 f_93 L_94 Q_95 H locs hq hP hS => ?_)
        obtain ⟨⟨hI, hk_f_93, eL9, eQ9⟩, hq, p_97, p_98, p_99⟩ := hq
        rw [eL9, eQ9] at hP; clear eL9 eQ9
        have hF : sgK WkX12_compared_3 f f_93 := sgK.tr hF hk_f_93 (by decide)
        obtain ⟨v_100, ev_100⟩ : ∃ z : Int32, z = f_93 0 13 := ⟨_, rfl⟩
        have q_101 : 0 ≤ v_100.toInt ∧ v_100.toInt ≤ 120 := by rw [ev_100]; exact hI 0 13
        have q_102 : (f_93 0 13).toInt = v_100.toInt := (congrArg Int32.toInt (show f_93 0 13 = v_100 from ev_100.symm))
        obtain ⟨v_103, ev_103⟩ : ∃ z : Int32, z = f_93 0 16 := ⟨_, rfl⟩
        have q_104 : 0 ≤ v_103.toInt ∧ v_103.toInt ≤ 6 := by rw [ev_103]; exact hI 0 16
        have q_105 : (f_93 0 16).toInt = v_103.toInt := (congrArg Int32.toInt (show f_93 0 16 = v_103 from ev_103.symm))
        obtain ⟨v_106, ev_106⟩ : ∃ z : Int32, z = f_93 0 15 := ⟨_, rfl⟩
        have q_107 : (-1) ≤ v_106.toInt ∧ v_106.toInt ≤ 120 := by rw [ev_106]; exact hI 0 15
        have q_108 : (f_93 0 15).toInt = v_106.toInt := (congrArg Int32.toInt (show f_93 0 15 = v_106 from ev_106.symm))
        have q_109 : (f_93 0 16).toInt = v_103.toInt := (congrArg Int32.toInt (show f_93 0 16 = v_103 from ev_103.symm))
        refine lv_istore_n (lv' := [(3, .int r_96), (2, .int r_38), (1, .int r_17), (0, .ref (h 0))]) hx hb dX12_compared_51 rfl hl (by decide) rfl (fun ls hl => ?_)
        refine lv_iload_n hx hb dX12_compared_52 rfl (lv_at hl 1 rfl) ?_
        refine lv_bipush (v := 60) hx hb dX12_compared_53 (by decide) ?_
        refine lv_icmp_ne (tgt := 66) hx hb dX12_compared_55 (by decide) (fun c => ?_) (fun c => ?_)
        · skip
          have c_110 : r_38.toInt ≠ 60 := (by have z := bn_ne c; have k1 : (60 : Int32).toInt = 60 := (by decide); omega)
          refine lv_iload_n hx hb dX12_compared_66 rfl (lv_at hl 1 rfl) ?_
          refine lv_bipush (v := 61) hx hb dX12_compared_67 (by decide) ?_
          refine lv_icmp_ne (tgt := 80) hx hb dX12_compared_69 (by decide) (fun c => ?_) (fun c => ?_)
          · skip
            exfalso; have c_112 : r_38.toInt ≠ 61 := (by have z := bn_ne c; have k1 : (61 : Int32).toInt = 61 := (by decide); omega); omega
          · skip
            have c_113 : r_38.toInt = 61 := (by have z := Int32.toInt_inj.mpr c; have k1 : (61 : Int32).toInt = 61 := (by decide); omega)
            refine lv_iload_n hx hb dX12_compared_72 rfl (lv_at hl 2 rfl) ?_
            refine lv_iload_n hx hb dX12_compared_73 rfl (lv_at hl 0 rfl) ?_
            refine lv_icmp_ne (tgt := 89) hx hb dX12_compared_74 (by decide) (fun c => ?_) (fun c => ?_)
            · skip
              have c_114 : r_17.toInt ≠ r_96.toInt := (by have z := bn_ne c; omega)
              refine lv_iconst (v := 0) hx hb dX12_compared_89 (by decide) ?_
              have q_116 : (f_93 0 13).toInt = v_100.toInt := (congrArg Int32.toInt (show f_93 0 13 = v_100 from ev_100.symm))
              have q_117 : (f_93 0 16).toInt = v_103.toInt := (congrArg Int32.toInt (show f_93 0 16 = v_103 from ev_103.symm))
              have q_118 : (f_93 0 15).toInt = v_106.toInt := (congrArg Int32.toInt (show f_93 0 15 = v_106 from ev_106.symm))
              have q_119 : (f_93 0 16).toInt = v_103.toInt := (congrArg Int32.toInt (show f_93 0 16 = v_103 from ev_103.symm))
              have k99 : (0 : Int32).toInt = 0 := (by decide)
              exact hret _ _ _ _ (0) f_93 L Q dX12_compared_90 hP hS ⟨⟨hI, hF, rfl, rfl⟩, trivial, (by omega), (by omega), (by omega)⟩
            · skip
              have c_115 : r_17.toInt = r_96.toInt := (by have z := Int32.toInt_inj.mpr c; omega)
              refine lv_goto (tgt := 85) hx hb dX12_compared_77 (by decide) ?_
              refine lv_iconst (v := 1) hx hb dX12_compared_85 (by decide) ?_
              refine lv_goto (tgt := 90) hx hb dX12_compared_86 (by decide) ?_
              have q_120 : (f_93 0 13).toInt = v_100.toInt := (congrArg Int32.toInt (show f_93 0 13 = v_100 from ev_100.symm))
              have q_121 : (f_93 0 16).toInt = v_103.toInt := (congrArg Int32.toInt (show f_93 0 16 = v_103 from ev_103.symm))
              have q_122 : (f_93 0 15).toInt = v_106.toInt := (congrArg Int32.toInt (show f_93 0 15 = v_106 from ev_106.symm))
              have q_123 : (f_93 0 16).toInt = v_103.toInt := (congrArg Int32.toInt (show f_93 0 16 = v_103 from ev_103.symm))
              have k99 : (1 : Int32).toInt = 1 := (by decide)
              exact hret _ _ _ _ (1) f_93 L Q dX12_compared_90 hP hS ⟨⟨hI, hF, rfl, rfl⟩, trivial, (by omega), (by omega), (by omega)⟩
        · skip
          exfalso; have c_111 : r_38.toInt = 60 := (by have z := Int32.toInt_inj.mpr c; have k1 : (60 : Int32).toInt = 60 := (by decide); omega); omega
      · skip
        have c_85 : r_38.toInt ≠ 61 := (by have z := bn_ne c; have k1 : (61 : Int32).toInt = 61 := (by decide); omega)
        refine lv_iload_n hx hb dX12_compared_29 rfl (lv_at hl 0 rfl) ?_
        refine lv_bipush (v := 62) hx hb dX12_compared_30 (by decide) ?_
        refine lv_icmp_eq (tgt := 37) hx hb dX12_compared_32 (by decide) (fun c => ?_) (fun c => ?_)
        · skip
          have c_124 : r_38.toInt = 62 := (by have z := Int32.toInt_inj.mpr c; have k1 : (62 : Int32).toInt = 62 := (by decide); omega)
          refine lv_aload_n hx hb dX12_compared_37 rfl (lv_at hl 2 rfl) ?_
          refine lv_dup hx hb dX12_compared_38 rfl ?_
          refine sg_get (ci := 12) (v := .int v_21) (C := RX12) (T := TX12) (N := 55) hx hb hts (fun w h => List.mem_cons_of_mem _ (gx_12 w h)) hown hK hP 0 (by decide) rfl rfl 13 (by decide) (hts _ (List.mem_cons_of_mem _ mw_625)) (fun _ h9 => h9) (congrArg (fun z => some (Value.int z)) (show f_14 0 13 = v_21 from ev_21.symm)) dX12_compared_39 ?_
          refine lv_iconst (v := 1) hx hb dX12_compared_42 (by decide) ?_
          refine lv_iadd hx hb dX12_compared_43 ?_
          refine lv_topi (fun v_126 ev_126 => ?_)
          have q_127 : v_126.toInt = v_21.toInt + 1 := by rw [ev_126]; have k1 : (1 : Int32).toInt = 1 := (by decide); exact (bn_addI (by omega) (by omega)).trans (by omega)
          refine sg_put (ci := 12) (x := v_126) (ty := .int) (C := RX12) (T := TX12) (N := 55) hx hb hts (fun w h => List.mem_cons_of_mem _ (gx_12 w h)) tyX12 tyX12_ok nmX12 hown hh hA hK hP hS 0 (by decide) rfl rfl 13 (by decide) (hts _ (List.mem_cons_of_mem _ mw_625)) (fun _ h9 => h9) rfl rfl (by decide +kernel) rfl rfl (Nat.le_of_ble_eq_true rfl) dX12_compared_44 (fun f_128 H locs ef_128 hP hS => ?_)
          have hI : sgI loM hiM f_128 := by rw [ef_128]; exact sgI.put hI 0 13 (show 0 ≤ (v_126 : Int32).toInt ∧ (v_126 : Int32).toInt ≤ 120 from by omega)
          have hF : sgK WkX12_compared_3 f f_128 := sgK.put hF ef_128 (by rfl)
          refine lv_aload_n hx hb dX12_compared_47 rfl (lv_at hl 2 rfl) ?_
          have q_129 : (f_128 0 16).toInt = v_24.toInt := (congrArg Int32.toInt (show f_128 0 16 = v_24 from (by rw [ef_128, sg_up_s, sgu_n (by decide)]; exact ev_24.symm)))
          have q_130 : (f_128 0 15).toInt = v_27.toInt := (congrArg Int32.toInt (show f_128 0 15 = v_27 from (by rw [ef_128, sg_up_s, sgu_n (by decide)]; exact ev_27.symm)))
          have q_131 : (f_128 0 16).toInt = v_24.toInt := (congrArg Int32.toInt (show f_128 0 16 = v_24 from (by rw [ef_128, sg_up_s, sgu_n (by decide)]; exact ev_24.symm)))
          have q_132 : (f_128 0 13).toInt = v_126.toInt := (congrArg Int32.toInt (show f_128 0 13 = v_126 from (by rw [ef_128, sg_up_s, sgu_s])))
          refine sg_calli (va_runV (As := []) (rest := []) ⟨hx, hb, hml, hown, hts⟩ (kX12_sums_3 l D ca za h hh f_128 L Q hI (by omega) (by omega) H.size) (cwV 0 hts (gw_V (fun _ h => List.mem_cons_of_mem _ h) mw_852 mw_853 mw_854 mw_619 mw_851) rfl rfl rfl (by decide +kernel) ⟨Nat.le_of_ble_eq_true rfl, Nat.le_of_ble_eq_true rfl⟩) (sg_preV (ci := 12) (C := RX12) (T := TX12) (N := 55) hA hK hP hS hZ 0 (by decide) rfl rfl) rfl rfl hl.1 rfl (lv_room (Nat.le_of_ble_eq_true rfl)) dX12_compared_48 ⟨Nat.le_refl _, Nat.le_refl _⟩) hA hS (fun r_136 f_133 L_134 Q_135 H locs hq hP hS => ?_)
          obtain ⟨⟨hI, hk_f_133, eL9, eQ9⟩, hq, p_137, p_138, p_139⟩ := hq
          rw [eL9, eQ9] at hP; clear eL9 eQ9
          have hF : sgK WkX12_compared_3 f f_133 := sgK.tr hF hk_f_133 (by decide)
          obtain ⟨v_140, ev_140⟩ : ∃ z : Int32, z = f_133 0 13 := ⟨_, rfl⟩
          have q_141 : 0 ≤ v_140.toInt ∧ v_140.toInt ≤ 120 := by rw [ev_140]; exact hI 0 13
          have q_142 : (f_133 0 13).toInt = v_140.toInt := (congrArg Int32.toInt (show f_133 0 13 = v_140 from ev_140.symm))
          obtain ⟨v_143, ev_143⟩ : ∃ z : Int32, z = f_133 0 16 := ⟨_, rfl⟩
          have q_144 : 0 ≤ v_143.toInt ∧ v_143.toInt ≤ 6 := by rw [ev_143]; exact hI 0 16
          have q_145 : (f_133 0 16).toInt = v_143.toInt := (congrArg Int32.toInt (show f_133 0 16 = v_143 from ev_143.symm))
          obtain ⟨v_146, ev_146⟩ : ∃ z : Int32, z = f_133 0 15 := ⟨_, rfl⟩
          have q_147 : (-1) ≤ v_146.toInt ∧ v_146.toInt ≤ 120 := by rw [ev_146]; exact hI 0 15
          have q_148 : (f_133 0 15).toInt = v_146.toInt := (congrArg Int32.toInt (show f_133 0 15 = v_146 from ev_146.symm))
          have q_149 : (f_133 0 16).toInt = v_143.toInt := (congrArg Int32.toInt (show f_133 0 16 = v_143 from ev_143.symm))
          refine lv_istore_n (lv' := [(3, .int r_136), (2, .int r_38), (1, .int r_17), (0, .ref (h 0))]) hx hb dX12_compared_51 rfl hl (by decide) rfl (fun ls hl => ?_)
          refine lv_iload_n hx hb dX12_compared_52 rfl (lv_at hl 1 rfl) ?_
          refine lv_bipush (v := 60) hx hb dX12_compared_53 (by decide) ?_
          refine lv_icmp_ne (tgt := 66) hx hb dX12_compared_55 (by decide) (fun c => ?_) (fun c => ?_)
          · skip
            have c_150 : r_38.toInt ≠ 60 := (by have z := bn_ne c; have k1 : (60 : Int32).toInt = 60 := (by decide); omega)
            refine lv_iload_n hx hb dX12_compared_66 rfl (lv_at hl 1 rfl) ?_
            refine lv_bipush (v := 61) hx hb dX12_compared_67 (by decide) ?_
            refine lv_icmp_ne (tgt := 80) hx hb dX12_compared_69 (by decide) (fun c => ?_) (fun c => ?_)
            · skip
              have c_152 : r_38.toInt ≠ 61 := (by have z := bn_ne c; have k1 : (61 : Int32).toInt = 61 := (by decide); omega)
              refine lv_iload_n hx hb dX12_compared_80 rfl (lv_at hl 2 rfl) ?_
              refine lv_iload_n hx hb dX12_compared_81 rfl (lv_at hl 0 rfl) ?_
              refine lv_icmp_le (tgt := 89) hx hb dX12_compared_82 (by decide) (fun c => ?_) (fun c => ?_)
              · skip
                have c_154 : r_17.toInt ≤ r_136.toInt := (by have z := bn_le c; omega)
                refine lv_iconst (v := 0) hx hb dX12_compared_89 (by decide) ?_
                have q_156 : (f_133 0 13).toInt = v_140.toInt := (congrArg Int32.toInt (show f_133 0 13 = v_140 from ev_140.symm))
                have q_157 : (f_133 0 16).toInt = v_143.toInt := (congrArg Int32.toInt (show f_133 0 16 = v_143 from ev_143.symm))
                have q_158 : (f_133 0 15).toInt = v_146.toInt := (congrArg Int32.toInt (show f_133 0 15 = v_146 from ev_146.symm))
                have q_159 : (f_133 0 16).toInt = v_143.toInt := (congrArg Int32.toInt (show f_133 0 16 = v_143 from ev_143.symm))
                have k99 : (0 : Int32).toInt = 0 := (by decide)
                exact hret _ _ _ _ (0) f_133 L Q dX12_compared_90 hP hS ⟨⟨hI, hF, rfl, rfl⟩, trivial, (by omega), (by omega), (by omega)⟩
              · skip
                have c_155 : r_136.toInt < r_17.toInt := (by have z := bn_nle c; omega)
                refine lv_iconst (v := 1) hx hb dX12_compared_85 (by decide) ?_
                refine lv_goto (tgt := 90) hx hb dX12_compared_86 (by decide) ?_
                have q_160 : (f_133 0 13).toInt = v_140.toInt := (congrArg Int32.toInt (show f_133 0 13 = v_140 from ev_140.symm))
                have q_161 : (f_133 0 16).toInt = v_143.toInt := (congrArg Int32.toInt (show f_133 0 16 = v_143 from ev_143.symm))
                have q_162 : (f_133 0 15).toInt = v_146.toInt := (congrArg Int32.toInt (show f_133 0 15 = v_146 from ev_146.symm))
                have q_163 : (f_133 0 16).toInt = v_143.toInt := (congrArg Int32.toInt (show f_133 0 16 = v_143 from ev_143.symm))
                have k99 : (1 : Int32).toInt = 1 := (by decide)
                exact hret _ _ _ _ (1) f_133 L Q dX12_compared_90 hP hS ⟨⟨hI, hF, rfl, rfl⟩, trivial, (by omega), (by omega), (by omega)⟩
            · skip
              exfalso; have c_153 : r_38.toInt = 61 := (by have z := Int32.toInt_inj.mpr c; have k1 : (61 : Int32).toInt = 61 := (by decide); omega); omega
          · skip
            exfalso; have c_151 : r_38.toInt = 60 := (by have z := Int32.toInt_inj.mpr c; have k1 : (60 : Int32).toInt = 60 := (by decide); omega); omega
        · skip
          have c_125 : r_38.toInt ≠ 62 := (by have z := bn_ne c; have k1 : (62 : Int32).toInt = 62 := (by decide); omega)
          refine lv_iload_n hx hb dX12_compared_35 rfl (lv_at hl 1 rfl) ?_
          have q_164 : (f_14 0 13).toInt = v_21.toInt := (congrArg Int32.toInt (show f_14 0 13 = v_21 from ev_21.symm))
          have q_165 : (f_14 0 16).toInt = v_24.toInt := (congrArg Int32.toInt (show f_14 0 16 = v_24 from ev_24.symm))
          have q_166 : (f_14 0 15).toInt = v_27.toInt := (congrArg Int32.toInt (show f_14 0 15 = v_27 from ev_27.symm))
          have q_167 : (f_14 0 16).toInt = v_24.toInt := (congrArg Int32.toInt (show f_14 0 16 = v_24 from ev_24.symm))
          exact hret _ _ _ _ (r_17) f_14 L Q dX12_compared_36 hP hS ⟨⟨hI, hF, rfl, rfl⟩, trivial, (by omega), (by omega), (by omega)⟩

abbrev WkX12_both_3 : List (Nat × Nat × Option Nat) := [(0, 0, some 13), (0, 0, some 15), (0, 0, some 16)]
set_option maxHeartbeats 4000000 in
set_option maxRecDepth 100000 in
theorem kX12_both_3 (l : Launch) (D : va_G) (ca : Nat → ClassId) (za h : Nat → Nat) (hh : sgH 26 h) (f : sg_F) (L : sg_L) (Q : sg_Q) (hI : sgI loM hiM f) (p0 : 3 ≤ (f 0 16).toInt) (p1 : 0 ≤ (f 0 15).toInt ∨ (f 0 16).toInt = 3) (sz : Nat) : Met l yX12_both gwX12_both { frames := 23, cells := 0, slots := 0, locals := 524 } (sgP D vwCl (tyX ca) 26 h (eM ca h) zcM za f L Q sz [.ref (h 0)]) (sgQi D vwCl 26 h (eM ca h) sz (fun r f1 L1 Q1 => ((sgI loM hiM f1 ∧ sgK WkX12_both_3 f f1 ∧ L1 = L ∧ Q1 = Q) ∧ True ∧ ((f 0 13).toInt ≤ (f1 0 13).toInt) ∧ (3 ≤ (f1 0 16).toInt) ∧ (0 ≤ (f1 0 15).toInt ∨ (f1 0 16).toInt = 3)))) 0 0 (sgA 26 h sz) := by
  refine sg_ofWi (cc := cX12_both) (maxL := 3) RX12 (by decide) rfl rfl (Nat.le_of_ble_eq_true rfl) ?_
  intro p e s m below meth cd Qz ls hx hb hml hown hts hK hZ hP hS hl hret
  have hA := sgY.self (n := 26) (h := h) (sz := s.heap.size)
  have hl : lv_has ls 3 [(0, .ref (h 0))] := hl
  obtain ⟨H, hH⟩ : ∃ z : Heap, z = s.heap := ⟨_, rfl⟩
  obtain ⟨locs, hlo⟩ : ∃ z : List Loc, z = [] := ⟨_, rfl⟩
  have hP : va_P D vwCl (sgw 26 h (eM ca h) f L Q) H := by rw [hH]; exact hP
  have hS : va_S (sgA 26 h s.heap.size) s.heap H locs := by rw [hH, hlo]; exact hS
  suffices hgo : W p l e ({ frames := 23, cells := 0, slots := 0, locals := 524 }) s m ([.ref (h 0)] : List Value).toArray below meth cd H locs 0 0 Qz (F0 m 0 ls []) by rw [hH, hlo] at hgo; exact hgo
  clear hH hlo
  obtain ⟨v_1, ev_1⟩ : ∃ z : Int32, z = f 0 16 := ⟨_, rfl⟩
  have q_2 : 0 ≤ v_1.toInt ∧ v_1.toInt ≤ 6 := by rw [ev_1]; exact hI 0 16
  obtain ⟨v_3, ev_3⟩ : ∃ z : Int32, z = f 0 15 := ⟨_, rfl⟩
  have q_4 : (-1) ≤ v_3.toInt ∧ v_3.toInt ≤ 120 := by rw [ev_3]; exact hI 0 15
  obtain ⟨v_5, ev_5⟩ : ∃ z : Int32, z = f 0 13 := ⟨_, rfl⟩
  have q_6 : 0 ≤ v_5.toInt ∧ v_5.toInt ≤ 120 := by rw [ev_5]; exact hI 0 13
  have o_7 : (f 0 16).toInt = v_1.toInt := (congrArg Int32.toInt (show f 0 16 = v_1 from ev_1.symm))
  have o_8 : (f 0 15).toInt = v_3.toInt := (congrArg Int32.toInt (show f 0 15 = v_3 from ev_3.symm))
  have o_9 : (f 0 13).toInt = v_5.toInt := (congrArg Int32.toInt (show f 0 13 = v_5 from ev_5.symm))
  have hF : sgK WkX12_both_3 f f := sgK.rf
  have loop_5 : ∀ (n_5 : Nat) (y1_5 : Int32) (fp_5 : sg_F) (H : Heap) (locs : List Loc) (ls : Array Slot), 120 - (fp_5 0 13).toInt < (n_5 : Int) → (f 0 13).toInt ≤ (fp_5 0 13).toInt → 3 ≤ (fp_5 0 16).toInt → 0 ≤ (fp_5 0 15).toInt ∨ (fp_5 0 16).toInt = 3 → sgI loM hiM fp_5 → sgK WkX12_both_3 f fp_5 → va_P D vwCl (sgw 26 h (eM ca h) fp_5 L Q) H → va_S (sgA 26 h s.heap.size) s.heap H locs → lv_has ls 3 [(0, .ref (h 0)), (1, .int y1_5)] → W p l e ({ frames := 23, cells := 0, slots := 0, locals := 524 }) s m ([.ref (h 0)] : List Value).toArray below meth cd H locs 0 0 Qz (F0 m 5 ls []) := by
    intro n_5
    induction n_5 with
    | zero => intro y1_5 fp_5 H locs ls hm_5 hg0_5 hg1_5 hg2_5 hI hF hP hS hl; have zb := (show 0 ≤ (fp_5 0 13).toInt ∧ (fp_5 0 13).toInt ≤ 120 from hI 0 13); exact absurd hm_5 (by omega)
    | succ n_5 ih_5 =>
      intro y1_5 fp_5 H locs ls hm_5 hg0_5 hg1_5 hg2_5 hI hF hP hS hl
      obtain ⟨v_10, ev_10⟩ : ∃ z : Int32, z = fp_5 0 13 := ⟨_, rfl⟩
      have q_11 : 0 ≤ v_10.toInt ∧ v_10.toInt ≤ 120 := by rw [ev_10]; exact hI 0 13
      have q_12 : (fp_5 0 13).toInt = v_10.toInt := by rw [ev_10]
      obtain ⟨v_13, ev_13⟩ : ∃ z : Int32, z = fp_5 0 16 := ⟨_, rfl⟩
      have q_14 : 0 ≤ v_13.toInt ∧ v_13.toInt ≤ 6 := by rw [ev_13]; exact hI 0 16
      have q_15 : (fp_5 0 16).toInt = v_13.toInt := by rw [ev_13]
      obtain ⟨v_16, ev_16⟩ : ∃ z : Int32, z = fp_5 0 15 := ⟨_, rfl⟩
      have q_17 : (-1) ≤ v_16.toInt ∧ v_16.toInt ≤ 120 := by rw [ev_16]; exact hI 0 15
      have q_18 : (fp_5 0 15).toInt = v_16.toInt := by rw [ev_16]
      refine lv_aload_n hx hb dX12_both_5 rfl (lv_at hl 0 rfl) ?_
      refine lv_bipush (v := 38) hx hb dX12_both_6 (by decide) ?_
      have q_19 : (fp_5 0 15).toInt = v_16.toInt := (congrArg Int32.toInt (show fp_5 0 15 = v_16 from ev_16.symm))
      have q_20 : (fp_5 0 13).toInt = v_10.toInt := (congrArg Int32.toInt (show fp_5 0 13 = v_10 from ev_10.symm))
      obtain ⟨v_21, ev_21⟩ : ∃ z : Int32, z = fp_5 0 14 := ⟨_, rfl⟩
      have q_22 : 0 ≤ v_21.toInt ∧ v_21.toInt ≤ 120 := by rw [ev_21]; exact hI 0 14
      have q_23 : (fp_5 0 14).toInt = v_21.toInt := (congrArg Int32.toInt (show fp_5 0 14 = v_21 from ev_21.symm))
      have q_24 : (fp_5 0 13).toInt = v_10.toInt := (congrArg Int32.toInt (show fp_5 0 13 = v_10 from ev_10.symm))
      have q_25 : (fp_5 0 13).toInt = v_10.toInt := (congrArg Int32.toInt (show fp_5 0 13 = v_10 from ev_10.symm))
      refine sg_calli (va_runV (As := [.int 38]) (rest := []) ⟨hx, hb, hml, hown, hts⟩ (kX12_takes_38 l D ca za h hh fp_5 L Q hI H.size) (cwV 1 hts (gw_V (fun _ h => List.mem_cons_of_mem _ h) mw_877 mw_878 mw_879 mw_619 mw_876) rfl rfl rfl (by decide +kernel) ⟨Nat.le_of_ble_eq_true rfl, Nat.le_of_ble_eq_true rfl⟩) (sg_preV (ci := 12) (C := RX12) (T := TX12) (N := 55) hA hK hP hS hZ 0 (by decide) rfl rfl) rfl rfl hl.1 rfl (lv_room (Nat.le_of_ble_eq_true rfl)) dX12_both_8 ⟨Nat.le_refl _, Nat.le_refl _⟩) hA hS (fun r_29 f_26 L_27 Q_28 H locs hq hP hS => ?_)
      obtain ⟨⟨hI, hk_f_26, eL9, eQ9⟩, hq⟩ := hq
      rw [eL9, eQ9] at hP; clear eL9 eQ9
      have hF : sgK WkX12_both_3 f f_26 := sgK.tr hF hk_f_26 (by decide)
      obtain ⟨v_30, ev_30⟩ : ∃ z : Int32, z = f_26 0 13 := ⟨_, rfl⟩
      have q_31 : 0 ≤ v_30.toInt ∧ v_30.toInt ≤ 120 := by rw [ev_30]; exact hI 0 13
      have q_32 : (f_26 0 13).toInt = v_30.toInt := (congrArg Int32.toInt (show f_26 0 13 = v_30 from ev_30.symm))
      have q_33 : (f_26 0 13).toInt = v_30.toInt := (congrArg Int32.toInt (show f_26 0 13 = v_30 from ev_30.symm))
      have k_34 : (38 : Int32).toInt = 38 := by decide
      rcases hq with ⟨rfl, hq⟩ | ⟨rfl, hq⟩
      · skip
        have q_35 := hq
        refine lv_if_eq (tgt := 36) hx hb dX12_both_11 (by decide) (fun c => absurd c (by decide)) (fun c => ?_)
        refine lv_aload_n hx hb dX12_both_14 rfl (lv_at hl 0 rfl) ?_
        have q_36 : (f_26 0 16).toInt = v_13.toInt := (congrArg Int32.toInt (show f_26 0 16 = v_13 from ((hk_f_26 0 16 (by decide)).trans ev_13.symm)))
        have q_37 : (f_26 0 15).toInt = v_16.toInt := (congrArg Int32.toInt (show f_26 0 15 = v_16 from ((hk_f_26 0 15 (by decide)).trans ev_16.symm)))
        have q_38 : (f_26 0 16).toInt = v_13.toInt := (congrArg Int32.toInt (show f_26 0 16 = v_13 from ((hk_f_26 0 16 (by decide)).trans ev_13.symm)))
        have q_39 : (f_26 0 13).toInt = v_30.toInt := (congrArg Int32.toInt (show f_26 0 13 = v_30 from ev_30.symm))
        refine sg_calli (va_runV (As := []) (rest := []) ⟨hx, hb, hml, hown, hts⟩ (kX12_compared_3 l D ca za h hh f_26 L Q hI (by omega) (by omega) H.size) (cwV 0 hts (gw_V (fun _ h => List.mem_cons_of_mem _ h) mw_856 mw_857 mw_858 mw_619 mw_855) rfl rfl rfl (by decide +kernel) ⟨Nat.le_of_ble_eq_true rfl, Nat.le_of_ble_eq_true rfl⟩) (sg_preV (ci := 12) (C := RX12) (T := TX12) (N := 55) hA hK hP hS hZ 0 (by decide) rfl rfl) rfl rfl hl.1 rfl (lv_room (Nat.le_of_ble_eq_true rfl)) dX12_both_15 ⟨Nat.le_refl _, Nat.le_refl _⟩) hA hS (fun r_43 f_40 L_41 Q_42 H locs hq hP hS => ?_)
        obtain ⟨⟨hI, hk_f_40, eL9, eQ9⟩, hq, p_44, p_45, p_46⟩ := hq
        rw [eL9, eQ9] at hP; clear eL9 eQ9
        have hF : sgK WkX12_both_3 f f_40 := sgK.tr hF hk_f_40 (by decide)
        obtain ⟨v_47, ev_47⟩ : ∃ z : Int32, z = f_40 0 13 := ⟨_, rfl⟩
        have q_48 : 0 ≤ v_47.toInt ∧ v_47.toInt ≤ 120 := by rw [ev_47]; exact hI 0 13
        have q_49 : (f_40 0 13).toInt = v_47.toInt := (congrArg Int32.toInt (show f_40 0 13 = v_47 from ev_47.symm))
        obtain ⟨v_50, ev_50⟩ : ∃ z : Int32, z = f_40 0 16 := ⟨_, rfl⟩
        have q_51 : 0 ≤ v_50.toInt ∧ v_50.toInt ≤ 6 := by rw [ev_50]; exact hI 0 16
        have q_52 : (f_40 0 16).toInt = v_50.toInt := (congrArg Int32.toInt (show f_40 0 16 = v_50 from ev_50.symm))
        obtain ⟨v_53, ev_53⟩ : ∃ z : Int32, z = f_40 0 15 := ⟨_, rfl⟩
        have q_54 : (-1) ≤ v_53.toInt ∧ v_53.toInt ≤ 120 := by rw [ev_53]; exact hI 0 15
        have q_55 : (f_40 0 15).toInt = v_53.toInt := (congrArg Int32.toInt (show f_40 0 15 = v_53 from ev_53.symm))
        have q_56 : (f_40 0 16).toInt = v_50.toInt := (congrArg Int32.toInt (show f_40 0 16 = v_50 from ev_50.symm))
        refine lv_istore_n (lv' := [(2, .int r_43), (0, .ref (h 0)), (1, .int y1_5)]) hx hb dX12_both_18 rfl hl (by decide) rfl (fun ls hl => ?_)
        refine lv_iload_n hx hb dX12_both_19 rfl (lv_at hl 2 rfl) ?_
        refine lv_if_eq (tgt := 31) hx hb dX12_both_20 (by decide) (fun c => ?_) (fun c => ?_)
        · skip
          have c_57 : y1_5.toInt = 0 := (by have z := Int32.toInt_inj.mpr c; have k1 : (0 : Int32).toInt = 0 := (by decide); omega)
          refine lv_iconst (v := 0) hx hb dX12_both_31 (by decide) ?_
          refine lv_istore_n (lv' := [(1, .int 0), (2, .int r_43), (0, .ref (h 0))]) hx hb dX12_both_32 rfl hl (by decide) rfl (fun ls hl => ?_)
          refine lv_goto (tgt := 5) hx hb dX12_both_33 (by decide) ?_
          exact ih_5 0 f_40 _ _ _ (by have kc0 : (0 : Int32).toInt = 0 := (by decide); have zz0_13 : (f_40 0 13).toInt = v_47.toInt := (congrArg Int32.toInt (show f_40 0 13 = v_47 from ev_47.symm)); omega) (by have kc0 : (0 : Int32).toInt = 0 := (by decide); have zz0_13 : (f_40 0 13).toInt = v_47.toInt := (congrArg Int32.toInt (show f_40 0 13 = v_47 from ev_47.symm)); omega) (by have kc0 : (0 : Int32).toInt = 0 := (by decide); have zz0_16 : (f_40 0 16).toInt = v_50.toInt := (congrArg Int32.toInt (show f_40 0 16 = v_50 from ev_50.symm)); omega) (by have kc0 : (0 : Int32).toInt = 0 := (by decide); have zz0_15 : (f_40 0 15).toInt = v_53.toInt := (congrArg Int32.toInt (show f_40 0 15 = v_53 from ev_53.symm)); have zz0_16 : (f_40 0 16).toInt = v_50.toInt := (congrArg Int32.toInt (show f_40 0 16 = v_50 from ev_50.symm)); omega) hI hF hP hS (lv_sub hl [2, 0] rfl)
        · skip
          have c_58 : y1_5.toInt ≠ 0 := (by have z := bn_ne c; have k1 : (0 : Int32).toInt = 0 := (by decide); omega)
          refine lv_iload_n hx hb dX12_both_23 rfl (lv_at hl 0 rfl) ?_
          refine lv_if_eq (tgt := 31) hx hb dX12_both_24 (by decide) (fun c => ?_) (fun c => ?_)
          · skip
            have c_59 : r_43.toInt = 0 := (by have z := Int32.toInt_inj.mpr c; have k1 : (0 : Int32).toInt = 0 := (by decide); omega)
            refine lv_iconst (v := 0) hx hb dX12_both_31 (by decide) ?_
            refine lv_istore_n (lv' := [(1, .int 0), (2, .int r_43), (0, .ref (h 0))]) hx hb dX12_both_32 rfl hl (by decide) rfl (fun ls hl => ?_)
            refine lv_goto (tgt := 5) hx hb dX12_both_33 (by decide) ?_
            exact ih_5 0 f_40 _ _ _ (by have kc0 : (0 : Int32).toInt = 0 := (by decide); have zz0_13 : (f_40 0 13).toInt = v_47.toInt := (congrArg Int32.toInt (show f_40 0 13 = v_47 from ev_47.symm)); omega) (by have kc0 : (0 : Int32).toInt = 0 := (by decide); have zz0_13 : (f_40 0 13).toInt = v_47.toInt := (congrArg Int32.toInt (show f_40 0 13 = v_47 from ev_47.symm)); omega) (by have kc0 : (0 : Int32).toInt = 0 := (by decide); have zz0_16 : (f_40 0 16).toInt = v_50.toInt := (congrArg Int32.toInt (show f_40 0 16 = v_50 from ev_50.symm)); omega) (by have kc0 : (0 : Int32).toInt = 0 := (by decide); have zz0_15 : (f_40 0 15).toInt = v_53.toInt := (congrArg Int32.toInt (show f_40 0 15 = v_53 from ev_53.symm)); have zz0_16 : (f_40 0 16).toInt = v_50.toInt := (congrArg Int32.toInt (show f_40 0 16 = v_50 from ev_50.symm)); omega) hI hF hP hS (lv_sub hl [2, 0] rfl)
          · skip
            have c_60 : r_43.toInt ≠ 0 := (by have z := bn_ne c; have k1 : (0 : Int32).toInt = 0 := (by decide); omega)
            refine lv_iconst (v := 1) hx hb dX12_both_27 (by decide) ?_
            refine lv_goto (tgt := 32) hx hb dX12_both_28 (by decide) ?_
            refine lv_istore_n (lv' := [(1, .int 1), (2, .int r_43), (0, .ref (h 0))]) hx hb dX12_both_32 rfl hl (by decide) rfl (fun ls hl => ?_)
            refine lv_goto (tgt := 5) hx hb dX12_both_33 (by decide) ?_
            exact ih_5 1 f_40 _ _ _ (by have kc0 : (1 : Int32).toInt = 1 := (by decide); have zz0_13 : (f_40 0 13).toInt = v_47.toInt := (congrArg Int32.toInt (show f_40 0 13 = v_47 from ev_47.symm)); omega) (by have kc0 : (1 : Int32).toInt = 1 := (by decide); have zz0_13 : (f_40 0 13).toInt = v_47.toInt := (congrArg Int32.toInt (show f_40 0 13 = v_47 from ev_47.symm)); omega) (by have kc0 : (1 : Int32).toInt = 1 := (by decide); have zz0_16 : (f_40 0 16).toInt = v_50.toInt := (congrArg Int32.toInt (show f_40 0 16 = v_50 from ev_50.symm)); omega) (by have kc0 : (1 : Int32).toInt = 1 := (by decide); have zz0_15 : (f_40 0 15).toInt = v_53.toInt := (congrArg Int32.toInt (show f_40 0 15 = v_53 from ev_53.symm)); have zz0_16 : (f_40 0 16).toInt = v_50.toInt := (congrArg Int32.toInt (show f_40 0 16 = v_50 from ev_50.symm)); omega) hI hF hP hS (lv_sub hl [2, 0] rfl)
      · skip
        have q_61 := hq
        refine lv_if_eq (tgt := 36) hx hb dX12_both_11 (by decide) (fun c => ?_) (fun c => absurd c (by decide))
        refine lv_iload_n hx hb dX12_both_36 rfl (lv_at hl 1 rfl) ?_
        have q_62 : (f_26 0 13).toInt = v_30.toInt := (congrArg Int32.toInt (show f_26 0 13 = v_30 from ev_30.symm))
        have q_63 : (f_26 0 16).toInt = v_13.toInt := (congrArg Int32.toInt (show f_26 0 16 = v_13 from ((hk_f_26 0 16 (by decide)).trans ev_13.symm)))
        have q_64 : (f_26 0 15).toInt = v_16.toInt := (congrArg Int32.toInt (show f_26 0 15 = v_16 from ((hk_f_26 0 15 (by decide)).trans ev_16.symm)))
        have q_65 : (f_26 0 16).toInt = v_13.toInt := (congrArg Int32.toInt (show f_26 0 16 = v_13 from ((hk_f_26 0 16 (by decide)).trans ev_13.symm)))
        exact hret _ _ _ _ (y1_5) f_26 L Q dX12_both_37 hP hS ⟨⟨hI, hF, rfl, rfl⟩, trivial, (by omega), (by omega), (by omega)⟩
  refine lv_aload_n hx hb dX12_both_0 rfl (lv_at hl 0 rfl) ?_
  have q_66 : (f 0 16).toInt = v_1.toInt := (congrArg Int32.toInt (show f 0 16 = v_1 from ev_1.symm))
  have q_67 : (f 0 15).toInt = v_3.toInt := (congrArg Int32.toInt (show f 0 15 = v_3 from ev_3.symm))
  have q_68 : (f 0 16).toInt = v_1.toInt := (congrArg Int32.toInt (show f 0 16 = v_1 from ev_1.symm))
  have q_69 : (f 0 13).toInt = v_5.toInt := (congrArg Int32.toInt (show f 0 13 = v_5 from ev_5.symm))
  refine sg_calli (va_runV (As := []) (rest := []) ⟨hx, hb, hml, hown, hts⟩ (kX12_compared_3 l D ca za h hh f L Q hI (by omega) (by omega) H.size) (cwV 0 hts (gw_V (fun _ h => List.mem_cons_of_mem _ h) mw_856 mw_857 mw_858 mw_619 mw_855) rfl rfl rfl (by decide +kernel) ⟨Nat.le_of_ble_eq_true rfl, Nat.le_of_ble_eq_true rfl⟩) (sg_preV (ci := 12) (C := RX12) (T := TX12) (N := 55) hA hK hP hS hZ 0 (by decide) rfl rfl) rfl rfl hl.1 rfl (lv_room (Nat.le_of_ble_eq_true rfl)) dX12_both_1 ⟨Nat.le_refl _, Nat.le_refl _⟩) hA hS (fun r_73 f_70 L_71 Q_72 H locs hq hP hS => ?_)
  obtain ⟨⟨hI, hk_f_70, eL9, eQ9⟩, hq, p_74, p_75, p_76⟩ := hq
  rw [eL9, eQ9] at hP; clear eL9 eQ9
  have hF : sgK WkX12_both_3 f f_70 := sgK.tr hF hk_f_70 (by decide)
  obtain ⟨v_77, ev_77⟩ : ∃ z : Int32, z = f_70 0 13 := ⟨_, rfl⟩
  have q_78 : 0 ≤ v_77.toInt ∧ v_77.toInt ≤ 120 := by rw [ev_77]; exact hI 0 13
  have q_79 : (f_70 0 13).toInt = v_77.toInt := (congrArg Int32.toInt (show f_70 0 13 = v_77 from ev_77.symm))
  obtain ⟨v_80, ev_80⟩ : ∃ z : Int32, z = f_70 0 16 := ⟨_, rfl⟩
  have q_81 : 0 ≤ v_80.toInt ∧ v_80.toInt ≤ 6 := by rw [ev_80]; exact hI 0 16
  have q_82 : (f_70 0 16).toInt = v_80.toInt := (congrArg Int32.toInt (show f_70 0 16 = v_80 from ev_80.symm))
  obtain ⟨v_83, ev_83⟩ : ∃ z : Int32, z = f_70 0 15 := ⟨_, rfl⟩
  have q_84 : (-1) ≤ v_83.toInt ∧ v_83.toInt ≤ 120 := by rw [ev_83]; exact hI 0 15
  have q_85 : (f_70 0 15).toInt = v_83.toInt := (congrArg Int32.toInt (show f_70 0 15 = v_83 from ev_83.symm))
  have q_86 : (f_70 0 16).toInt = v_80.toInt := (congrArg Int32.toInt (show f_70 0 16 = v_80 from ev_80.symm))
  refine lv_istore_n (lv' := [(1, .int r_73), (0, .ref (h 0))]) hx hb dX12_both_4 rfl hl (by decide) rfl (fun ls hl => ?_)
  exact loop_5 121 r_73 f_70 _ _ _ (by have zz0_13 : (f_70 0 13).toInt = v_77.toInt := (congrArg Int32.toInt (show f_70 0 13 = v_77 from ev_77.symm)); omega) (by have zz0_13 : (f_70 0 13).toInt = v_77.toInt := (congrArg Int32.toInt (show f_70 0 13 = v_77 from ev_77.symm)); omega) (by have zz0_16 : (f_70 0 16).toInt = v_80.toInt := (congrArg Int32.toInt (show f_70 0 16 = v_80 from ev_80.symm)); omega) (by have zz0_15 : (f_70 0 15).toInt = v_83.toInt := (congrArg Int32.toInt (show f_70 0 15 = v_83 from ev_83.symm)); have zz0_16 : (f_70 0 16).toInt = v_80.toInt := (congrArg Int32.toInt (show f_70 0 16 = v_80 from ev_80.symm)); omega) hI hF hP hS (lv_sub hl [1, 0] rfl)

abbrev WkX12_either_3 : List (Nat × Nat × Option Nat) := [(0, 0, some 13), (0, 0, some 15), (0, 0, some 16)]
set_option maxHeartbeats 4000000 in
set_option maxRecDepth 100000 in
theorem kX12_either_3 (l : Launch) (D : va_G) (ca : Nat → ClassId) (za h : Nat → Nat) (hh : sgH 26 h) (f : sg_F) (L : sg_L) (Q : sg_Q) (hI : sgI loM hiM f) (p0 : 3 ≤ (f 0 16).toInt) (p1 : 0 ≤ (f 0 15).toInt ∨ (f 0 16).toInt = 3) (sz : Nat) : Met l yX12_either gwX12_either { frames := 24, cells := 0, slots := 0, locals := 546 } (sgP D vwCl (tyX ca) 26 h (eM ca h) zcM za f L Q sz [.ref (h 0)]) (sgQi D vwCl 26 h (eM ca h) sz (fun r f1 L1 Q1 => ((sgI loM hiM f1 ∧ sgK WkX12_either_3 f f1 ∧ L1 = L ∧ Q1 = Q) ∧ True ∧ ((f 0 13).toInt ≤ (f1 0 13).toInt) ∧ (3 ≤ (f1 0 16).toInt) ∧ (0 ≤ (f1 0 15).toInt ∨ (f1 0 16).toInt = 3)))) 0 0 (sgA 26 h sz) := by
  refine sg_ofWi (cc := cX12_either) (maxL := 3) RX12 (by decide) rfl rfl (Nat.le_of_ble_eq_true rfl) ?_
  intro p e s m below meth cd Qz ls hx hb hml hown hts hK hZ hP hS hl hret
  have hA := sgY.self (n := 26) (h := h) (sz := s.heap.size)
  have hl : lv_has ls 3 [(0, .ref (h 0))] := hl
  obtain ⟨H, hH⟩ : ∃ z : Heap, z = s.heap := ⟨_, rfl⟩
  obtain ⟨locs, hlo⟩ : ∃ z : List Loc, z = [] := ⟨_, rfl⟩
  have hP : va_P D vwCl (sgw 26 h (eM ca h) f L Q) H := by rw [hH]; exact hP
  have hS : va_S (sgA 26 h s.heap.size) s.heap H locs := by rw [hH, hlo]; exact hS
  suffices hgo : W p l e ({ frames := 24, cells := 0, slots := 0, locals := 546 }) s m ([.ref (h 0)] : List Value).toArray below meth cd H locs 0 0 Qz (F0 m 0 ls []) by rw [hH, hlo] at hgo; exact hgo
  clear hH hlo
  obtain ⟨v_1, ev_1⟩ : ∃ z : Int32, z = f 0 16 := ⟨_, rfl⟩
  have q_2 : 0 ≤ v_1.toInt ∧ v_1.toInt ≤ 6 := by rw [ev_1]; exact hI 0 16
  obtain ⟨v_3, ev_3⟩ : ∃ z : Int32, z = f 0 15 := ⟨_, rfl⟩
  have q_4 : (-1) ≤ v_3.toInt ∧ v_3.toInt ≤ 120 := by rw [ev_3]; exact hI 0 15
  obtain ⟨v_5, ev_5⟩ : ∃ z : Int32, z = f 0 13 := ⟨_, rfl⟩
  have q_6 : 0 ≤ v_5.toInt ∧ v_5.toInt ≤ 120 := by rw [ev_5]; exact hI 0 13
  have o_7 : (f 0 16).toInt = v_1.toInt := (congrArg Int32.toInt (show f 0 16 = v_1 from ev_1.symm))
  have o_8 : (f 0 15).toInt = v_3.toInt := (congrArg Int32.toInt (show f 0 15 = v_3 from ev_3.symm))
  have o_9 : (f 0 13).toInt = v_5.toInt := (congrArg Int32.toInt (show f 0 13 = v_5 from ev_5.symm))
  have hF : sgK WkX12_either_3 f f := sgK.rf
  have loop_5 : ∀ (n_5 : Nat) (y1_5 : Int32) (fp_5 : sg_F) (H : Heap) (locs : List Loc) (ls : Array Slot), 120 - (fp_5 0 13).toInt < (n_5 : Int) → (f 0 13).toInt ≤ (fp_5 0 13).toInt → 3 ≤ (fp_5 0 16).toInt → 0 ≤ (fp_5 0 15).toInt ∨ (fp_5 0 16).toInt = 3 → sgI loM hiM fp_5 → sgK WkX12_either_3 f fp_5 → va_P D vwCl (sgw 26 h (eM ca h) fp_5 L Q) H → va_S (sgA 26 h s.heap.size) s.heap H locs → lv_has ls 3 [(0, .ref (h 0)), (1, .int y1_5)] → W p l e ({ frames := 24, cells := 0, slots := 0, locals := 546 }) s m ([.ref (h 0)] : List Value).toArray below meth cd H locs 0 0 Qz (F0 m 5 ls []) := by
    intro n_5
    induction n_5 with
    | zero => intro y1_5 fp_5 H locs ls hm_5 hg0_5 hg1_5 hg2_5 hI hF hP hS hl; have zb := (show 0 ≤ (fp_5 0 13).toInt ∧ (fp_5 0 13).toInt ≤ 120 from hI 0 13); exact absurd hm_5 (by omega)
    | succ n_5 ih_5 =>
      intro y1_5 fp_5 H locs ls hm_5 hg0_5 hg1_5 hg2_5 hI hF hP hS hl
      obtain ⟨v_10, ev_10⟩ : ∃ z : Int32, z = fp_5 0 13 := ⟨_, rfl⟩
      have q_11 : 0 ≤ v_10.toInt ∧ v_10.toInt ≤ 120 := by rw [ev_10]; exact hI 0 13
      have q_12 : (fp_5 0 13).toInt = v_10.toInt := by rw [ev_10]
      obtain ⟨v_13, ev_13⟩ : ∃ z : Int32, z = fp_5 0 16 := ⟨_, rfl⟩
      have q_14 : 0 ≤ v_13.toInt ∧ v_13.toInt ≤ 6 := by rw [ev_13]; exact hI 0 16
      have q_15 : (fp_5 0 16).toInt = v_13.toInt := by rw [ev_13]
      obtain ⟨v_16, ev_16⟩ : ∃ z : Int32, z = fp_5 0 15 := ⟨_, rfl⟩
      have q_17 : (-1) ≤ v_16.toInt ∧ v_16.toInt ≤ 120 := by rw [ev_16]; exact hI 0 15
      have q_18 : (fp_5 0 15).toInt = v_16.toInt := by rw [ev_16]
      refine lv_aload_n hx hb dX12_either_5 rfl (lv_at hl 0 rfl) ?_
      refine lv_bipush (v := 124) hx hb dX12_either_6 (by decide) ?_
      have q_19 : (fp_5 0 15).toInt = v_16.toInt := (congrArg Int32.toInt (show fp_5 0 15 = v_16 from ev_16.symm))
      have q_20 : (fp_5 0 13).toInt = v_10.toInt := (congrArg Int32.toInt (show fp_5 0 13 = v_10 from ev_10.symm))
      obtain ⟨v_21, ev_21⟩ : ∃ z : Int32, z = fp_5 0 14 := ⟨_, rfl⟩
      have q_22 : 0 ≤ v_21.toInt ∧ v_21.toInt ≤ 120 := by rw [ev_21]; exact hI 0 14
      have q_23 : (fp_5 0 14).toInt = v_21.toInt := (congrArg Int32.toInt (show fp_5 0 14 = v_21 from ev_21.symm))
      have q_24 : (fp_5 0 13).toInt = v_10.toInt := (congrArg Int32.toInt (show fp_5 0 13 = v_10 from ev_10.symm))
      have q_25 : (fp_5 0 13).toInt = v_10.toInt := (congrArg Int32.toInt (show fp_5 0 13 = v_10 from ev_10.symm))
      refine sg_calli (va_runV (As := [.int 124]) (rest := []) ⟨hx, hb, hml, hown, hts⟩ (kX12_takes_124 l D ca za h hh fp_5 L Q hI H.size) (cwV 1 hts (gw_V (fun _ h => List.mem_cons_of_mem _ h) mw_877 mw_878 mw_879 mw_619 mw_876) rfl rfl rfl (by decide +kernel) ⟨Nat.le_of_ble_eq_true rfl, Nat.le_of_ble_eq_true rfl⟩) (sg_preV (ci := 12) (C := RX12) (T := TX12) (N := 55) hA hK hP hS hZ 0 (by decide) rfl rfl) rfl rfl hl.1 rfl (lv_room (Nat.le_of_ble_eq_true rfl)) dX12_either_8 ⟨Nat.le_refl _, Nat.le_refl _⟩) hA hS (fun r_29 f_26 L_27 Q_28 H locs hq hP hS => ?_)
      obtain ⟨⟨hI, hk_f_26, eL9, eQ9⟩, hq⟩ := hq
      rw [eL9, eQ9] at hP; clear eL9 eQ9
      have hF : sgK WkX12_either_3 f f_26 := sgK.tr hF hk_f_26 (by decide)
      obtain ⟨v_30, ev_30⟩ : ∃ z : Int32, z = f_26 0 13 := ⟨_, rfl⟩
      have q_31 : 0 ≤ v_30.toInt ∧ v_30.toInt ≤ 120 := by rw [ev_30]; exact hI 0 13
      have q_32 : (f_26 0 13).toInt = v_30.toInt := (congrArg Int32.toInt (show f_26 0 13 = v_30 from ev_30.symm))
      have q_33 : (f_26 0 13).toInt = v_30.toInt := (congrArg Int32.toInt (show f_26 0 13 = v_30 from ev_30.symm))
      have k_34 : (124 : Int32).toInt = 124 := by decide
      rcases hq with ⟨rfl, hq⟩ | ⟨rfl, hq⟩
      · skip
        have q_35 := hq
        refine lv_if_eq (tgt := 36) hx hb dX12_either_11 (by decide) (fun c => absurd c (by decide)) (fun c => ?_)
        refine lv_aload_n hx hb dX12_either_14 rfl (lv_at hl 0 rfl) ?_
        have q_36 : (f_26 0 16).toInt = v_13.toInt := (congrArg Int32.toInt (show f_26 0 16 = v_13 from ((hk_f_26 0 16 (by decide)).trans ev_13.symm)))
        have q_37 : (f_26 0 15).toInt = v_16.toInt := (congrArg Int32.toInt (show f_26 0 15 = v_16 from ((hk_f_26 0 15 (by decide)).trans ev_16.symm)))
        have q_38 : (f_26 0 16).toInt = v_13.toInt := (congrArg Int32.toInt (show f_26 0 16 = v_13 from ((hk_f_26 0 16 (by decide)).trans ev_13.symm)))
        have q_39 : (f_26 0 13).toInt = v_30.toInt := (congrArg Int32.toInt (show f_26 0 13 = v_30 from ev_30.symm))
        refine sg_calli (va_runV (As := []) (rest := []) ⟨hx, hb, hml, hown, hts⟩ (kX12_both_3 l D ca za h hh f_26 L Q hI (by omega) (by omega) H.size) (cwV 0 hts (gw_V (fun _ h => List.mem_cons_of_mem _ h) mw_881 mw_882 mw_883 mw_619 mw_880) rfl rfl rfl (by decide +kernel) ⟨Nat.le_of_ble_eq_true rfl, Nat.le_of_ble_eq_true rfl⟩) (sg_preV (ci := 12) (C := RX12) (T := TX12) (N := 55) hA hK hP hS hZ 0 (by decide) rfl rfl) rfl rfl hl.1 rfl (lv_room (Nat.le_of_ble_eq_true rfl)) dX12_either_15 ⟨Nat.le_refl _, Nat.le_refl _⟩) hA hS (fun r_43 f_40 L_41 Q_42 H locs hq hP hS => ?_)
        obtain ⟨⟨hI, hk_f_40, eL9, eQ9⟩, hq, p_44, p_45, p_46⟩ := hq
        rw [eL9, eQ9] at hP; clear eL9 eQ9
        have hF : sgK WkX12_either_3 f f_40 := sgK.tr hF hk_f_40 (by decide)
        obtain ⟨v_47, ev_47⟩ : ∃ z : Int32, z = f_40 0 13 := ⟨_, rfl⟩
        have q_48 : 0 ≤ v_47.toInt ∧ v_47.toInt ≤ 120 := by rw [ev_47]; exact hI 0 13
        have q_49 : (f_40 0 13).toInt = v_47.toInt := (congrArg Int32.toInt (show f_40 0 13 = v_47 from ev_47.symm))
        obtain ⟨v_50, ev_50⟩ : ∃ z : Int32, z = f_40 0 16 := ⟨_, rfl⟩
        have q_51 : 0 ≤ v_50.toInt ∧ v_50.toInt ≤ 6 := by rw [ev_50]; exact hI 0 16
        have q_52 : (f_40 0 16).toInt = v_50.toInt := (congrArg Int32.toInt (show f_40 0 16 = v_50 from ev_50.symm))
        obtain ⟨v_53, ev_53⟩ : ∃ z : Int32, z = f_40 0 15 := ⟨_, rfl⟩
        have q_54 : (-1) ≤ v_53.toInt ∧ v_53.toInt ≤ 120 := by rw [ev_53]; exact hI 0 15
        have q_55 : (f_40 0 15).toInt = v_53.toInt := (congrArg Int32.toInt (show f_40 0 15 = v_53 from ev_53.symm))
        have q_56 : (f_40 0 16).toInt = v_50.toInt := (congrArg Int32.toInt (show f_40 0 16 = v_50 from ev_50.symm))
        refine lv_istore_n (lv' := [(2, .int r_43), (0, .ref (h 0)), (1, .int y1_5)]) hx hb dX12_either_18 rfl hl (by decide) rfl (fun ls hl => ?_)
        refine lv_iload_n hx hb dX12_either_19 rfl (lv_at hl 2 rfl) ?_
        refine lv_if_ne (tgt := 27) hx hb dX12_either_20 (by decide) (fun c => ?_) (fun c => ?_)
        · skip
          have c_57 : y1_5.toInt ≠ 0 := (by have z := bn_ne c; have k1 : (0 : Int32).toInt = 0 := (by decide); omega)
          refine lv_iconst (v := 1) hx hb dX12_either_27 (by decide) ?_
          refine lv_goto (tgt := 32) hx hb dX12_either_28 (by decide) ?_
          refine lv_istore_n (lv' := [(1, .int 1), (2, .int r_43), (0, .ref (h 0))]) hx hb dX12_either_32 rfl hl (by decide) rfl (fun ls hl => ?_)
          refine lv_goto (tgt := 5) hx hb dX12_either_33 (by decide) ?_
          exact ih_5 1 f_40 _ _ _ (by have kc0 : (1 : Int32).toInt = 1 := (by decide); have zz0_13 : (f_40 0 13).toInt = v_47.toInt := (congrArg Int32.toInt (show f_40 0 13 = v_47 from ev_47.symm)); omega) (by have kc0 : (1 : Int32).toInt = 1 := (by decide); have zz0_13 : (f_40 0 13).toInt = v_47.toInt := (congrArg Int32.toInt (show f_40 0 13 = v_47 from ev_47.symm)); omega) (by have kc0 : (1 : Int32).toInt = 1 := (by decide); have zz0_16 : (f_40 0 16).toInt = v_50.toInt := (congrArg Int32.toInt (show f_40 0 16 = v_50 from ev_50.symm)); omega) (by have kc0 : (1 : Int32).toInt = 1 := (by decide); have zz0_15 : (f_40 0 15).toInt = v_53.toInt := (congrArg Int32.toInt (show f_40 0 15 = v_53 from ev_53.symm)); have zz0_16 : (f_40 0 16).toInt = v_50.toInt := (congrArg Int32.toInt (show f_40 0 16 = v_50 from ev_50.symm)); omega) hI hF hP hS (lv_sub hl [2, 0] rfl)
        · skip
          have c_58 : y1_5.toInt = 0 := (by have z := Int32.toInt_inj.mpr c; have k1 : (0 : Int32).toInt = 0 := (by decide); omega)
          refine lv_iload_n hx hb dX12_either_23 rfl (lv_at hl 0 rfl) ?_
          refine lv_if_eq (tgt := 31) hx hb dX12_either_24 (by decide) (fun c => ?_) (fun c => ?_)
          · skip
            have c_59 : r_43.toInt = 0 := (by have z := Int32.toInt_inj.mpr c; have k1 : (0 : Int32).toInt = 0 := (by decide); omega)
            refine lv_iconst (v := 0) hx hb dX12_either_31 (by decide) ?_
            refine lv_istore_n (lv' := [(1, .int 0), (2, .int r_43), (0, .ref (h 0))]) hx hb dX12_either_32 rfl hl (by decide) rfl (fun ls hl => ?_)
            refine lv_goto (tgt := 5) hx hb dX12_either_33 (by decide) ?_
            exact ih_5 0 f_40 _ _ _ (by have kc0 : (0 : Int32).toInt = 0 := (by decide); have zz0_13 : (f_40 0 13).toInt = v_47.toInt := (congrArg Int32.toInt (show f_40 0 13 = v_47 from ev_47.symm)); omega) (by have kc0 : (0 : Int32).toInt = 0 := (by decide); have zz0_13 : (f_40 0 13).toInt = v_47.toInt := (congrArg Int32.toInt (show f_40 0 13 = v_47 from ev_47.symm)); omega) (by have kc0 : (0 : Int32).toInt = 0 := (by decide); have zz0_16 : (f_40 0 16).toInt = v_50.toInt := (congrArg Int32.toInt (show f_40 0 16 = v_50 from ev_50.symm)); omega) (by have kc0 : (0 : Int32).toInt = 0 := (by decide); have zz0_15 : (f_40 0 15).toInt = v_53.toInt := (congrArg Int32.toInt (show f_40 0 15 = v_53 from ev_53.symm)); have zz0_16 : (f_40 0 16).toInt = v_50.toInt := (congrArg Int32.toInt (show f_40 0 16 = v_50 from ev_50.symm)); omega) hI hF hP hS (lv_sub hl [2, 0] rfl)
          · skip
            have c_60 : r_43.toInt ≠ 0 := (by have z := bn_ne c; have k1 : (0 : Int32).toInt = 0 := (by decide); omega)
            refine lv_iconst (v := 1) hx hb dX12_either_27 (by decide) ?_
            refine lv_goto (tgt := 32) hx hb dX12_either_28 (by decide) ?_
            refine lv_istore_n (lv' := [(1, .int 1), (2, .int r_43), (0, .ref (h 0))]) hx hb dX12_either_32 rfl hl (by decide) rfl (fun ls hl => ?_)
            refine lv_goto (tgt := 5) hx hb dX12_either_33 (by decide) ?_
            exact ih_5 1 f_40 _ _ _ (by have kc0 : (1 : Int32).toInt = 1 := (by decide); have zz0_13 : (f_40 0 13).toInt = v_47.toInt := (congrArg Int32.toInt (show f_40 0 13 = v_47 from ev_47.symm)); omega) (by have kc0 : (1 : Int32).toInt = 1 := (by decide); have zz0_13 : (f_40 0 13).toInt = v_47.toInt := (congrArg Int32.toInt (show f_40 0 13 = v_47 from ev_47.symm)); omega) (by have kc0 : (1 : Int32).toInt = 1 := (by decide); have zz0_16 : (f_40 0 16).toInt = v_50.toInt := (congrArg Int32.toInt (show f_40 0 16 = v_50 from ev_50.symm)); omega) (by have kc0 : (1 : Int32).toInt = 1 := (by decide); have zz0_15 : (f_40 0 15).toInt = v_53.toInt := (congrArg Int32.toInt (show f_40 0 15 = v_53 from ev_53.symm)); have zz0_16 : (f_40 0 16).toInt = v_50.toInt := (congrArg Int32.toInt (show f_40 0 16 = v_50 from ev_50.symm)); omega) hI hF hP hS (lv_sub hl [2, 0] rfl)
      · skip
        have q_61 := hq
        refine lv_if_eq (tgt := 36) hx hb dX12_either_11 (by decide) (fun c => ?_) (fun c => absurd c (by decide))
        refine lv_iload_n hx hb dX12_either_36 rfl (lv_at hl 1 rfl) ?_
        have q_62 : (f_26 0 13).toInt = v_30.toInt := (congrArg Int32.toInt (show f_26 0 13 = v_30 from ev_30.symm))
        have q_63 : (f_26 0 16).toInt = v_13.toInt := (congrArg Int32.toInt (show f_26 0 16 = v_13 from ((hk_f_26 0 16 (by decide)).trans ev_13.symm)))
        have q_64 : (f_26 0 15).toInt = v_16.toInt := (congrArg Int32.toInt (show f_26 0 15 = v_16 from ((hk_f_26 0 15 (by decide)).trans ev_16.symm)))
        have q_65 : (f_26 0 16).toInt = v_13.toInt := (congrArg Int32.toInt (show f_26 0 16 = v_13 from ((hk_f_26 0 16 (by decide)).trans ev_13.symm)))
        exact hret _ _ _ _ (y1_5) f_26 L Q dX12_either_37 hP hS ⟨⟨hI, hF, rfl, rfl⟩, trivial, (by omega), (by omega), (by omega)⟩
  refine lv_aload_n hx hb dX12_either_0 rfl (lv_at hl 0 rfl) ?_
  have q_66 : (f 0 16).toInt = v_1.toInt := (congrArg Int32.toInt (show f 0 16 = v_1 from ev_1.symm))
  have q_67 : (f 0 15).toInt = v_3.toInt := (congrArg Int32.toInt (show f 0 15 = v_3 from ev_3.symm))
  have q_68 : (f 0 16).toInt = v_1.toInt := (congrArg Int32.toInt (show f 0 16 = v_1 from ev_1.symm))
  have q_69 : (f 0 13).toInt = v_5.toInt := (congrArg Int32.toInt (show f 0 13 = v_5 from ev_5.symm))
  refine sg_calli (va_runV (As := []) (rest := []) ⟨hx, hb, hml, hown, hts⟩ (kX12_both_3 l D ca za h hh f L Q hI (by omega) (by omega) H.size) (cwV 0 hts (gw_V (fun _ h => List.mem_cons_of_mem _ h) mw_881 mw_882 mw_883 mw_619 mw_880) rfl rfl rfl (by decide +kernel) ⟨Nat.le_of_ble_eq_true rfl, Nat.le_of_ble_eq_true rfl⟩) (sg_preV (ci := 12) (C := RX12) (T := TX12) (N := 55) hA hK hP hS hZ 0 (by decide) rfl rfl) rfl rfl hl.1 rfl (lv_room (Nat.le_of_ble_eq_true rfl)) dX12_either_1 ⟨Nat.le_refl _, Nat.le_refl _⟩) hA hS (fun r_73 f_70 L_71 Q_72 H locs hq hP hS => ?_)
  obtain ⟨⟨hI, hk_f_70, eL9, eQ9⟩, hq, p_74, p_75, p_76⟩ := hq
  rw [eL9, eQ9] at hP; clear eL9 eQ9
  have hF : sgK WkX12_either_3 f f_70 := sgK.tr hF hk_f_70 (by decide)
  obtain ⟨v_77, ev_77⟩ : ∃ z : Int32, z = f_70 0 13 := ⟨_, rfl⟩
  have q_78 : 0 ≤ v_77.toInt ∧ v_77.toInt ≤ 120 := by rw [ev_77]; exact hI 0 13
  have q_79 : (f_70 0 13).toInt = v_77.toInt := (congrArg Int32.toInt (show f_70 0 13 = v_77 from ev_77.symm))
  obtain ⟨v_80, ev_80⟩ : ∃ z : Int32, z = f_70 0 16 := ⟨_, rfl⟩
  have q_81 : 0 ≤ v_80.toInt ∧ v_80.toInt ≤ 6 := by rw [ev_80]; exact hI 0 16
  have q_82 : (f_70 0 16).toInt = v_80.toInt := (congrArg Int32.toInt (show f_70 0 16 = v_80 from ev_80.symm))
  obtain ⟨v_83, ev_83⟩ : ∃ z : Int32, z = f_70 0 15 := ⟨_, rfl⟩
  have q_84 : (-1) ≤ v_83.toInt ∧ v_83.toInt ≤ 120 := by rw [ev_83]; exact hI 0 15
  have q_85 : (f_70 0 15).toInt = v_83.toInt := (congrArg Int32.toInt (show f_70 0 15 = v_83 from ev_83.symm))
  have q_86 : (f_70 0 16).toInt = v_80.toInt := (congrArg Int32.toInt (show f_70 0 16 = v_80 from ev_80.symm))
  refine lv_istore_n (lv' := [(1, .int r_73), (0, .ref (h 0))]) hx hb dX12_either_4 rfl hl (by decide) rfl (fun ls hl => ?_)
  exact loop_5 121 r_73 f_70 _ _ _ (by have zz0_13 : (f_70 0 13).toInt = v_77.toInt := (congrArg Int32.toInt (show f_70 0 13 = v_77 from ev_77.symm)); omega) (by have zz0_13 : (f_70 0 13).toInt = v_77.toInt := (congrArg Int32.toInt (show f_70 0 13 = v_77 from ev_77.symm)); omega) (by have zz0_16 : (f_70 0 16).toInt = v_80.toInt := (congrArg Int32.toInt (show f_70 0 16 = v_80 from ev_80.symm)); omega) (by have zz0_15 : (f_70 0 15).toInt = v_83.toInt := (congrArg Int32.toInt (show f_70 0 15 = v_83 from ev_83.symm)); have zz0_16 : (f_70 0 16).toInt = v_80.toInt := (congrArg Int32.toInt (show f_70 0 16 = v_80 from ev_80.symm)); omega) hI hF hP hS (lv_sub hl [1, 0] rfl)

abbrev WkX12_one_2 : List (Nat × Nat × Option Nat) := [(0, 0, some 13), (0, 0, some 15), (0, 0, some 16)]
set_option maxHeartbeats 4000000 in
set_option maxRecDepth 100000 in
theorem kX12_one_2 (l : Launch) (D : va_G) (ca : Nat → ClassId) (za h : Nat → Nat) (hh : sgH 26 h) (f : sg_F) (L : sg_L) (Q : sg_Q) (hI : sgI loM hiM f) (p0 : 2 ≤ (f 0 16).toInt) (p1 : 0 ≤ (f 0 15).toInt ∨ (f 0 16).toInt = 2) (sz : Nat) : Met l yX12_one gwX12_one { frames := 25, cells := 0, slots := 0, locals := 568 } (sgP D vwCl (tyX ca) 26 h (eM ca h) zcM za f L Q sz [.ref (h 0)]) (sgQi D vwCl 26 h (eM ca h) sz (fun r f1 L1 Q1 => ((sgI loM hiM f1 ∧ sgK WkX12_one_2 f f1 ∧ L1 = L ∧ Q1 = Q) ∧ True ∧ ((f 0 13).toInt ≤ (f1 0 13).toInt) ∧ (2 ≤ (f1 0 16).toInt) ∧ (0 ≤ (f1 0 15).toInt ∨ (f1 0 16).toInt = 2)))) 0 0 (sgA 26 h sz) := by
  refine sg_ofWi (cc := cX12_one) (maxL := 5) RX12 (by decide) rfl rfl (Nat.le_of_ble_eq_true rfl) ?_
  intro p e s m below meth cd Qz ls hx hb hml hown hts hK hZ hP hS hl hret
  have hA := sgY.self (n := 26) (h := h) (sz := s.heap.size)
  have hl : lv_has ls 5 [(0, .ref (h 0))] := hl
  obtain ⟨H, hH⟩ : ∃ z : Heap, z = s.heap := ⟨_, rfl⟩
  obtain ⟨locs, hlo⟩ : ∃ z : List Loc, z = [] := ⟨_, rfl⟩
  have hP : va_P D vwCl (sgw 26 h (eM ca h) f L Q) H := by rw [hH]; exact hP
  have hS : va_S (sgA 26 h s.heap.size) s.heap H locs := by rw [hH, hlo]; exact hS
  suffices hgo : W p l e ({ frames := 25, cells := 0, slots := 0, locals := 568 }) s m ([.ref (h 0)] : List Value).toArray below meth cd H locs 0 0 Qz (F0 m 0 ls []) by rw [hH, hlo] at hgo; exact hgo
  clear hH hlo
  obtain ⟨v_1, ev_1⟩ : ∃ z : Int32, z = f 0 16 := ⟨_, rfl⟩
  have q_2 : 0 ≤ v_1.toInt ∧ v_1.toInt ≤ 6 := by rw [ev_1]; exact hI 0 16
  obtain ⟨v_3, ev_3⟩ : ∃ z : Int32, z = f 0 15 := ⟨_, rfl⟩
  have q_4 : (-1) ≤ v_3.toInt ∧ v_3.toInt ≤ 120 := by rw [ev_3]; exact hI 0 15
  obtain ⟨v_5, ev_5⟩ : ∃ z : Int32, z = f 0 13 := ⟨_, rfl⟩
  have q_6 : 0 ≤ v_5.toInt ∧ v_5.toInt ≤ 120 := by rw [ev_5]; exact hI 0 13
  have o_7 : (f 0 16).toInt = v_1.toInt := (congrArg Int32.toInt (show f 0 16 = v_1 from ev_1.symm))
  have o_8 : (f 0 15).toInt = v_3.toInt := (congrArg Int32.toInt (show f 0 15 = v_3 from ev_3.symm))
  have o_9 : (f 0 13).toInt = v_5.toInt := (congrArg Int32.toInt (show f 0 13 = v_5 from ev_5.symm))
  have hF : sgK WkX12_one_2 f f := sgK.rf
  have blk_229 : ∀ (y3_229 : Int32) (y4_229 : Int32) (fp_229 : sg_F) (H : Heap) (locs : List Loc) (ls : Array Slot), (-1) ≤ (fp_229 0 15).toInt ∧ (fp_229 0 15).toInt ≤ (-1) → 0 ≤ y4_229.toInt ∧ y4_229.toInt ≤ 4 → (f 0 13).toInt ≤ (fp_229 0 13).toInt → 2 ≤ (fp_229 0 16).toInt → 0 ≤ (fp_229 0 15).toInt ∨ (fp_229 0 16).toInt = 2 → sgI loM hiM fp_229 → sgK WkX12_one_2 f fp_229 → va_P D vwCl (sgw 26 h (eM ca h) fp_229 L Q) H → va_S (sgA 26 h s.heap.size) s.heap H locs → lv_has ls 5 [(0, .ref (h 0)), (3, .int y3_229), (4, .int y4_229)] → W p l e ({ frames := 25, cells := 0, slots := 0, locals := 568 }) s m ([.ref (h 0)] : List Value).toArray below meth cd H locs 0 0 Qz (F0 m 229 ls []) := by
    intro y3_229 y4_229 fp_229 H locs ls hy0_229 hy1_229 hg0_229 hg1_229 hg2_229 hI hF hP hS hl
    obtain ⟨v_10, ev_10⟩ : ∃ z : Int32, z = fp_229 0 15 := ⟨_, rfl⟩
    have q_11 : (-1) ≤ v_10.toInt ∧ v_10.toInt ≤ 120 := by rw [ev_10]; exact hI 0 15
    have q_12 : (fp_229 0 15).toInt = v_10.toInt := by rw [ev_10]
    obtain ⟨v_13, ev_13⟩ : ∃ z : Int32, z = fp_229 0 13 := ⟨_, rfl⟩
    have q_14 : 0 ≤ v_13.toInt ∧ v_13.toInt ≤ 120 := by rw [ev_13]; exact hI 0 13
    have q_15 : (fp_229 0 13).toInt = v_13.toInt := by rw [ev_13]
    obtain ⟨v_16, ev_16⟩ : ∃ z : Int32, z = fp_229 0 16 := ⟨_, rfl⟩
    have q_17 : 0 ≤ v_16.toInt ∧ v_16.toInt ≤ 6 := by rw [ev_16]; exact hI 0 16
    have q_18 : (fp_229 0 16).toInt = v_16.toInt := by rw [ev_16]
    refine lv_iload hx hb dX12_one_229 (lv_at hl 2 rfl) ?_
    refine lv_if_ne (tgt := 241) hx hb dX12_one_231 (by decide) (fun c => ?_) (fun c => ?_)
    · skip
      have c_19 : y4_229.toInt ≠ 0 := (by have z := bn_ne c; have k1 : (0 : Int32).toInt = 0 := (by decide); omega)
      refine lv_iload_n hx hb dX12_one_241 rfl (lv_at hl 1 rfl) ?_
      have q_21 : (fp_229 0 13).toInt = v_13.toInt := (congrArg Int32.toInt (show fp_229 0 13 = v_13 from ev_13.symm))
      have q_22 : (fp_229 0 16).toInt = v_16.toInt := (congrArg Int32.toInt (show fp_229 0 16 = v_16 from ev_16.symm))
      have q_23 : (fp_229 0 15).toInt = v_10.toInt := (congrArg Int32.toInt (show fp_229 0 15 = v_10 from ev_10.symm))
      have q_24 : (fp_229 0 16).toInt = v_16.toInt := (congrArg Int32.toInt (show fp_229 0 16 = v_16 from ev_16.symm))
      exact hret _ _ _ _ (y3_229) fp_229 L Q dX12_one_242 hP hS ⟨⟨hI, hF, rfl, rfl⟩, trivial, (by omega), (by omega), (by omega)⟩
    · skip
      have c_20 : y4_229.toInt = 0 := (by have z := Int32.toInt_inj.mpr c; have k1 : (0 : Int32).toInt = 0 := (by decide); omega)
      refine lv_aload_n hx hb dX12_one_234 rfl (lv_at hl 0 rfl) ?_
      refine sg_calli (va_runV (As := []) (rest := []) ⟨hx, hb, hml, hown, hts⟩ (kX12_wrong l D ca za h hh fp_229 L Q hI H.size) (cwV 0 hts (gw_V (fun _ h => List.mem_cons_of_mem _ h) mw_889 mw_890 mw_891 mw_619 mw_888) rfl rfl rfl (by decide +kernel) ⟨Nat.le_of_ble_eq_true rfl, Nat.le_of_ble_eq_true rfl⟩) (sg_preV (ci := 12) (C := RX12) (T := TX12) (N := 55) hA hK hP hS hZ 0 (by decide) rfl rfl) rfl rfl hl.1 rfl (lv_room (Nat.le_of_ble_eq_true rfl)) dX12_one_235 ⟨Nat.le_refl _, Nat.le_refl _⟩) hA hS (fun r_28 f_25 L_26 Q_27 H locs hq hP hS => ?_)
      obtain ⟨⟨hI, hk_f_25, eL9, eQ9⟩, hq, p_29⟩ := hq
      rw [eL9, eQ9] at hP; clear eL9 eQ9
      have hF : sgK WkX12_one_2 f f_25 := sgK.tr hF hk_f_25 (by decide)
      obtain ⟨v_30, ev_30⟩ : ∃ z : Int32, z = f_25 0 15 := ⟨_, rfl⟩
      have q_31 : (-1) ≤ v_30.toInt ∧ v_30.toInt ≤ 120 := by rw [ev_30]; exact hI 0 15
      have q_32 : (f_25 0 15).toInt = v_30.toInt := (congrArg Int32.toInt (show f_25 0 15 = v_30 from ev_30.symm))
      obtain rfl : r_28 = 0 := Int32.toInt_inj.mp (by have k9 : (0 : Int32).toInt = 0 := (by decide); omega)
      refine lv_goto (tgt := 242) hx hb dX12_one_238 (by decide) ?_
      have q_33 : (f_25 0 13).toInt = v_13.toInt := (congrArg Int32.toInt (show f_25 0 13 = v_13 from ((hk_f_25 0 13 (by decide)).trans ev_13.symm)))
      have q_34 : (f_25 0 16).toInt = v_16.toInt := (congrArg Int32.toInt (show f_25 0 16 = v_16 from ((hk_f_25 0 16 (by decide)).trans ev_16.symm)))
      have q_35 : (f_25 0 15).toInt = v_30.toInt := (congrArg Int32.toInt (show f_25 0 15 = v_30 from ev_30.symm))
      have q_36 : (f_25 0 16).toInt = v_16.toInt := (congrArg Int32.toInt (show f_25 0 16 = v_16 from ((hk_f_25 0 16 (by decide)).trans ev_16.symm)))
      have k99 : (0 : Int32).toInt = 0 := (by decide)
      exact hret _ _ _ _ (0) f_25 L Q dX12_one_242 hP hS ⟨⟨hI, hF, rfl, rfl⟩, trivial, (by omega), (by omega), (by omega)⟩
  have loop_176 : ∀ (n_176 : Nat) (y3_176 : Int32) (y4_176 : Int32) (fp_176 : sg_F) (H : Heap) (locs : List Loc) (ls : Array Slot), 4 - y4_176.toInt < (n_176 : Int) → (-1) ≤ (fp_176 0 15).toInt ∧ (fp_176 0 15).toInt ≤ (-1) → 0 ≤ y4_176.toInt ∧ y4_176.toInt ≤ 4 → (f 0 13).toInt ≤ (fp_176 0 13).toInt → 2 ≤ (fp_176 0 16).toInt → 0 ≤ (fp_176 0 15).toInt ∨ (fp_176 0 16).toInt = 2 → sgI loM hiM fp_176 → sgK WkX12_one_2 f fp_176 → va_P D vwCl (sgw 26 h (eM ca h) fp_176 L Q) H → va_S (sgA 26 h s.heap.size) s.heap H locs → lv_has ls 5 [(0, .ref (h 0)), (3, .int y3_176), (4, .int y4_176)] → W p l e ({ frames := 25, cells := 0, slots := 0, locals := 568 }) s m ([.ref (h 0)] : List Value).toArray below meth cd H locs 0 0 Qz (F0 m 176 ls []) := by
    intro n_176
    induction n_176 with
    | zero => intro y3_176 y4_176 fp_176 H locs ls hm_176 hy0_176 hy1_176 hg0_176 hg1_176 hg2_176 hI hF hP hS hl; exact absurd hm_176 (by omega)
    | succ n_176 ih_176 =>
      intro y3_176 y4_176 fp_176 H locs ls hm_176 hy0_176 hy1_176 hg0_176 hg1_176 hg2_176 hI hF hP hS hl
      obtain ⟨v_37, ev_37⟩ : ∃ z : Int32, z = fp_176 0 15 := ⟨_, rfl⟩
      have q_38 : (-1) ≤ v_37.toInt ∧ v_37.toInt ≤ 120 := by rw [ev_37]; exact hI 0 15
      have q_39 : (fp_176 0 15).toInt = v_37.toInt := by rw [ev_37]
      obtain ⟨v_40, ev_40⟩ : ∃ z : Int32, z = fp_176 0 13 := ⟨_, rfl⟩
      have q_41 : 0 ≤ v_40.toInt ∧ v_40.toInt ≤ 120 := by rw [ev_40]; exact hI 0 13
      have q_42 : (fp_176 0 13).toInt = v_40.toInt := by rw [ev_40]
      obtain ⟨v_43, ev_43⟩ : ∃ z : Int32, z = fp_176 0 16 := ⟨_, rfl⟩
      have q_44 : 0 ≤ v_43.toInt ∧ v_43.toInt ≤ 6 := by rw [ev_43]; exact hI 0 16
      have q_45 : (fp_176 0 16).toInt = v_43.toInt := by rw [ev_43]
      refine lv_iload hx hb dX12_one_176 (lv_at hl 2 rfl) ?_
      refine lv_iconst (v := 4) hx hb dX12_one_178 (by decide) ?_
      refine lv_icmp_ge (tgt := 229) hx hb dX12_one_179 (by decide) (fun c => ?_) (fun c => ?_)
      · skip
        have c_46 : 4 ≤ y4_176.toInt := (by have z := bn_le c; have k1 : (4 : Int32).toInt = 4 := (by decide); omega)
        exact blk_229 y3_176 y4_176 fp_176 _ _ _ (by have zz0_15 : (fp_176 0 15).toInt = v_37.toInt := (congrArg Int32.toInt (show fp_176 0 15 = v_37 from ev_37.symm)); omega) (by omega) (by have zz0_13 : (fp_176 0 13).toInt = v_40.toInt := (congrArg Int32.toInt (show fp_176 0 13 = v_40 from ev_40.symm)); omega) (by have zz0_16 : (fp_176 0 16).toInt = v_43.toInt := (congrArg Int32.toInt (show fp_176 0 16 = v_43 from ev_43.symm)); omega) (by have zz0_15 : (fp_176 0 15).toInt = v_37.toInt := (congrArg Int32.toInt (show fp_176 0 15 = v_37 from ev_37.symm)); have zz0_16 : (fp_176 0 16).toInt = v_43.toInt := (congrArg Int32.toInt (show fp_176 0 16 = v_43 from ev_43.symm)); omega) hI hF hP hS (lv_sub hl [0, 1, 2] rfl)
      · skip
        have c_47 : y4_176.toInt < 4 := (by have z := bn_nle c; have k1 : (4 : Int32).toInt = 4 := (by decide); omega)
        refine lv_aload_n hx hb dX12_one_182 rfl (lv_at hl 0 rfl) ?_
        have q_48 : (fp_176 0 13).toInt = v_40.toInt := (congrArg Int32.toInt (show fp_176 0 13 = v_40 from ev_40.symm))
        obtain ⟨v_49, ev_49⟩ : ∃ z : Int32, z = fp_176 0 14 := ⟨_, rfl⟩
        have q_50 : 0 ≤ v_49.toInt ∧ v_49.toInt ≤ 120 := by rw [ev_49]; exact hI 0 14
        have q_51 : (fp_176 0 14).toInt = v_49.toInt := (congrArg Int32.toInt (show fp_176 0 14 = v_49 from ev_49.symm))
        refine sg_calli (va_runV (As := []) (rest := []) ⟨hx, hb, hml, hown, hts⟩ (kX12_byteAt l D ca za h hh fp_176 L Q hI H.size) (cwV 0 hts (gw_V (fun _ h => List.mem_cons_of_mem _ h) mw_840 mw_841 mw_842 mw_619 mw_839) rfl rfl rfl (by decide +kernel) ⟨Nat.le_of_ble_eq_true rfl, Nat.le_of_ble_eq_true rfl⟩) (sg_preV (ci := 12) (C := RX12) (T := TX12) (N := 55) hA hK hP hS hZ 0 (by decide) rfl rfl) rfl rfl hl.1 rfl (lv_room (Nat.le_of_ble_eq_true rfl)) dX12_one_183 ⟨Nat.le_refl _, Nat.le_refl _⟩) hA hS (fun r_55 f_52 L_53 Q_54 H locs hq hP hS => ?_)
        obtain ⟨⟨ef9, eL9, eQ9⟩, hq, p_56⟩ := hq
        rw [ef9, eL9, eQ9] at hP; clear ef9 eL9 eQ9
        refine lv_bipush (v := 48) hx hb dX12_one_186 (by decide) ?_
        refine lv_icmp_lt (tgt := 229) hx hb dX12_one_188 (by decide) (fun c => ?_) (fun c => ?_)
        · skip
          have c_57 : r_55.toInt < 48 := (by have z := bn_lt c; have k1 : (48 : Int32).toInt = 48 := (by decide); omega)
          exact blk_229 y3_176 y4_176 fp_176 _ _ _ (by have zz0_15 : (fp_176 0 15).toInt = v_37.toInt := (congrArg Int32.toInt (show fp_176 0 15 = v_37 from ev_37.symm)); omega) (by omega) (by have zz0_13 : (fp_176 0 13).toInt = v_40.toInt := (congrArg Int32.toInt (show fp_176 0 13 = v_40 from ev_40.symm)); omega) (by have zz0_16 : (fp_176 0 16).toInt = v_43.toInt := (congrArg Int32.toInt (show fp_176 0 16 = v_43 from ev_43.symm)); omega) (by have zz0_15 : (fp_176 0 15).toInt = v_37.toInt := (congrArg Int32.toInt (show fp_176 0 15 = v_37 from ev_37.symm)); have zz0_16 : (fp_176 0 16).toInt = v_43.toInt := (congrArg Int32.toInt (show fp_176 0 16 = v_43 from ev_43.symm)); omega) hI hF hP hS (lv_sub hl [0, 1, 2] rfl)
        · skip
          have c_58 : 48 ≤ r_55.toInt := (by have z := bn_nlt c; have k1 : (48 : Int32).toInt = 48 := (by decide); omega)
          refine lv_aload_n hx hb dX12_one_191 rfl (lv_at hl 0 rfl) ?_
          have q_59 : (fp_176 0 13).toInt = v_40.toInt := (congrArg Int32.toInt (show fp_176 0 13 = v_40 from ev_40.symm))
          have q_60 : (fp_176 0 14).toInt = v_49.toInt := (congrArg Int32.toInt (show fp_176 0 14 = v_49 from ev_49.symm))
          refine sg_calli (va_runV (As := []) (rest := []) ⟨hx, hb, hml, hown, hts⟩ (kX12_byteAt l D ca za h hh fp_176 L Q hI H.size) (cwV 0 hts (gw_V (fun _ h => List.mem_cons_of_mem _ h) mw_840 mw_841 mw_842 mw_619 mw_839) rfl rfl rfl (by decide +kernel) ⟨Nat.le_of_ble_eq_true rfl, Nat.le_of_ble_eq_true rfl⟩) (sg_preV (ci := 12) (C := RX12) (T := TX12) (N := 55) hA hK hP hS hZ 0 (by decide) rfl rfl) rfl rfl hl.1 rfl (lv_room (Nat.le_of_ble_eq_true rfl)) dX12_one_192 ⟨Nat.le_refl _, Nat.le_refl _⟩) hA hS (fun r_64 f_61 L_62 Q_63 H locs hq hP hS => ?_)
          obtain ⟨⟨ef9, eL9, eQ9⟩, hq, p_65⟩ := hq
          rw [ef9, eL9, eQ9] at hP; clear ef9 eL9 eQ9
          refine lv_bipush (v := 57) hx hb dX12_one_195 (by decide) ?_
          refine lv_icmp_gt (tgt := 229) hx hb dX12_one_197 (by decide) (fun c => ?_) (fun c => ?_)
          · skip
            have c_66 : 57 < r_64.toInt := (by have z := bn_lt c; have k1 : (57 : Int32).toInt = 57 := (by decide); omega)
            exact blk_229 y3_176 y4_176 fp_176 _ _ _ (by have zz0_15 : (fp_176 0 15).toInt = v_37.toInt := (congrArg Int32.toInt (show fp_176 0 15 = v_37 from ev_37.symm)); omega) (by omega) (by have zz0_13 : (fp_176 0 13).toInt = v_40.toInt := (congrArg Int32.toInt (show fp_176 0 13 = v_40 from ev_40.symm)); omega) (by have zz0_16 : (fp_176 0 16).toInt = v_43.toInt := (congrArg Int32.toInt (show fp_176 0 16 = v_43 from ev_43.symm)); omega) (by have zz0_15 : (fp_176 0 15).toInt = v_37.toInt := (congrArg Int32.toInt (show fp_176 0 15 = v_37 from ev_37.symm)); have zz0_16 : (fp_176 0 16).toInt = v_43.toInt := (congrArg Int32.toInt (show fp_176 0 16 = v_43 from ev_43.symm)); omega) hI hF hP hS (lv_sub hl [0, 1, 2] rfl)
          · skip
            have c_67 : r_64.toInt ≤ 57 := (by have z := bn_nlt c; have k1 : (57 : Int32).toInt = 57 := (by decide); omega)
            refine lv_bipush (v := 10) hx hb dX12_one_200 (by decide) ?_
            refine lv_iload_n hx hb dX12_one_202 rfl (lv_at hl 1 rfl) ?_
            refine lv_imul hx hb dX12_one_203 ?_
            refine lv_topi (fun v_68 ev_68 => ?_)
            refine lv_aload_n hx hb dX12_one_204 rfl (lv_at hl 0 rfl) ?_
            have q_69 : (fp_176 0 13).toInt = v_40.toInt := (congrArg Int32.toInt (show fp_176 0 13 = v_40 from ev_40.symm))
            have q_70 : (fp_176 0 14).toInt = v_49.toInt := (congrArg Int32.toInt (show fp_176 0 14 = v_49 from ev_49.symm))
            refine sg_calli (va_runV (As := []) (rest := [.int v_68]) ⟨hx, hb, hml, hown, hts⟩ (kX12_byteAt l D ca za h hh fp_176 L Q hI H.size) (cwV 0 hts (gw_V (fun _ h => List.mem_cons_of_mem _ h) mw_840 mw_841 mw_842 mw_619 mw_839) rfl rfl rfl (by decide +kernel) ⟨Nat.le_of_ble_eq_true rfl, Nat.le_of_ble_eq_true rfl⟩) (sg_preV (ci := 12) (C := RX12) (T := TX12) (N := 55) hA hK hP hS hZ 0 (by decide) rfl rfl) rfl rfl hl.1 rfl (lv_room (Nat.le_of_ble_eq_true rfl)) dX12_one_205 ⟨Nat.le_refl _, Nat.le_refl _⟩) hA hS (fun r_74 f_71 L_72 Q_73 H locs hq hP hS => ?_)
            obtain ⟨⟨ef9, eL9, eQ9⟩, hq, p_75⟩ := hq
            rw [ef9, eL9, eQ9] at hP; clear ef9 eL9 eQ9
            refine lv_iadd hx hb dX12_one_208 ?_
            refine lv_topi (fun v_76 ev_76 => ?_)
            refine lv_bipush (v := 48) hx hb dX12_one_209 (by decide) ?_
            refine lv_isub hx hb dX12_one_211 ?_
            refine lv_topi (fun v_77 ev_77 => ?_)
            refine lv_istore_n (lv' := [(3, .int v_77), (0, .ref (h 0)), (4, .int y4_176)]) hx hb dX12_one_212 rfl hl (by decide) rfl (fun ls hl => ?_)
            obtain ⟨v_78, ev_78⟩ : ∃ z : Int32, z = y4_176 + 1 := ⟨_, rfl⟩
            have q_79 : v_78.toInt = y4_176.toInt + 1 := by rw [ev_78]; exact (bn_addc y4_176 1 (by decide) (by omega) (by omega))
            refine lv_iinc (v := v_78) (lv' := [(4, .int v_78), (3, .int v_77), (0, .ref (h 0))]) hx hb dX12_one_213 hl (k := 2) rfl (by rw [ev_78]; rfl) (by decide) rfl (fun ls hl => ?_)
            refine lv_aload_n hx hb dX12_one_216 rfl (lv_at hl 2 rfl) ?_
            refine lv_dup hx hb dX12_one_217 rfl ?_
            refine sg_get (ci := 12) (v := .int v_40) (C := RX12) (T := TX12) (N := 55) hx hb hts (fun w h => List.mem_cons_of_mem _ (gx_12 w h)) hown hK hP 0 (by decide) rfl rfl 13 (by decide) (hts _ (List.mem_cons_of_mem _ mw_625)) (fun _ h9 => h9) (congrArg (fun z => some (Value.int z)) (show fp_176 0 13 = v_40 from ev_40.symm)) dX12_one_218 ?_
            refine lv_iconst (v := 1) hx hb dX12_one_221 (by decide) ?_
            refine lv_iadd hx hb dX12_one_222 ?_
            refine lv_topi (fun v_80 ev_80 => ?_)
            have q_81 : v_80.toInt = v_40.toInt + 1 := by rw [ev_80]; have k1 : (1 : Int32).toInt = 1 := (by decide); exact (bn_addI (by omega) (by omega)).trans (by omega)
            refine sg_put (ci := 12) (x := v_80) (ty := .int) (C := RX12) (T := TX12) (N := 55) hx hb hts (fun w h => List.mem_cons_of_mem _ (gx_12 w h)) tyX12 tyX12_ok nmX12 hown hh hA hK hP hS 0 (by decide) rfl rfl 13 (by decide) (hts _ (List.mem_cons_of_mem _ mw_625)) (fun _ h9 => h9) rfl rfl (by decide +kernel) rfl rfl (Nat.le_of_ble_eq_true rfl) dX12_one_223 (fun f_82 H locs ef_82 hP hS => ?_)
            have hI : sgI loM hiM f_82 := by rw [ef_82]; exact sgI.put hI 0 13 (show 0 ≤ (v_80 : Int32).toInt ∧ (v_80 : Int32).toInt ≤ 120 from by omega)
            have hF : sgK WkX12_one_2 f f_82 := sgK.put hF ef_82 (by rfl)
            refine lv_goto (tgt := 176) hx hb dX12_one_226 (by decide) ?_
            exact ih_176 v_77 v_78 f_82 _ _ _ (by omega) (by have zz0_15 : (f_82 0 15).toInt = v_37.toInt := (congrArg Int32.toInt (show f_82 0 15 = v_37 from (by rw [ef_82, sg_up_s, sgu_n (by decide)]; exact ev_37.symm))); omega) (by omega) (by have zz0_13 : (f_82 0 13).toInt = v_80.toInt := (congrArg Int32.toInt (show f_82 0 13 = v_80 from (by rw [ef_82, sg_up_s, sgu_s]))); omega) (by have zz0_16 : (f_82 0 16).toInt = v_43.toInt := (congrArg Int32.toInt (show f_82 0 16 = v_43 from (by rw [ef_82, sg_up_s, sgu_n (by decide)]; exact ev_43.symm))); omega) (by have zz0_15 : (f_82 0 15).toInt = v_37.toInt := (congrArg Int32.toInt (show f_82 0 15 = v_37 from (by rw [ef_82, sg_up_s, sgu_n (by decide)]; exact ev_37.symm))); have zz0_16 : (f_82 0 16).toInt = v_43.toInt := (congrArg Int32.toInt (show f_82 0 16 = v_43 from (by rw [ef_82, sg_up_s, sgu_n (by decide)]; exact ev_43.symm))); omega) hI hF hP hS (lv_sub hl [2, 1, 0] rfl)
  refine lv_aload_n hx hb dX12_one_0 rfl (lv_at hl 0 rfl) ?_
  refine sg_get (ci := 12) (v := .int v_3) (C := RX12) (T := TX12) (N := 55) hx hb hts (fun w h => List.mem_cons_of_mem _ (gx_12 w h)) hown hK hP 0 (by decide) rfl rfl 15 (by decide) (hts _ (List.mem_cons_of_mem _ mw_627)) (fun _ h9 => h9) (congrArg (fun z => some (Value.int z)) (show f 0 15 = v_3 from ev_3.symm)) dX12_one_1 ?_
  refine lv_if_lt (tgt := 9) hx hb dX12_one_4 (by decide) (fun c => ?_) (fun c => ?_)
  · skip
    have c_83 : v_3.toInt < 0 := (by have z := bn_lt c; have k1 : (0 : Int32).toInt = 0 := (by decide); omega)
    refine lv_aload_n hx hb dX12_one_9 rfl (lv_at hl 0 rfl) ?_
    have q_85 : (f 0 13).toInt = v_5.toInt := (congrArg Int32.toInt (show f 0 13 = v_5 from ev_5.symm))
    obtain ⟨v_86, ev_86⟩ : ∃ z : Int32, z = f 0 14 := ⟨_, rfl⟩
    have q_87 : 0 ≤ v_86.toInt ∧ v_86.toInt ≤ 120 := by rw [ev_86]; exact hI 0 14
    have q_88 : (f 0 14).toInt = v_86.toInt := (congrArg Int32.toInt (show f 0 14 = v_86 from ev_86.symm))
    refine sg_calli (va_runV (As := []) (rest := []) ⟨hx, hb, hml, hown, hts⟩ (kX12_byteAt l D ca za h hh f L Q hI H.size) (cwV 0 hts (gw_V (fun _ h => List.mem_cons_of_mem _ h) mw_840 mw_841 mw_842 mw_619 mw_839) rfl rfl rfl (by decide +kernel) ⟨Nat.le_of_ble_eq_true rfl, Nat.le_of_ble_eq_true rfl⟩) (sg_preV (ci := 12) (C := RX12) (T := TX12) (N := 55) hA hK hP hS hZ 0 (by decide) rfl rfl) rfl rfl hl.1 rfl (lv_room (Nat.le_of_ble_eq_true rfl)) dX12_one_10 ⟨Nat.le_refl _, Nat.le_refl _⟩) hA hS (fun r_92 f_89 L_90 Q_91 H locs hq hP hS => ?_)
    obtain ⟨⟨ef9, eL9, eQ9⟩, hq, p_93⟩ := hq
    rw [ef9, eL9, eQ9] at hP; clear ef9 eL9 eQ9
    refine lv_istore_n (lv' := [(1, .int r_92), (0, .ref (h 0))]) hx hb dX12_one_13 rfl hl (by decide) rfl (fun ls hl => ?_)
    refine lv_iload_n hx hb dX12_one_14 rfl (lv_at hl 0 rfl) ?_
    refine lv_bipush (v := 33) hx hb dX12_one_15 (by decide) ?_
    refine lv_icmp_eq (tgt := 32) hx hb dX12_one_17 (by decide) (fun c => ?_) (fun c => ?_)
    · skip
      have c_94 : r_92.toInt = 33 := (by have z := Int32.toInt_inj.mpr c; have k1 : (33 : Int32).toInt = 33 := (by decide); omega)
      refine lv_aload_n hx hb dX12_one_32 rfl (lv_at hl 1 rfl) ?_
      have c_96 : v_1 = 2 := Int32.toInt_inj.mp (by have k9 : (2 : Int32).toInt = 2 := (by decide); omega)
      refine sg_get (ci := 12) (v := .int 2) (C := RX12) (T := TX12) (N := 55) hx hb hts (fun w h => List.mem_cons_of_mem _ (gx_12 w h)) hown hK hP 0 (by decide) rfl rfl 16 (by decide) (hts _ (List.mem_cons_of_mem _ mw_628)) (fun _ h9 => h9) (congrArg (fun z => some (Value.int z)) (show f 0 16 = 2 from (Eq.trans ev_1.symm c_96))) dX12_one_33 ?_
      refine lv_bipush (v := 6) hx hb dX12_one_36 (by decide) ?_
      refine lv_icmp_ne (tgt := 46) hx hb dX12_one_38 (by decide) (fun c => ?_) (fun c => absurd c (by decide))
      refine lv_aload_n hx hb dX12_one_46 rfl (lv_at hl 1 rfl) ?_
      refine lv_dup hx hb dX12_one_47 rfl ?_
      refine sg_get (ci := 12) (v := .int 2) (C := RX12) (T := TX12) (N := 55) hx hb hts (fun w h => List.mem_cons_of_mem _ (gx_12 w h)) hown hK hP 0 (by decide) rfl rfl 16 (by decide) (hts _ (List.mem_cons_of_mem _ mw_628)) (fun _ h9 => h9) (congrArg (fun z => some (Value.int z)) (show f 0 16 = 2 from (Eq.trans ev_1.symm c_96))) dX12_one_48 ?_
      refine lv_iconst (v := 1) hx hb dX12_one_51 (by decide) ?_
      refine lv_iadd hx hb dX12_one_52 ?_
      refine W.eq (g2 := F0 m 53 ls [.int 3, .ref (h 0)]) (by rw [show (2 + 1 : Int32) = 3 from by decide]) ?_
      refine sg_put (ci := 12) (x := 3) (ty := .int) (C := RX12) (T := TX12) (N := 55) hx hb hts (fun w h => List.mem_cons_of_mem _ (gx_12 w h)) tyX12 tyX12_ok nmX12 hown hh hA hK hP hS 0 (by decide) rfl rfl 16 (by decide) (hts _ (List.mem_cons_of_mem _ mw_628)) (fun _ h9 => h9) rfl rfl (by decide +kernel) rfl rfl (Nat.le_of_ble_eq_true rfl) dX12_one_53 (fun f_97 H locs ef_97 hP hS => ?_)
      have hI : sgI loM hiM f_97 := by rw [ef_97]; exact sgI.put hI 0 16 (show 0 ≤ (3 : Int32).toInt ∧ (3 : Int32).toInt ≤ 6 from by decide)
      have hF : sgK WkX12_one_2 f f_97 := sgK.put hF ef_97 (by rfl)
      refine lv_aload_n hx hb dX12_one_56 rfl (lv_at hl 1 rfl) ?_
      refine lv_dup hx hb dX12_one_57 rfl ?_
      refine sg_get (ci := 12) (v := .int v_5) (C := RX12) (T := TX12) (N := 55) hx hb hts (fun w h => List.mem_cons_of_mem _ (gx_12 w h)) hown hK hP 0 (by decide) rfl rfl 13 (by decide) (hts _ (List.mem_cons_of_mem _ mw_625)) (fun _ h9 => h9) (congrArg (fun z => some (Value.int z)) (show f_97 0 13 = v_5 from (by rw [ef_97, sg_up_s, sgu_n (by decide)]; exact ev_5.symm))) dX12_one_58 ?_
      refine lv_iconst (v := 1) hx hb dX12_one_61 (by decide) ?_
      refine lv_iadd hx hb dX12_one_62 ?_
      refine lv_topi (fun v_98 ev_98 => ?_)
      have q_99 : v_98.toInt = v_5.toInt + 1 := by rw [ev_98]; have k1 : (1 : Int32).toInt = 1 := (by decide); exact (bn_addI (by omega) (by omega)).trans (by omega)
      refine sg_put (ci := 12) (x := v_98) (ty := .int) (C := RX12) (T := TX12) (N := 55) hx hb hts (fun w h => List.mem_cons_of_mem _ (gx_12 w h)) tyX12 tyX12_ok nmX12 hown hh hA hK hP hS 0 (by decide) rfl rfl 13 (by decide) (hts _ (List.mem_cons_of_mem _ mw_625)) (fun _ h9 => h9) rfl rfl (by decide +kernel) rfl rfl (Nat.le_of_ble_eq_true rfl) dX12_one_63 (fun f_100 H locs ef_100 hP hS => ?_)
      have hI : sgI loM hiM f_100 := by rw [ef_100]; exact sgI.put hI 0 13 (show 0 ≤ (v_98 : Int32).toInt ∧ (v_98 : Int32).toInt ≤ 120 from by omega)
      have hF : sgK WkX12_one_2 f f_100 := sgK.put hF ef_100 (by rfl)
      refine lv_iload_n hx hb dX12_one_66 rfl (lv_at hl 0 rfl) ?_
      refine lv_bipush (v := 40) hx hb dX12_one_67 (by decide) ?_
      refine lv_icmp_ne (tgt := 79) hx hb dX12_one_69 (by decide) (fun c => ?_) (fun c => ?_)
      · skip
        have c_101 : r_92.toInt ≠ 40 := (by have z := bn_ne c; have k1 : (40 : Int32).toInt = 40 := (by decide); omega)
        refine lv_aload_n hx hb dX12_one_79 rfl (lv_at hl 1 rfl) ?_
        have q_103 : (f_100 0 16).toInt = 3 := (congrArg Int32.toInt (show f_100 0 16 = 3 from (by rw [ef_100, sg_up_s, sgu_n (by decide)]; exact (by rw [ef_97, sg_up_s, sgu_s])))).trans (by decide)
        have q_104 : (f_100 0 15).toInt = v_3.toInt := (congrArg Int32.toInt (show f_100 0 15 = v_3 from (by rw [ef_100, sg_up_s, sgu_n (by decide)]; exact (by rw [ef_97, sg_up_s, sgu_n (by decide)]; exact ev_3.symm))))
        have q_105 : (f_100 0 16).toInt = 3 := (congrArg Int32.toInt (show f_100 0 16 = 3 from (by rw [ef_100, sg_up_s, sgu_n (by decide)]; exact (by rw [ef_97, sg_up_s, sgu_s])))).trans (by decide)
        have q_106 : (f_100 0 13).toInt = v_98.toInt := (congrArg Int32.toInt (show f_100 0 13 = v_98 from (by rw [ef_100, sg_up_s, sgu_s])))
        refine sg_calli (va_runV (As := []) (rest := []) ⟨hx, hb, hml, hown, hts⟩ (kX12_one_3 l D ca za h hh f_100 L Q hI (by omega) (by omega) H.size) (cwV 0 hts (gw_V (fun _ h => List.mem_cons_of_mem _ h) mw_789 mw_790 mw_791 mw_619 mw_788) rfl rfl rfl (by decide +kernel) ⟨Nat.le_of_ble_eq_true rfl, Nat.le_of_ble_eq_true rfl⟩) (sg_preV (ci := 12) (C := RX12) (T := TX12) (N := 55) hA hK hP hS hZ 0 (by decide) rfl rfl) rfl rfl hl.1 rfl (lv_room (Nat.le_of_ble_eq_true rfl)) dX12_one_80 ⟨Nat.le_refl _, Nat.le_refl _⟩) hA hS (fun r_110 f_107 L_108 Q_109 H locs hq hP hS => ?_)
        obtain ⟨⟨hI, hk_f_107, eL9, eQ9⟩, hq, p_111, p_112, p_113⟩ := hq
        rw [eL9, eQ9] at hP; clear eL9 eQ9
        have hF : sgK WkX12_one_2 f f_107 := sgK.tr hF hk_f_107 (by decide)
        obtain ⟨v_114, ev_114⟩ : ∃ z : Int32, z = f_107 0 13 := ⟨_, rfl⟩
        have q_115 : 0 ≤ v_114.toInt ∧ v_114.toInt ≤ 120 := by rw [ev_114]; exact hI 0 13
        have q_116 : (f_107 0 13).toInt = v_114.toInt := (congrArg Int32.toInt (show f_107 0 13 = v_114 from ev_114.symm))
        obtain ⟨v_117, ev_117⟩ : ∃ z : Int32, z = f_107 0 16 := ⟨_, rfl⟩
        have q_118 : 0 ≤ v_117.toInt ∧ v_117.toInt ≤ 6 := by rw [ev_117]; exact hI 0 16
        have q_119 : (f_107 0 16).toInt = v_117.toInt := (congrArg Int32.toInt (show f_107 0 16 = v_117 from ev_117.symm))
        obtain ⟨v_120, ev_120⟩ : ∃ z : Int32, z = f_107 0 15 := ⟨_, rfl⟩
        have q_121 : (-1) ≤ v_120.toInt ∧ v_120.toInt ≤ 120 := by rw [ev_120]; exact hI 0 15
        have q_122 : (f_107 0 15).toInt = v_120.toInt := (congrArg Int32.toInt (show f_107 0 15 = v_120 from ev_120.symm))
        have q_123 : (f_107 0 16).toInt = v_117.toInt := (congrArg Int32.toInt (show f_107 0 16 = v_117 from ev_117.symm))
        refine lv_istore_n (lv' := [(2, .int r_110), (1, .int r_92), (0, .ref (h 0))]) hx hb dX12_one_83 rfl hl (by decide) rfl (fun ls hl => ?_)
        refine lv_iload_n hx hb dX12_one_84 rfl (lv_at hl 1 rfl) ?_
        refine lv_bipush (v := 40) hx hb dX12_one_85 (by decide) ?_
        refine lv_icmp_ne (tgt := 104) hx hb dX12_one_87 (by decide) (fun c => ?_) (fun c => ?_)
        · skip
          have c_124 : r_92.toInt ≠ 40 := (by have z := bn_ne c; have k1 : (40 : Int32).toInt = 40 := (by decide); omega)
          refine lv_aload_n hx hb dX12_one_104 rfl (lv_at hl 2 rfl) ?_
          refine lv_dup hx hb dX12_one_105 rfl ?_
          refine sg_get (ci := 12) (v := .int v_117) (C := RX12) (T := TX12) (N := 55) hx hb hts (fun w h => List.mem_cons_of_mem _ (gx_12 w h)) hown hK hP 0 (by decide) rfl rfl 16 (by decide) (hts _ (List.mem_cons_of_mem _ mw_628)) (fun _ h9 => h9) (congrArg (fun z => some (Value.int z)) (show f_107 0 16 = v_117 from ev_117.symm)) dX12_one_106 ?_
          refine lv_iconst (v := 1) hx hb dX12_one_109 (by decide) ?_
          refine lv_isub hx hb dX12_one_110 ?_
          refine lv_topi (fun v_126 ev_126 => ?_)
          have q_127 : v_126.toInt = v_117.toInt - 1 := by rw [ev_126]; have k1 : (1 : Int32).toInt = 1 := (by decide); exact (bn_subI (by omega) (by omega)).trans (by omega)
          refine sg_put (ci := 12) (x := v_126) (ty := .int) (C := RX12) (T := TX12) (N := 55) hx hb hts (fun w h => List.mem_cons_of_mem _ (gx_12 w h)) tyX12 tyX12_ok nmX12 hown hh hA hK hP hS 0 (by decide) rfl rfl 16 (by decide) (hts _ (List.mem_cons_of_mem _ mw_628)) (fun _ h9 => h9) rfl rfl (by decide +kernel) rfl rfl (Nat.le_of_ble_eq_true rfl) dX12_one_111 (fun f_128 H locs ef_128 hP hS => ?_)
          have hI : sgI loM hiM f_128 := by rw [ef_128]; exact sgI.put hI 0 16 (show 0 ≤ (v_126 : Int32).toInt ∧ (v_126 : Int32).toInt ≤ 6 from by omega)
          have hF : sgK WkX12_one_2 f f_128 := sgK.put hF ef_128 (by rfl)
          refine lv_iload_n hx hb dX12_one_114 rfl (lv_at hl 1 rfl) ?_
          refine lv_bipush (v := 40) hx hb dX12_one_115 (by decide) ?_
          refine lv_icmp_ne (tgt := 124) hx hb dX12_one_117 (by decide) (fun c => ?_) (fun c => ?_)
          · skip
            have c_129 : r_92.toInt ≠ 40 := (by have z := bn_ne c; have k1 : (40 : Int32).toInt = 40 := (by decide); omega)
            refine lv_iload_n hx hb dX12_one_124 rfl (lv_at hl 1 rfl) ?_
            refine lv_bipush (v := 45) hx hb dX12_one_125 (by decide) ?_
            refine lv_icmp_ne (tgt := 135) hx hb dX12_one_127 (by decide) (fun c => ?_) (fun c => ?_)
            · skip
              have c_131 : r_92.toInt ≠ 45 := (by have z := bn_ne c; have k1 : (45 : Int32).toInt = 45 := (by decide); omega)
              refine lv_iload_n hx hb dX12_one_135 rfl (lv_at hl 0 rfl) ?_
              refine lv_if_ne (tgt := 143) hx hb dX12_one_136 (by decide) (fun c => ?_) (fun c => ?_)
              · skip
                have c_133 : r_110.toInt ≠ 0 := (by have z := bn_ne c; have k1 : (0 : Int32).toInt = 0 := (by decide); omega)
                refine lv_iconst (v := 0) hx hb dX12_one_143 (by decide) ?_
                have q_135 : (f_128 0 13).toInt = v_114.toInt := (congrArg Int32.toInt (show f_128 0 13 = v_114 from (by rw [ef_128, sg_up_s, sgu_n (by decide)]; exact ev_114.symm)))
                have q_136 : (f_128 0 16).toInt = v_126.toInt := (congrArg Int32.toInt (show f_128 0 16 = v_126 from (by rw [ef_128, sg_up_s, sgu_s])))
                have q_137 : (f_128 0 15).toInt = v_120.toInt := (congrArg Int32.toInt (show f_128 0 15 = v_120 from (by rw [ef_128, sg_up_s, sgu_n (by decide)]; exact ev_120.symm)))
                have q_138 : (f_128 0 16).toInt = v_126.toInt := (congrArg Int32.toInt (show f_128 0 16 = v_126 from (by rw [ef_128, sg_up_s, sgu_s])))
                have k99 : (0 : Int32).toInt = 0 := (by decide)
                exact hret _ _ _ _ (0) f_128 L Q dX12_one_144 hP hS ⟨⟨hI, hF, rfl, rfl⟩, trivial, (by omega), (by omega), (by omega)⟩
              · skip
                have c_134 : r_110.toInt = 0 := (by have z := Int32.toInt_inj.mpr c; have k1 : (0 : Int32).toInt = 0 := (by decide); omega)
                refine lv_iconst (v := 1) hx hb dX12_one_139 (by decide) ?_
                refine lv_goto (tgt := 144) hx hb dX12_one_140 (by decide) ?_
                have q_139 : (f_128 0 13).toInt = v_114.toInt := (congrArg Int32.toInt (show f_128 0 13 = v_114 from (by rw [ef_128, sg_up_s, sgu_n (by decide)]; exact ev_114.symm)))
                have q_140 : (f_128 0 16).toInt = v_126.toInt := (congrArg Int32.toInt (show f_128 0 16 = v_126 from (by rw [ef_128, sg_up_s, sgu_s])))
                have q_141 : (f_128 0 15).toInt = v_120.toInt := (congrArg Int32.toInt (show f_128 0 15 = v_120 from (by rw [ef_128, sg_up_s, sgu_n (by decide)]; exact ev_120.symm)))
                have q_142 : (f_128 0 16).toInt = v_126.toInt := (congrArg Int32.toInt (show f_128 0 16 = v_126 from (by rw [ef_128, sg_up_s, sgu_s])))
                have k99 : (1 : Int32).toInt = 1 := (by decide)
                exact hret _ _ _ _ (1) f_128 L Q dX12_one_144 hP hS ⟨⟨hI, hF, rfl, rfl⟩, trivial, (by omega), (by omega), (by omega)⟩
            · skip
              exfalso; have c_132 : r_92.toInt = 45 := (by have z := Int32.toInt_inj.mpr c; have k1 : (45 : Int32).toInt = 45 := (by decide); omega); omega
          · skip
            exfalso; have c_130 : r_92.toInt = 40 := (by have z := Int32.toInt_inj.mpr c; have k1 : (40 : Int32).toInt = 40 := (by decide); omega); omega
        · skip
          exfalso; have c_125 : r_92.toInt = 40 := (by have z := Int32.toInt_inj.mpr c; have k1 : (40 : Int32).toInt = 40 := (by decide); omega); omega
      · skip
        exfalso; have c_102 : r_92.toInt = 40 := (by have z := Int32.toInt_inj.mpr c; have k1 : (40 : Int32).toInt = 40 := (by decide); omega); omega
    · skip
      have c_95 : r_92.toInt ≠ 33 := (by have z := bn_ne c; have k1 : (33 : Int32).toInt = 33 := (by decide); omega)
      refine lv_iload_n hx hb dX12_one_20 rfl (lv_at hl 0 rfl) ?_
      refine lv_bipush (v := 45) hx hb dX12_one_21 (by decide) ?_
      refine lv_icmp_eq (tgt := 32) hx hb dX12_one_23 (by decide) (fun c => ?_) (fun c => ?_)
      · skip
        have c_143 : r_92.toInt = 45 := (by have z := Int32.toInt_inj.mpr c; have k1 : (45 : Int32).toInt = 45 := (by decide); omega)
        refine lv_aload_n hx hb dX12_one_32 rfl (lv_at hl 1 rfl) ?_
        have c_145 : v_1 = 2 := Int32.toInt_inj.mp (by have k9 : (2 : Int32).toInt = 2 := (by decide); omega)
        refine sg_get (ci := 12) (v := .int 2) (C := RX12) (T := TX12) (N := 55) hx hb hts (fun w h => List.mem_cons_of_mem _ (gx_12 w h)) hown hK hP 0 (by decide) rfl rfl 16 (by decide) (hts _ (List.mem_cons_of_mem _ mw_628)) (fun _ h9 => h9) (congrArg (fun z => some (Value.int z)) (show f 0 16 = 2 from (Eq.trans ev_1.symm c_145))) dX12_one_33 ?_
        refine lv_bipush (v := 6) hx hb dX12_one_36 (by decide) ?_
        refine lv_icmp_ne (tgt := 46) hx hb dX12_one_38 (by decide) (fun c => ?_) (fun c => absurd c (by decide))
        refine lv_aload_n hx hb dX12_one_46 rfl (lv_at hl 1 rfl) ?_
        refine lv_dup hx hb dX12_one_47 rfl ?_
        refine sg_get (ci := 12) (v := .int 2) (C := RX12) (T := TX12) (N := 55) hx hb hts (fun w h => List.mem_cons_of_mem _ (gx_12 w h)) hown hK hP 0 (by decide) rfl rfl 16 (by decide) (hts _ (List.mem_cons_of_mem _ mw_628)) (fun _ h9 => h9) (congrArg (fun z => some (Value.int z)) (show f 0 16 = 2 from (Eq.trans ev_1.symm c_145))) dX12_one_48 ?_
        refine lv_iconst (v := 1) hx hb dX12_one_51 (by decide) ?_
        refine lv_iadd hx hb dX12_one_52 ?_
        refine W.eq (g2 := F0 m 53 ls [.int 3, .ref (h 0)]) (by rw [show (2 + 1 : Int32) = 3 from by decide]) ?_
        refine sg_put (ci := 12) (x := 3) (ty := .int) (C := RX12) (T := TX12) (N := 55) hx hb hts (fun w h => List.mem_cons_of_mem _ (gx_12 w h)) tyX12 tyX12_ok nmX12 hown hh hA hK hP hS 0 (by decide) rfl rfl 16 (by decide) (hts _ (List.mem_cons_of_mem _ mw_628)) (fun _ h9 => h9) rfl rfl (by decide +kernel) rfl rfl (Nat.le_of_ble_eq_true rfl) dX12_one_53 (fun f_146 H locs ef_146 hP hS => ?_)
        have hI : sgI loM hiM f_146 := by rw [ef_146]; exact sgI.put hI 0 16 (show 0 ≤ (3 : Int32).toInt ∧ (3 : Int32).toInt ≤ 6 from by decide)
        have hF : sgK WkX12_one_2 f f_146 := sgK.put hF ef_146 (by rfl)
        refine lv_aload_n hx hb dX12_one_56 rfl (lv_at hl 1 rfl) ?_
        refine lv_dup hx hb dX12_one_57 rfl ?_
        refine sg_get (ci := 12) (v := .int v_5) (C := RX12) (T := TX12) (N := 55) hx hb hts (fun w h => List.mem_cons_of_mem _ (gx_12 w h)) hown hK hP 0 (by decide) rfl rfl 13 (by decide) (hts _ (List.mem_cons_of_mem _ mw_625)) (fun _ h9 => h9) (congrArg (fun z => some (Value.int z)) (show f_146 0 13 = v_5 from (by rw [ef_146, sg_up_s, sgu_n (by decide)]; exact ev_5.symm))) dX12_one_58 ?_
        refine lv_iconst (v := 1) hx hb dX12_one_61 (by decide) ?_
        refine lv_iadd hx hb dX12_one_62 ?_
        refine lv_topi (fun v_147 ev_147 => ?_)
        have q_148 : v_147.toInt = v_5.toInt + 1 := by rw [ev_147]; have k1 : (1 : Int32).toInt = 1 := (by decide); exact (bn_addI (by omega) (by omega)).trans (by omega)
        refine sg_put (ci := 12) (x := v_147) (ty := .int) (C := RX12) (T := TX12) (N := 55) hx hb hts (fun w h => List.mem_cons_of_mem _ (gx_12 w h)) tyX12 tyX12_ok nmX12 hown hh hA hK hP hS 0 (by decide) rfl rfl 13 (by decide) (hts _ (List.mem_cons_of_mem _ mw_625)) (fun _ h9 => h9) rfl rfl (by decide +kernel) rfl rfl (Nat.le_of_ble_eq_true rfl) dX12_one_63 (fun f_149 H locs ef_149 hP hS => ?_)
        have hI : sgI loM hiM f_149 := by rw [ef_149]; exact sgI.put hI 0 13 (show 0 ≤ (v_147 : Int32).toInt ∧ (v_147 : Int32).toInt ≤ 120 from by omega)
        have hF : sgK WkX12_one_2 f f_149 := sgK.put hF ef_149 (by rfl)
        refine lv_iload_n hx hb dX12_one_66 rfl (lv_at hl 0 rfl) ?_
        refine lv_bipush (v := 40) hx hb dX12_one_67 (by decide) ?_
        refine lv_icmp_ne (tgt := 79) hx hb dX12_one_69 (by decide) (fun c => ?_) (fun c => ?_)
        · skip
          have c_150 : r_92.toInt ≠ 40 := (by have z := bn_ne c; have k1 : (40 : Int32).toInt = 40 := (by decide); omega)
          refine lv_aload_n hx hb dX12_one_79 rfl (lv_at hl 1 rfl) ?_
          have q_152 : (f_149 0 16).toInt = 3 := (congrArg Int32.toInt (show f_149 0 16 = 3 from (by rw [ef_149, sg_up_s, sgu_n (by decide)]; exact (by rw [ef_146, sg_up_s, sgu_s])))).trans (by decide)
          have q_153 : (f_149 0 15).toInt = v_3.toInt := (congrArg Int32.toInt (show f_149 0 15 = v_3 from (by rw [ef_149, sg_up_s, sgu_n (by decide)]; exact (by rw [ef_146, sg_up_s, sgu_n (by decide)]; exact ev_3.symm))))
          have q_154 : (f_149 0 16).toInt = 3 := (congrArg Int32.toInt (show f_149 0 16 = 3 from (by rw [ef_149, sg_up_s, sgu_n (by decide)]; exact (by rw [ef_146, sg_up_s, sgu_s])))).trans (by decide)
          have q_155 : (f_149 0 13).toInt = v_147.toInt := (congrArg Int32.toInt (show f_149 0 13 = v_147 from (by rw [ef_149, sg_up_s, sgu_s])))
          refine sg_calli (va_runV (As := []) (rest := []) ⟨hx, hb, hml, hown, hts⟩ (kX12_one_3 l D ca za h hh f_149 L Q hI (by omega) (by omega) H.size) (cwV 0 hts (gw_V (fun _ h => List.mem_cons_of_mem _ h) mw_789 mw_790 mw_791 mw_619 mw_788) rfl rfl rfl (by decide +kernel) ⟨Nat.le_of_ble_eq_true rfl, Nat.le_of_ble_eq_true rfl⟩) (sg_preV (ci := 12) (C := RX12) (T := TX12) (N := 55) hA hK hP hS hZ 0 (by decide) rfl rfl) rfl rfl hl.1 rfl (lv_room (Nat.le_of_ble_eq_true rfl)) dX12_one_80 ⟨Nat.le_refl _, Nat.le_refl _⟩) hA hS (fun r_159 f_156 L_157 Q_158 H locs hq hP hS => ?_)
          obtain ⟨⟨hI, hk_f_156, eL9, eQ9⟩, hq, p_160, p_161, p_162⟩ := hq
          rw [eL9, eQ9] at hP; clear eL9 eQ9
          have hF : sgK WkX12_one_2 f f_156 := sgK.tr hF hk_f_156 (by decide)
          obtain ⟨v_163, ev_163⟩ : ∃ z : Int32, z = f_156 0 13 := ⟨_, rfl⟩
          have q_164 : 0 ≤ v_163.toInt ∧ v_163.toInt ≤ 120 := by rw [ev_163]; exact hI 0 13
          have q_165 : (f_156 0 13).toInt = v_163.toInt := (congrArg Int32.toInt (show f_156 0 13 = v_163 from ev_163.symm))
          obtain ⟨v_166, ev_166⟩ : ∃ z : Int32, z = f_156 0 16 := ⟨_, rfl⟩
          have q_167 : 0 ≤ v_166.toInt ∧ v_166.toInt ≤ 6 := by rw [ev_166]; exact hI 0 16
          have q_168 : (f_156 0 16).toInt = v_166.toInt := (congrArg Int32.toInt (show f_156 0 16 = v_166 from ev_166.symm))
          obtain ⟨v_169, ev_169⟩ : ∃ z : Int32, z = f_156 0 15 := ⟨_, rfl⟩
          have q_170 : (-1) ≤ v_169.toInt ∧ v_169.toInt ≤ 120 := by rw [ev_169]; exact hI 0 15
          have q_171 : (f_156 0 15).toInt = v_169.toInt := (congrArg Int32.toInt (show f_156 0 15 = v_169 from ev_169.symm))
          have q_172 : (f_156 0 16).toInt = v_166.toInt := (congrArg Int32.toInt (show f_156 0 16 = v_166 from ev_166.symm))
          refine lv_istore_n (lv' := [(2, .int r_159), (1, .int r_92), (0, .ref (h 0))]) hx hb dX12_one_83 rfl hl (by decide) rfl (fun ls hl => ?_)
          refine lv_iload_n hx hb dX12_one_84 rfl (lv_at hl 1 rfl) ?_
          refine lv_bipush (v := 40) hx hb dX12_one_85 (by decide) ?_
          refine lv_icmp_ne (tgt := 104) hx hb dX12_one_87 (by decide) (fun c => ?_) (fun c => ?_)
          · skip
            have c_173 : r_92.toInt ≠ 40 := (by have z := bn_ne c; have k1 : (40 : Int32).toInt = 40 := (by decide); omega)
            refine lv_aload_n hx hb dX12_one_104 rfl (lv_at hl 2 rfl) ?_
            refine lv_dup hx hb dX12_one_105 rfl ?_
            refine sg_get (ci := 12) (v := .int v_166) (C := RX12) (T := TX12) (N := 55) hx hb hts (fun w h => List.mem_cons_of_mem _ (gx_12 w h)) hown hK hP 0 (by decide) rfl rfl 16 (by decide) (hts _ (List.mem_cons_of_mem _ mw_628)) (fun _ h9 => h9) (congrArg (fun z => some (Value.int z)) (show f_156 0 16 = v_166 from ev_166.symm)) dX12_one_106 ?_
            refine lv_iconst (v := 1) hx hb dX12_one_109 (by decide) ?_
            refine lv_isub hx hb dX12_one_110 ?_
            refine lv_topi (fun v_175 ev_175 => ?_)
            have q_176 : v_175.toInt = v_166.toInt - 1 := by rw [ev_175]; have k1 : (1 : Int32).toInt = 1 := (by decide); exact (bn_subI (by omega) (by omega)).trans (by omega)
            refine sg_put (ci := 12) (x := v_175) (ty := .int) (C := RX12) (T := TX12) (N := 55) hx hb hts (fun w h => List.mem_cons_of_mem _ (gx_12 w h)) tyX12 tyX12_ok nmX12 hown hh hA hK hP hS 0 (by decide) rfl rfl 16 (by decide) (hts _ (List.mem_cons_of_mem _ mw_628)) (fun _ h9 => h9) rfl rfl (by decide +kernel) rfl rfl (Nat.le_of_ble_eq_true rfl) dX12_one_111 (fun f_177 H locs ef_177 hP hS => ?_)
            have hI : sgI loM hiM f_177 := by rw [ef_177]; exact sgI.put hI 0 16 (show 0 ≤ (v_175 : Int32).toInt ∧ (v_175 : Int32).toInt ≤ 6 from by omega)
            have hF : sgK WkX12_one_2 f f_177 := sgK.put hF ef_177 (by rfl)
            refine lv_iload_n hx hb dX12_one_114 rfl (lv_at hl 1 rfl) ?_
            refine lv_bipush (v := 40) hx hb dX12_one_115 (by decide) ?_
            refine lv_icmp_ne (tgt := 124) hx hb dX12_one_117 (by decide) (fun c => ?_) (fun c => ?_)
            · skip
              have c_178 : r_92.toInt ≠ 40 := (by have z := bn_ne c; have k1 : (40 : Int32).toInt = 40 := (by decide); omega)
              refine lv_iload_n hx hb dX12_one_124 rfl (lv_at hl 1 rfl) ?_
              refine lv_bipush (v := 45) hx hb dX12_one_125 (by decide) ?_
              refine lv_icmp_ne (tgt := 135) hx hb dX12_one_127 (by decide) (fun c => ?_) (fun c => ?_)
              · skip
                exfalso; have c_180 : r_92.toInt ≠ 45 := (by have z := bn_ne c; have k1 : (45 : Int32).toInt = 45 := (by decide); omega); omega
              · skip
                have c_181 : r_92.toInt = 45 := (by have z := Int32.toInt_inj.mpr c; have k1 : (45 : Int32).toInt = 45 := (by decide); omega)
                refine lv_iload_n hx hb dX12_one_130 rfl (lv_at hl 0 rfl) ?_
                refine lv_ineg hx hb dX12_one_131 ?_
                refine lv_topi (fun v_182 ev_182 => ?_)
                refine lv_goto (tgt := 144) hx hb dX12_one_132 (by decide) ?_
                have q_183 : (f_177 0 13).toInt = v_163.toInt := (congrArg Int32.toInt (show f_177 0 13 = v_163 from (by rw [ef_177, sg_up_s, sgu_n (by decide)]; exact ev_163.symm)))
                have q_184 : (f_177 0 16).toInt = v_175.toInt := (congrArg Int32.toInt (show f_177 0 16 = v_175 from (by rw [ef_177, sg_up_s, sgu_s])))
                have q_185 : (f_177 0 15).toInt = v_169.toInt := (congrArg Int32.toInt (show f_177 0 15 = v_169 from (by rw [ef_177, sg_up_s, sgu_n (by decide)]; exact ev_169.symm)))
                have q_186 : (f_177 0 16).toInt = v_175.toInt := (congrArg Int32.toInt (show f_177 0 16 = v_175 from (by rw [ef_177, sg_up_s, sgu_s])))
                exact hret _ _ _ _ (v_182) f_177 L Q dX12_one_144 hP hS ⟨⟨hI, hF, rfl, rfl⟩, trivial, (by omega), (by omega), (by omega)⟩
            · skip
              exfalso; have c_179 : r_92.toInt = 40 := (by have z := Int32.toInt_inj.mpr c; have k1 : (40 : Int32).toInt = 40 := (by decide); omega); omega
          · skip
            exfalso; have c_174 : r_92.toInt = 40 := (by have z := Int32.toInt_inj.mpr c; have k1 : (40 : Int32).toInt = 40 := (by decide); omega); omega
        · skip
          exfalso; have c_151 : r_92.toInt = 40 := (by have z := Int32.toInt_inj.mpr c; have k1 : (40 : Int32).toInt = 40 := (by decide); omega); omega
      · skip
        have c_144 : r_92.toInt ≠ 45 := (by have z := bn_ne c; have k1 : (45 : Int32).toInt = 45 := (by decide); omega)
        refine lv_iload_n hx hb dX12_one_26 rfl (lv_at hl 0 rfl) ?_
        refine lv_bipush (v := 40) hx hb dX12_one_27 (by decide) ?_
        refine lv_icmp_ne (tgt := 145) hx hb dX12_one_29 (by decide) (fun c => ?_) (fun c => ?_)
        · skip
          have c_187 : r_92.toInt ≠ 40 := (by have z := bn_ne c; have k1 : (40 : Int32).toInt = 40 := (by decide); omega)
          refine lv_iload_n hx hb dX12_one_145 rfl (lv_at hl 0 rfl) ?_
          refine sg_calli (va_runS (As := [.int r_92]) (rest := []) ⟨hx, hb, hml, hown, hts⟩ (kX12_nameOf l D ca za h hh f L Q hI r_92 (by omega) H.size) (va_cwS 1 hts (gw_S (fun _ h => List.mem_cons_of_mem _ h) mw_869 mw_870 mw_619 mw_868) rfl rfl rfl (by decide +kernel) ⟨Nat.le_of_ble_eq_true rfl, Nat.le_of_ble_eq_true rfl⟩) (sg_preS hA hK hP hS hZ) rfl rfl hl.1 rfl (lv_room (Nat.le_of_ble_eq_true rfl)) dX12_one_146 ⟨Nat.le_refl _, Nat.le_refl _⟩) hA hS (fun r_192 f_189 L_190 Q_191 H locs hq hP hS => ?_)
          obtain ⟨⟨ef9, eL9, eQ9⟩, hq, p_193⟩ := hq
          rw [ef9, eL9, eQ9] at hP; clear ef9 eL9 eQ9
          refine lv_istore_n (lv' := [(2, .int r_192), (1, .int r_92), (0, .ref (h 0))]) hx hb dX12_one_149 rfl hl (by decide) rfl (fun ls hl => ?_)
          refine lv_iload_n hx hb dX12_one_150 rfl (lv_at hl 0 rfl) ?_
          refine lv_if_lt (tgt := 171) hx hb dX12_one_151 (by decide) (fun c => ?_) (fun c => ?_)
          · skip
            have c_194 : r_192.toInt < 0 := (by have z := bn_lt c; have k1 : (0 : Int32).toInt = 0 := (by decide); omega)
            refine lv_iconst (v := 0) hx hb dX12_one_171 (by decide) ?_
            refine lv_istore_n (lv' := [(3, .int 0), (2, .int r_192), (1, .int r_92), (0, .ref (h 0))]) hx hb dX12_one_172 rfl hl (by decide) rfl (fun ls hl => ?_)
            refine lv_iconst (v := 0) hx hb dX12_one_173 (by decide) ?_
            refine lv_istore (lv' := [(4, .int 0), (3, .int 0), (2, .int r_192), (1, .int r_92), (0, .ref (h 0))]) hx hb dX12_one_174 hl (by decide) rfl (fun ls hl => ?_)
            exact loop_176 5 0 0 f _ _ _ (by have kc0 : (0 : Int32).toInt = 0 := (by decide); have kc1 : (0 : Int32).toInt = 0 := (by decide); omega) (by have zz0_15 : (f 0 15).toInt = v_3.toInt := (congrArg Int32.toInt (show f 0 15 = v_3 from ev_3.symm)); omega) (by decide) (by have kc0 : (0 : Int32).toInt = 0 := (by decide); have kc1 : (0 : Int32).toInt = 0 := (by decide); have zz0_13 : (f 0 13).toInt = v_5.toInt := (congrArg Int32.toInt (show f 0 13 = v_5 from ev_5.symm)); omega) (by have kc0 : (0 : Int32).toInt = 0 := (by decide); have kc1 : (0 : Int32).toInt = 0 := (by decide); have zz0_16 : (f 0 16).toInt = v_1.toInt := (congrArg Int32.toInt (show f 0 16 = v_1 from ev_1.symm)); omega) (by have kc0 : (0 : Int32).toInt = 0 := (by decide); have kc1 : (0 : Int32).toInt = 0 := (by decide); have zz0_15 : (f 0 15).toInt = v_3.toInt := (congrArg Int32.toInt (show f 0 15 = v_3 from ev_3.symm)); have zz0_16 : (f 0 16).toInt = v_1.toInt := (congrArg Int32.toInt (show f 0 16 = v_1 from ev_1.symm)); omega) hI hF hP hS (lv_sub hl [4, 1, 0] rfl)
          · skip
            have c_195 : 0 ≤ r_192.toInt := (by have z := bn_nlt c; have k1 : (0 : Int32).toInt = 0 := (by decide); omega)
            refine lv_aload_n hx hb dX12_one_154 rfl (lv_at hl 2 rfl) ?_
            refine lv_dup hx hb dX12_one_155 rfl ?_
            refine sg_get (ci := 12) (v := .int v_5) (C := RX12) (T := TX12) (N := 55) hx hb hts (fun w h => List.mem_cons_of_mem _ (gx_12 w h)) hown hK hP 0 (by decide) rfl rfl 13 (by decide) (hts _ (List.mem_cons_of_mem _ mw_625)) (fun _ h9 => h9) (congrArg (fun z => some (Value.int z)) (show f 0 13 = v_5 from ev_5.symm)) dX12_one_156 ?_
            refine lv_iconst (v := 1) hx hb dX12_one_159 (by decide) ?_
            refine lv_iadd hx hb dX12_one_160 ?_
            refine lv_topi (fun v_196 ev_196 => ?_)
            have q_197 : v_196.toInt = v_5.toInt + 1 := by rw [ev_196]; have k1 : (1 : Int32).toInt = 1 := (by decide); exact (bn_addI (by omega) (by omega)).trans (by omega)
            refine sg_put (ci := 12) (x := v_196) (ty := .int) (C := RX12) (T := TX12) (N := 55) hx hb hts (fun w h => List.mem_cons_of_mem _ (gx_12 w h)) tyX12 tyX12_ok nmX12 hown hh hA hK hP hS 0 (by decide) rfl rfl 13 (by decide) (hts _ (List.mem_cons_of_mem _ mw_625)) (fun _ h9 => h9) rfl rfl (by decide +kernel) rfl rfl (Nat.le_of_ble_eq_true rfl) dX12_one_161 (fun f_198 H locs ef_198 hP hS => ?_)
            have hI : sgI loM hiM f_198 := by rw [ef_198]; exact sgI.put hI 0 13 (show 0 ≤ (v_196 : Int32).toInt ∧ (v_196 : Int32).toInt ≤ 120 from by omega)
            have hF : sgK WkX12_one_2 f f_198 := sgK.put hF ef_198 (by rfl)
            refine lv_aload_n hx hb dX12_one_164 rfl (lv_at hl 2 rfl) ?_
            refine sg_get (ci := 12) (v := .ref (h 8)) (C := RX12) (T := TX12) (N := 55) hx hb hts (fun w h => List.mem_cons_of_mem _ (gx_12 w h)) hown hK hP 0 (by decide) rfl rfl 17 (by decide) (hts _ (List.mem_cons_of_mem _ mw_871)) (fun _ h9 => h9) rfl dX12_one_165 ?_
            refine lv_iload_n hx hb dX12_one_168 rfl (lv_at hl 0 rfl) ?_
            refine sg_iald hx hb hK hP 8 (by decide) 0 rfl rfl (i := r_192) (vp_in_iff.mpr ⟨by omega, by omega⟩) dX12_one_169 ?_
            refine lv_topi (fun v_199 ev_199 => ?_)
            have q_200 : 0 ≤ v_199.toInt ∧ v_199.toInt ≤ 60 := by rw [ev_199]; exact hI 8 _
            have q_201 : (f_198 0 13).toInt = v_196.toInt := (congrArg Int32.toInt (show f_198 0 13 = v_196 from (by rw [ef_198, sg_up_s, sgu_s])))
            have q_202 : (f_198 0 16).toInt = v_1.toInt := (congrArg Int32.toInt (show f_198 0 16 = v_1 from (by rw [ef_198, sg_up_s, sgu_n (by decide)]; exact ev_1.symm)))
            have q_203 : (f_198 0 15).toInt = v_3.toInt := (congrArg Int32.toInt (show f_198 0 15 = v_3 from (by rw [ef_198, sg_up_s, sgu_n (by decide)]; exact ev_3.symm)))
            have q_204 : (f_198 0 16).toInt = v_1.toInt := (congrArg Int32.toInt (show f_198 0 16 = v_1 from (by rw [ef_198, sg_up_s, sgu_n (by decide)]; exact ev_1.symm)))
            exact hret _ _ _ _ (v_199) f_198 L Q dX12_one_170 hP hS ⟨⟨hI, hF, rfl, rfl⟩, trivial, (by omega), (by omega), (by omega)⟩
        · skip
          have c_188 : r_92.toInt = 40 := (by have z := Int32.toInt_inj.mpr c; have k1 : (40 : Int32).toInt = 40 := (by decide); omega)
          refine lv_aload_n hx hb dX12_one_32 rfl (lv_at hl 1 rfl) ?_
          have c_205 : v_1 = 2 := Int32.toInt_inj.mp (by have k9 : (2 : Int32).toInt = 2 := (by decide); omega)
          refine sg_get (ci := 12) (v := .int 2) (C := RX12) (T := TX12) (N := 55) hx hb hts (fun w h => List.mem_cons_of_mem _ (gx_12 w h)) hown hK hP 0 (by decide) rfl rfl 16 (by decide) (hts _ (List.mem_cons_of_mem _ mw_628)) (fun _ h9 => h9) (congrArg (fun z => some (Value.int z)) (show f 0 16 = 2 from (Eq.trans ev_1.symm c_205))) dX12_one_33 ?_
          refine lv_bipush (v := 6) hx hb dX12_one_36 (by decide) ?_
          refine lv_icmp_ne (tgt := 46) hx hb dX12_one_38 (by decide) (fun c => ?_) (fun c => absurd c (by decide))
          refine lv_aload_n hx hb dX12_one_46 rfl (lv_at hl 1 rfl) ?_
          refine lv_dup hx hb dX12_one_47 rfl ?_
          refine sg_get (ci := 12) (v := .int 2) (C := RX12) (T := TX12) (N := 55) hx hb hts (fun w h => List.mem_cons_of_mem _ (gx_12 w h)) hown hK hP 0 (by decide) rfl rfl 16 (by decide) (hts _ (List.mem_cons_of_mem _ mw_628)) (fun _ h9 => h9) (congrArg (fun z => some (Value.int z)) (show f 0 16 = 2 from (Eq.trans ev_1.symm c_205))) dX12_one_48 ?_
          refine lv_iconst (v := 1) hx hb dX12_one_51 (by decide) ?_
          refine lv_iadd hx hb dX12_one_52 ?_
          refine W.eq (g2 := F0 m 53 ls [.int 3, .ref (h 0)]) (by rw [show (2 + 1 : Int32) = 3 from by decide]) ?_
          refine sg_put (ci := 12) (x := 3) (ty := .int) (C := RX12) (T := TX12) (N := 55) hx hb hts (fun w h => List.mem_cons_of_mem _ (gx_12 w h)) tyX12 tyX12_ok nmX12 hown hh hA hK hP hS 0 (by decide) rfl rfl 16 (by decide) (hts _ (List.mem_cons_of_mem _ mw_628)) (fun _ h9 => h9) rfl rfl (by decide +kernel) rfl rfl (Nat.le_of_ble_eq_true rfl) dX12_one_53 (fun f_206 H locs ef_206 hP hS => ?_)
          have hI : sgI loM hiM f_206 := by rw [ef_206]; exact sgI.put hI 0 16 (show 0 ≤ (3 : Int32).toInt ∧ (3 : Int32).toInt ≤ 6 from by decide)
          have hF : sgK WkX12_one_2 f f_206 := sgK.put hF ef_206 (by rfl)
          refine lv_aload_n hx hb dX12_one_56 rfl (lv_at hl 1 rfl) ?_
          refine lv_dup hx hb dX12_one_57 rfl ?_
          refine sg_get (ci := 12) (v := .int v_5) (C := RX12) (T := TX12) (N := 55) hx hb hts (fun w h => List.mem_cons_of_mem _ (gx_12 w h)) hown hK hP 0 (by decide) rfl rfl 13 (by decide) (hts _ (List.mem_cons_of_mem _ mw_625)) (fun _ h9 => h9) (congrArg (fun z => some (Value.int z)) (show f_206 0 13 = v_5 from (by rw [ef_206, sg_up_s, sgu_n (by decide)]; exact ev_5.symm))) dX12_one_58 ?_
          refine lv_iconst (v := 1) hx hb dX12_one_61 (by decide) ?_
          refine lv_iadd hx hb dX12_one_62 ?_
          refine lv_topi (fun v_207 ev_207 => ?_)
          have q_208 : v_207.toInt = v_5.toInt + 1 := by rw [ev_207]; have k1 : (1 : Int32).toInt = 1 := (by decide); exact (bn_addI (by omega) (by omega)).trans (by omega)
          refine sg_put (ci := 12) (x := v_207) (ty := .int) (C := RX12) (T := TX12) (N := 55) hx hb hts (fun w h => List.mem_cons_of_mem _ (gx_12 w h)) tyX12 tyX12_ok nmX12 hown hh hA hK hP hS 0 (by decide) rfl rfl 13 (by decide) (hts _ (List.mem_cons_of_mem _ mw_625)) (fun _ h9 => h9) rfl rfl (by decide +kernel) rfl rfl (Nat.le_of_ble_eq_true rfl) dX12_one_63 (fun f_209 H locs ef_209 hP hS => ?_)
          have hI : sgI loM hiM f_209 := by rw [ef_209]; exact sgI.put hI 0 13 (show 0 ≤ (v_207 : Int32).toInt ∧ (v_207 : Int32).toInt ≤ 120 from by omega)
          have hF : sgK WkX12_one_2 f f_209 := sgK.put hF ef_209 (by rfl)
          refine lv_iload_n hx hb dX12_one_66 rfl (lv_at hl 0 rfl) ?_
          refine lv_bipush (v := 40) hx hb dX12_one_67 (by decide) ?_
          refine lv_icmp_ne (tgt := 79) hx hb dX12_one_69 (by decide) (fun c => ?_) (fun c => ?_)
          · skip
            exfalso; have c_210 : r_92.toInt ≠ 40 := (by have z := bn_ne c; have k1 : (40 : Int32).toInt = 40 := (by decide); omega); omega
          · skip
            have c_211 : r_92.toInt = 40 := (by have z := Int32.toInt_inj.mpr c; have k1 : (40 : Int32).toInt = 40 := (by decide); omega)
            refine lv_aload_n hx hb dX12_one_72 rfl (lv_at hl 1 rfl) ?_
            have q_212 : (f_209 0 16).toInt = 3 := (congrArg Int32.toInt (show f_209 0 16 = 3 from (by rw [ef_209, sg_up_s, sgu_n (by decide)]; exact (by rw [ef_206, sg_up_s, sgu_s])))).trans (by decide)
            have q_213 : (f_209 0 15).toInt = v_3.toInt := (congrArg Int32.toInt (show f_209 0 15 = v_3 from (by rw [ef_209, sg_up_s, sgu_n (by decide)]; exact (by rw [ef_206, sg_up_s, sgu_n (by decide)]; exact ev_3.symm))))
            have q_214 : (f_209 0 16).toInt = 3 := (congrArg Int32.toInt (show f_209 0 16 = 3 from (by rw [ef_209, sg_up_s, sgu_n (by decide)]; exact (by rw [ef_206, sg_up_s, sgu_s])))).trans (by decide)
            have q_215 : (f_209 0 13).toInt = v_207.toInt := (congrArg Int32.toInt (show f_209 0 13 = v_207 from (by rw [ef_209, sg_up_s, sgu_s])))
            refine sg_calli (va_runV (As := []) (rest := []) ⟨hx, hb, hml, hown, hts⟩ (kX12_either_3 l D ca za h hh f_209 L Q hI (by omega) (by omega) H.size) (cwV 0 hts (gw_V (fun _ h => List.mem_cons_of_mem _ h) mw_893 mw_894 mw_895 mw_619 mw_892) rfl rfl rfl (by decide +kernel) ⟨Nat.le_of_ble_eq_true rfl, Nat.le_of_ble_eq_true rfl⟩) (sg_preV (ci := 12) (C := RX12) (T := TX12) (N := 55) hA hK hP hS hZ 0 (by decide) rfl rfl) rfl rfl hl.1 rfl (lv_room (Nat.le_of_ble_eq_true rfl)) dX12_one_73 ⟨Nat.le_refl _, Nat.le_refl _⟩) hA hS (fun r_219 f_216 L_217 Q_218 H locs hq hP hS => ?_)
            obtain ⟨⟨hI, hk_f_216, eL9, eQ9⟩, hq, p_220, p_221, p_222⟩ := hq
            rw [eL9, eQ9] at hP; clear eL9 eQ9
            have hF : sgK WkX12_one_2 f f_216 := sgK.tr hF hk_f_216 (by decide)
            obtain ⟨v_223, ev_223⟩ : ∃ z : Int32, z = f_216 0 13 := ⟨_, rfl⟩
            have q_224 : 0 ≤ v_223.toInt ∧ v_223.toInt ≤ 120 := by rw [ev_223]; exact hI 0 13
            have q_225 : (f_216 0 13).toInt = v_223.toInt := (congrArg Int32.toInt (show f_216 0 13 = v_223 from ev_223.symm))
            obtain ⟨v_226, ev_226⟩ : ∃ z : Int32, z = f_216 0 16 := ⟨_, rfl⟩
            have q_227 : 0 ≤ v_226.toInt ∧ v_226.toInt ≤ 6 := by rw [ev_226]; exact hI 0 16
            have q_228 : (f_216 0 16).toInt = v_226.toInt := (congrArg Int32.toInt (show f_216 0 16 = v_226 from ev_226.symm))
            obtain ⟨v_229, ev_229⟩ : ∃ z : Int32, z = f_216 0 15 := ⟨_, rfl⟩
            have q_230 : (-1) ≤ v_229.toInt ∧ v_229.toInt ≤ 120 := by rw [ev_229]; exact hI 0 15
            have q_231 : (f_216 0 15).toInt = v_229.toInt := (congrArg Int32.toInt (show f_216 0 15 = v_229 from ev_229.symm))
            have q_232 : (f_216 0 16).toInt = v_226.toInt := (congrArg Int32.toInt (show f_216 0 16 = v_226 from ev_226.symm))
            refine lv_goto (tgt := 83) hx hb dX12_one_76 (by decide) ?_
            refine lv_istore_n (lv' := [(2, .int r_219), (1, .int r_92), (0, .ref (h 0))]) hx hb dX12_one_83 rfl hl (by decide) rfl (fun ls hl => ?_)
            refine lv_iload_n hx hb dX12_one_84 rfl (lv_at hl 1 rfl) ?_
            refine lv_bipush (v := 40) hx hb dX12_one_85 (by decide) ?_
            refine lv_icmp_ne (tgt := 104) hx hb dX12_one_87 (by decide) (fun c => ?_) (fun c => ?_)
            · skip
              exfalso; have c_233 : r_92.toInt ≠ 40 := (by have z := bn_ne c; have k1 : (40 : Int32).toInt = 40 := (by decide); omega); omega
            · skip
              have c_234 : r_92.toInt = 40 := (by have z := Int32.toInt_inj.mpr c; have k1 : (40 : Int32).toInt = 40 := (by decide); omega)
              refine lv_aload_n hx hb dX12_one_90 rfl (lv_at hl 2 rfl) ?_
              refine lv_bipush (v := 41) hx hb dX12_one_91 (by decide) ?_
              have q_235 : (f_216 0 15).toInt = v_229.toInt := (congrArg Int32.toInt (show f_216 0 15 = v_229 from ev_229.symm))
              have q_236 : (f_216 0 13).toInt = v_223.toInt := (congrArg Int32.toInt (show f_216 0 13 = v_223 from ev_223.symm))
              have q_237 : (f_216 0 14).toInt = v_86.toInt := (congrArg Int32.toInt (show f_216 0 14 = v_86 from ((hk_f_216 0 14 (by decide)).trans (by rw [ef_209, sg_up_s, sgu_n (by decide)]; exact (by rw [ef_206, sg_up_s, sgu_n (by decide)]; exact ev_86.symm)))))
              have q_238 : (f_216 0 13).toInt = v_223.toInt := (congrArg Int32.toInt (show f_216 0 13 = v_223 from ev_223.symm))
              have q_239 : (f_216 0 13).toInt = v_223.toInt := (congrArg Int32.toInt (show f_216 0 13 = v_223 from ev_223.symm))
              refine sg_calli (va_runV (As := [.int 41]) (rest := []) ⟨hx, hb, hml, hown, hts⟩ (kX12_takes_41 l D ca za h hh f_216 L Q hI H.size) (cwV 1 hts (gw_V (fun _ h => List.mem_cons_of_mem _ h) mw_877 mw_878 mw_879 mw_619 mw_876) rfl rfl rfl (by decide +kernel) ⟨Nat.le_of_ble_eq_true rfl, Nat.le_of_ble_eq_true rfl⟩) (sg_preV (ci := 12) (C := RX12) (T := TX12) (N := 55) hA hK hP hS hZ 0 (by decide) rfl rfl) rfl rfl hl.1 rfl (lv_room (Nat.le_of_ble_eq_true rfl)) dX12_one_93 ⟨Nat.le_refl _, Nat.le_refl _⟩) hA hS (fun r_243 f_240 L_241 Q_242 H locs hq hP hS => ?_)
              obtain ⟨⟨hI, hk_f_240, eL9, eQ9⟩, hq⟩ := hq
              rw [eL9, eQ9] at hP; clear eL9 eQ9
              have hF : sgK WkX12_one_2 f f_240 := sgK.tr hF hk_f_240 (by decide)
              obtain ⟨v_244, ev_244⟩ : ∃ z : Int32, z = f_240 0 13 := ⟨_, rfl⟩
              have q_245 : 0 ≤ v_244.toInt ∧ v_244.toInt ≤ 120 := by rw [ev_244]; exact hI 0 13
              have q_246 : (f_240 0 13).toInt = v_244.toInt := (congrArg Int32.toInt (show f_240 0 13 = v_244 from ev_244.symm))
              have q_247 : (f_240 0 13).toInt = v_244.toInt := (congrArg Int32.toInt (show f_240 0 13 = v_244 from ev_244.symm))
              have k_248 : (41 : Int32).toInt = 41 := by decide
              rcases hq with ⟨rfl, hq⟩ | ⟨rfl, hq⟩
              · skip
                have q_249 := hq
                refine lv_if_ne (tgt := 104) hx hb dX12_one_96 (by decide) (fun c => ?_) (fun c => absurd c (by decide))
                refine lv_aload_n hx hb dX12_one_104 rfl (lv_at hl 2 rfl) ?_
                refine lv_dup hx hb dX12_one_105 rfl ?_
                refine sg_get (ci := 12) (v := .int v_226) (C := RX12) (T := TX12) (N := 55) hx hb hts (fun w h => List.mem_cons_of_mem _ (gx_12 w h)) hown hK hP 0 (by decide) rfl rfl 16 (by decide) (hts _ (List.mem_cons_of_mem _ mw_628)) (fun _ h9 => h9) (congrArg (fun z => some (Value.int z)) (show f_240 0 16 = v_226 from ((hk_f_240 0 16 (by decide)).trans ev_226.symm))) dX12_one_106 ?_
                refine lv_iconst (v := 1) hx hb dX12_one_109 (by decide) ?_
                refine lv_isub hx hb dX12_one_110 ?_
                refine lv_topi (fun v_250 ev_250 => ?_)
                have q_251 : v_250.toInt = v_226.toInt - 1 := by rw [ev_250]; have k1 : (1 : Int32).toInt = 1 := (by decide); exact (bn_subI (by omega) (by omega)).trans (by omega)
                refine sg_put (ci := 12) (x := v_250) (ty := .int) (C := RX12) (T := TX12) (N := 55) hx hb hts (fun w h => List.mem_cons_of_mem _ (gx_12 w h)) tyX12 tyX12_ok nmX12 hown hh hA hK hP hS 0 (by decide) rfl rfl 16 (by decide) (hts _ (List.mem_cons_of_mem _ mw_628)) (fun _ h9 => h9) rfl rfl (by decide +kernel) rfl rfl (Nat.le_of_ble_eq_true rfl) dX12_one_111 (fun f_252 H locs ef_252 hP hS => ?_)
                have hI : sgI loM hiM f_252 := by rw [ef_252]; exact sgI.put hI 0 16 (show 0 ≤ (v_250 : Int32).toInt ∧ (v_250 : Int32).toInt ≤ 6 from by omega)
                have hF : sgK WkX12_one_2 f f_252 := sgK.put hF ef_252 (by rfl)
                refine lv_iload_n hx hb dX12_one_114 rfl (lv_at hl 1 rfl) ?_
                refine lv_bipush (v := 40) hx hb dX12_one_115 (by decide) ?_
                refine lv_icmp_ne (tgt := 124) hx hb dX12_one_117 (by decide) (fun c => ?_) (fun c => ?_)
                · skip
                  exfalso; have c_253 : r_92.toInt ≠ 40 := (by have z := bn_ne c; have k1 : (40 : Int32).toInt = 40 := (by decide); omega); omega
                · skip
                  have c_254 : r_92.toInt = 40 := (by have z := Int32.toInt_inj.mpr c; have k1 : (40 : Int32).toInt = 40 := (by decide); omega)
                  refine lv_iload_n hx hb dX12_one_120 rfl (lv_at hl 0 rfl) ?_
                  refine lv_goto (tgt := 144) hx hb dX12_one_121 (by decide) ?_
                  have q_255 : (f_252 0 13).toInt = v_244.toInt := (congrArg Int32.toInt (show f_252 0 13 = v_244 from (by rw [ef_252, sg_up_s, sgu_n (by decide)]; exact ev_244.symm)))
                  have q_256 : (f_252 0 16).toInt = v_250.toInt := (congrArg Int32.toInt (show f_252 0 16 = v_250 from (by rw [ef_252, sg_up_s, sgu_s])))
                  have q_257 : (f_252 0 15).toInt = v_229.toInt := (congrArg Int32.toInt (show f_252 0 15 = v_229 from (by rw [ef_252, sg_up_s, sgu_n (by decide)]; exact ((hk_f_240 0 15 (by decide)).trans ev_229.symm))))
                  have q_258 : (f_252 0 16).toInt = v_250.toInt := (congrArg Int32.toInt (show f_252 0 16 = v_250 from (by rw [ef_252, sg_up_s, sgu_s])))
                  exact hret _ _ _ _ (r_219) f_252 L Q dX12_one_144 hP hS ⟨⟨hI, hF, rfl, rfl⟩, trivial, (by omega), (by omega), (by omega)⟩
              · skip
                have q_259 := hq
                refine lv_if_ne (tgt := 104) hx hb dX12_one_96 (by decide) (fun c => absurd c (by decide)) (fun c => ?_)
                refine lv_aload_n hx hb dX12_one_99 rfl (lv_at hl 2 rfl) ?_
                refine sg_calli (va_runV (As := []) (rest := []) ⟨hx, hb, hml, hown, hts⟩ (kX12_wrong l D ca za h hh f_240 L Q hI H.size) (cwV 0 hts (gw_V (fun _ h => List.mem_cons_of_mem _ h) mw_889 mw_890 mw_891 mw_619 mw_888) rfl rfl rfl (by decide +kernel) ⟨Nat.le_of_ble_eq_true rfl, Nat.le_of_ble_eq_true rfl⟩) (sg_preV (ci := 12) (C := RX12) (T := TX12) (N := 55) hA hK hP hS hZ 0 (by decide) rfl rfl) rfl rfl hl.1 rfl (lv_room (Nat.le_of_ble_eq_true rfl)) dX12_one_100 ⟨Nat.le_refl _, Nat.le_refl _⟩) hA hS (fun r_263 f_260 L_261 Q_262 H locs hq hP hS => ?_)
                obtain ⟨⟨hI, hk_f_260, eL9, eQ9⟩, hq, p_264⟩ := hq
                rw [eL9, eQ9] at hP; clear eL9 eQ9
                have hF : sgK WkX12_one_2 f f_260 := sgK.tr hF hk_f_260 (by decide)
                obtain ⟨v_265, ev_265⟩ : ∃ z : Int32, z = f_260 0 15 := ⟨_, rfl⟩
                have q_266 : (-1) ≤ v_265.toInt ∧ v_265.toInt ≤ 120 := by rw [ev_265]; exact hI 0 15
                have q_267 : (f_260 0 15).toInt = v_265.toInt := (congrArg Int32.toInt (show f_260 0 15 = v_265 from ev_265.symm))
                obtain rfl : r_263 = 0 := Int32.toInt_inj.mp (by have k9 : (0 : Int32).toInt = 0 := (by decide); omega)
                have q_268 : (f_260 0 13).toInt = v_244.toInt := (congrArg Int32.toInt (show f_260 0 13 = v_244 from ((hk_f_260 0 13 (by decide)).trans ev_244.symm)))
                have q_269 : (f_260 0 16).toInt = v_226.toInt := (congrArg Int32.toInt (show f_260 0 16 = v_226 from ((hk_f_260 0 16 (by decide)).trans ((hk_f_240 0 16 (by decide)).trans ev_226.symm))))
                have q_270 : (f_260 0 15).toInt = v_265.toInt := (congrArg Int32.toInt (show f_260 0 15 = v_265 from ev_265.symm))
                have q_271 : (f_260 0 16).toInt = v_226.toInt := (congrArg Int32.toInt (show f_260 0 16 = v_226 from ((hk_f_260 0 16 (by decide)).trans ((hk_f_240 0 16 (by decide)).trans ev_226.symm))))
                have k99 : (0 : Int32).toInt = 0 := (by decide)
                exact hret _ _ _ _ (0) f_260 L Q dX12_one_103 hP hS ⟨⟨hI, hF, rfl, rfl⟩, trivial, (by omega), (by omega), (by omega)⟩
  · skip
    have c_84 : 0 ≤ v_3.toInt := (by have z := bn_nlt c; have k1 : (0 : Int32).toInt = 0 := (by decide); omega)
    refine lv_iconst (v := 0) hx hb dX12_one_7 (by decide) ?_
    have q_272 : (f 0 13).toInt = v_5.toInt := (congrArg Int32.toInt (show f 0 13 = v_5 from ev_5.symm))
    have q_273 : (f 0 16).toInt = v_1.toInt := (congrArg Int32.toInt (show f 0 16 = v_1 from ev_1.symm))
    have q_274 : (f 0 15).toInt = v_3.toInt := (congrArg Int32.toInt (show f 0 15 = v_3 from ev_3.symm))
    have q_275 : (f 0 16).toInt = v_1.toInt := (congrArg Int32.toInt (show f 0 16 = v_1 from ev_1.symm))
    have k99 : (0 : Int32).toInt = 0 := (by decide)
    exact hret _ _ _ _ (0) f L Q dX12_one_8 hP hS ⟨⟨hI, hF, rfl, rfl⟩, trivial, (by omega), (by omega), (by omega)⟩

abbrev WkX12_product_2 : List (Nat × Nat × Option Nat) := [(0, 0, some 13), (0, 0, some 15), (0, 0, some 16)]
set_option maxHeartbeats 4000000 in
set_option maxRecDepth 100000 in
theorem kX12_product_2 (l : Launch) (D : va_G) (ca : Nat → ClassId) (za h : Nat → Nat) (hh : sgH 26 h) (f : sg_F) (L : sg_L) (Q : sg_Q) (hI : sgI loM hiM f) (p0 : 2 ≤ (f 0 16).toInt) (p1 : 0 ≤ (f 0 15).toInt ∨ (f 0 16).toInt = 2) (sz : Nat) : Met l yX12_product gwX12_product { frames := 26, cells := 0, slots := 0, locals := 592 } (sgP D vwCl (tyX ca) 26 h (eM ca h) zcM za f L Q sz [.ref (h 0)]) (sgQi D vwCl 26 h (eM ca h) sz (fun r f1 L1 Q1 => ((sgI loM hiM f1 ∧ sgK WkX12_product_2 f f1 ∧ L1 = L ∧ Q1 = Q) ∧ True ∧ ((f 0 13).toInt ≤ (f1 0 13).toInt) ∧ (2 ≤ (f1 0 16).toInt) ∧ (0 ≤ (f1 0 15).toInt ∨ (f1 0 16).toInt = 2)))) 0 0 (sgA 26 h sz) := by
  refine sg_ofWi (cc := cX12_product) (maxL := 4) RX12 (by decide) rfl rfl (Nat.le_of_ble_eq_true rfl) ?_
  intro p e s m below meth cd Qz ls hx hb hml hown hts hK hZ hP hS hl hret
  have hA := sgY.self (n := 26) (h := h) (sz := s.heap.size)
  have hl : lv_has ls 4 [(0, .ref (h 0))] := hl
  obtain ⟨H, hH⟩ : ∃ z : Heap, z = s.heap := ⟨_, rfl⟩
  obtain ⟨locs, hlo⟩ : ∃ z : List Loc, z = [] := ⟨_, rfl⟩
  have hP : va_P D vwCl (sgw 26 h (eM ca h) f L Q) H := by rw [hH]; exact hP
  have hS : va_S (sgA 26 h s.heap.size) s.heap H locs := by rw [hH, hlo]; exact hS
  suffices hgo : W p l e ({ frames := 26, cells := 0, slots := 0, locals := 592 }) s m ([.ref (h 0)] : List Value).toArray below meth cd H locs 0 0 Qz (F0 m 0 ls []) by rw [hH, hlo] at hgo; exact hgo
  clear hH hlo
  obtain ⟨v_1, ev_1⟩ : ∃ z : Int32, z = f 0 16 := ⟨_, rfl⟩
  have q_2 : 0 ≤ v_1.toInt ∧ v_1.toInt ≤ 6 := by rw [ev_1]; exact hI 0 16
  obtain ⟨v_3, ev_3⟩ : ∃ z : Int32, z = f 0 15 := ⟨_, rfl⟩
  have q_4 : (-1) ≤ v_3.toInt ∧ v_3.toInt ≤ 120 := by rw [ev_3]; exact hI 0 15
  obtain ⟨v_5, ev_5⟩ : ∃ z : Int32, z = f 0 13 := ⟨_, rfl⟩
  have q_6 : 0 ≤ v_5.toInt ∧ v_5.toInt ≤ 120 := by rw [ev_5]; exact hI 0 13
  obtain ⟨v_7, ev_7⟩ : ∃ z : Int32, z = f 0 14 := ⟨_, rfl⟩
  have q_8 : 0 ≤ v_7.toInt ∧ v_7.toInt ≤ 120 := by rw [ev_7]; exact hI 0 14
  have o_9 : (f 0 16).toInt = v_1.toInt := (congrArg Int32.toInt (show f 0 16 = v_1 from ev_1.symm))
  have o_10 : (f 0 15).toInt = v_3.toInt := (congrArg Int32.toInt (show f 0 15 = v_3 from ev_3.symm))
  have o_11 : (f 0 13).toInt = v_5.toInt := (congrArg Int32.toInt (show f 0 13 = v_5 from ev_5.symm))
  have o_12 : (f 0 14).toInt = v_7.toInt := (congrArg Int32.toInt (show f 0 14 = v_7 from ev_7.symm))
  have hF : sgK WkX12_product_2 f f := sgK.rf
  have loop_10 : ∀ (n_10 : Nat) (y1_10 : Int32) (y2_10 : Int32) (fp_10 : sg_F) (H : Heap) (locs : List Loc) (ls : Array Slot), 120 - (fp_10 0 13).toInt < (n_10 : Int) → 0 ≤ y2_10.toInt ∧ y2_10.toInt ≤ 255 → (f 0 13).toInt ≤ (fp_10 0 13).toInt → 2 ≤ (fp_10 0 16).toInt → 0 ≤ (fp_10 0 15).toInt ∨ (fp_10 0 16).toInt = 2 → y2_10.toInt = 0 ∨ (fp_10 0 13).toInt < (fp_10 0 14).toInt → sgI loM hiM fp_10 → sgK WkX12_product_2 f fp_10 → va_P D vwCl (sgw 26 h (eM ca h) fp_10 L Q) H → va_S (sgA 26 h s.heap.size) s.heap H locs → lv_has ls 4 [(0, .ref (h 0)), (1, .int y1_10), (2, .int y2_10)] → W p l e ({ frames := 26, cells := 0, slots := 0, locals := 592 }) s m ([.ref (h 0)] : List Value).toArray below meth cd H locs 0 0 Qz (F0 m 10 ls []) := by
    intro n_10
    induction n_10 with
    | zero => intro y1_10 y2_10 fp_10 H locs ls hm_10 hy0_10 hg0_10 hg1_10 hg2_10 hg3_10 hI hF hP hS hl; have zb := (show 0 ≤ (fp_10 0 13).toInt ∧ (fp_10 0 13).toInt ≤ 120 from hI 0 13); exact absurd hm_10 (by omega)
    | succ n_10 ih_10 =>
      intro y1_10 y2_10 fp_10 H locs ls hm_10 hy0_10 hg0_10 hg1_10 hg2_10 hg3_10 hI hF hP hS hl
      obtain ⟨v_13, ev_13⟩ : ∃ z : Int32, z = fp_10 0 13 := ⟨_, rfl⟩
      have q_14 : 0 ≤ v_13.toInt ∧ v_13.toInt ≤ 120 := by rw [ev_13]; exact hI 0 13
      have q_15 : (fp_10 0 13).toInt = v_13.toInt := by rw [ev_13]
      obtain ⟨v_16, ev_16⟩ : ∃ z : Int32, z = fp_10 0 16 := ⟨_, rfl⟩
      have q_17 : 0 ≤ v_16.toInt ∧ v_16.toInt ≤ 6 := by rw [ev_16]; exact hI 0 16
      have q_18 : (fp_10 0 16).toInt = v_16.toInt := by rw [ev_16]
      obtain ⟨v_19, ev_19⟩ : ∃ z : Int32, z = fp_10 0 15 := ⟨_, rfl⟩
      have q_20 : (-1) ≤ v_19.toInt ∧ v_19.toInt ≤ 120 := by rw [ev_19]; exact hI 0 15
      have q_21 : (fp_10 0 15).toInt = v_19.toInt := by rw [ev_19]
      obtain ⟨v_22, ev_22⟩ : ∃ z : Int32, z = fp_10 0 14 := ⟨_, rfl⟩
      have q_23 : 0 ≤ v_22.toInt ∧ v_22.toInt ≤ 120 := by rw [ev_22]; exact hI 0 14
      have q_24 : (fp_10 0 14).toInt = v_22.toInt := by rw [ev_22]
      refine lv_aload_n hx hb dX12_product_10 rfl (lv_at hl 0 rfl) ?_
      refine sg_get (ci := 12) (v := .int v_19) (C := RX12) (T := TX12) (N := 55) hx hb hts (fun w h => List.mem_cons_of_mem _ (gx_12 w h)) hown hK hP 0 (by decide) rfl rfl 15 (by decide) (hts _ (List.mem_cons_of_mem _ mw_627)) (fun _ h9 => h9) (congrArg (fun z => some (Value.int z)) (show fp_10 0 15 = v_19 from ev_19.symm)) dX12_product_11 ?_
      refine lv_if_ge (tgt := 94) hx hb dX12_product_14 (by decide) (fun c => ?_) (fun c => ?_)
      · skip
        have c_25 : 0 ≤ v_19.toInt := (by have z := bn_le c; have k1 : (0 : Int32).toInt = 0 := (by decide); omega)
        refine lv_iload_n hx hb dX12_product_94 rfl (lv_at hl 1 rfl) ?_
        have q_27 : (fp_10 0 13).toInt = v_13.toInt := (congrArg Int32.toInt (show fp_10 0 13 = v_13 from ev_13.symm))
        have q_28 : (fp_10 0 16).toInt = v_16.toInt := (congrArg Int32.toInt (show fp_10 0 16 = v_16 from ev_16.symm))
        have q_29 : (fp_10 0 15).toInt = v_19.toInt := (congrArg Int32.toInt (show fp_10 0 15 = v_19 from ev_19.symm))
        have q_30 : (fp_10 0 16).toInt = v_16.toInt := (congrArg Int32.toInt (show fp_10 0 16 = v_16 from ev_16.symm))
        exact hret _ _ _ _ (y1_10) fp_10 L Q dX12_product_95 hP hS ⟨⟨hI, hF, rfl, rfl⟩, trivial, (by omega), (by omega), (by omega)⟩
      · skip
        have c_26 : v_19.toInt < 0 := (by have z := bn_nle c; have k1 : (0 : Int32).toInt = 0 := (by decide); omega)
        refine lv_iload_n hx hb dX12_product_17 rfl (lv_at hl 2 rfl) ?_
        refine lv_bipush (v := 42) hx hb dX12_product_18 (by decide) ?_
        refine lv_icmp_eq (tgt := 35) hx hb dX12_product_20 (by decide) (fun c => ?_) (fun c => ?_)
        · skip
          have c_31 : y2_10.toInt = 42 := (by have z := Int32.toInt_inj.mpr c; have k1 : (42 : Int32).toInt = 42 := (by decide); omega)
          refine lv_aload_n hx hb dX12_product_35 rfl (lv_at hl 0 rfl) ?_
          refine lv_dup hx hb dX12_product_36 rfl ?_
          refine sg_get (ci := 12) (v := .int v_13) (C := RX12) (T := TX12) (N := 55) hx hb hts (fun w h => List.mem_cons_of_mem _ (gx_12 w h)) hown hK hP 0 (by decide) rfl rfl 13 (by decide) (hts _ (List.mem_cons_of_mem _ mw_625)) (fun _ h9 => h9) (congrArg (fun z => some (Value.int z)) (show fp_10 0 13 = v_13 from ev_13.symm)) dX12_product_37 ?_
          refine lv_iconst (v := 1) hx hb dX12_product_40 (by decide) ?_
          refine lv_iadd hx hb dX12_product_41 ?_
          refine lv_topi (fun v_33 ev_33 => ?_)
          have q_34 : v_33.toInt = v_13.toInt + 1 := by rw [ev_33]; have k1 : (1 : Int32).toInt = 1 := (by decide); exact (bn_addI (by omega) (by omega)).trans (by omega)
          refine sg_put (ci := 12) (x := v_33) (ty := .int) (C := RX12) (T := TX12) (N := 55) hx hb hts (fun w h => List.mem_cons_of_mem _ (gx_12 w h)) tyX12 tyX12_ok nmX12 hown hh hA hK hP hS 0 (by decide) rfl rfl 13 (by decide) (hts _ (List.mem_cons_of_mem _ mw_625)) (fun _ h9 => h9) rfl rfl (by decide +kernel) rfl rfl (Nat.le_of_ble_eq_true rfl) dX12_product_42 (fun f_35 H locs ef_35 hP hS => ?_)
          have hI : sgI loM hiM f_35 := by rw [ef_35]; exact sgI.put hI 0 13 (show 0 ≤ (v_33 : Int32).toInt ∧ (v_33 : Int32).toInt ≤ 120 from by omega)
          have hF : sgK WkX12_product_2 f f_35 := sgK.put hF ef_35 (by rfl)
          refine lv_aload_n hx hb dX12_product_45 rfl (lv_at hl 0 rfl) ?_
          have q_36 : (f_35 0 16).toInt = v_16.toInt := (congrArg Int32.toInt (show f_35 0 16 = v_16 from (by rw [ef_35, sg_up_s, sgu_n (by decide)]; exact ev_16.symm)))
          have q_37 : (f_35 0 15).toInt = v_19.toInt := (congrArg Int32.toInt (show f_35 0 15 = v_19 from (by rw [ef_35, sg_up_s, sgu_n (by decide)]; exact ev_19.symm)))
          have q_38 : (f_35 0 16).toInt = v_16.toInt := (congrArg Int32.toInt (show f_35 0 16 = v_16 from (by rw [ef_35, sg_up_s, sgu_n (by decide)]; exact ev_16.symm)))
          have q_39 : (f_35 0 13).toInt = v_33.toInt := (congrArg Int32.toInt (show f_35 0 13 = v_33 from (by rw [ef_35, sg_up_s, sgu_s])))
          refine sg_calli (va_runV (As := []) (rest := []) ⟨hx, hb, hml, hown, hts⟩ (kX12_one_2 l D ca za h hh f_35 L Q hI (by omega) (by omega) H.size) (cwV 0 hts (gw_V (fun _ h => List.mem_cons_of_mem _ h) mw_789 mw_790 mw_791 mw_619 mw_788) rfl rfl rfl (by decide +kernel) ⟨Nat.le_of_ble_eq_true rfl, Nat.le_of_ble_eq_true rfl⟩) (sg_preV (ci := 12) (C := RX12) (T := TX12) (N := 55) hA hK hP hS hZ 0 (by decide) rfl rfl) rfl rfl hl.1 rfl (lv_room (Nat.le_of_ble_eq_true rfl)) dX12_product_46 ⟨Nat.le_refl _, Nat.le_refl _⟩) hA hS (fun r_43 f_40 L_41 Q_42 H locs hq hP hS => ?_)
          obtain ⟨⟨hI, hk_f_40, eL9, eQ9⟩, hq, p_44, p_45, p_46⟩ := hq
          rw [eL9, eQ9] at hP; clear eL9 eQ9
          have hF : sgK WkX12_product_2 f f_40 := sgK.tr hF hk_f_40 (by decide)
          obtain ⟨v_47, ev_47⟩ : ∃ z : Int32, z = f_40 0 13 := ⟨_, rfl⟩
          have q_48 : 0 ≤ v_47.toInt ∧ v_47.toInt ≤ 120 := by rw [ev_47]; exact hI 0 13
          have q_49 : (f_40 0 13).toInt = v_47.toInt := (congrArg Int32.toInt (show f_40 0 13 = v_47 from ev_47.symm))
          obtain ⟨v_50, ev_50⟩ : ∃ z : Int32, z = f_40 0 16 := ⟨_, rfl⟩
          have q_51 : 0 ≤ v_50.toInt ∧ v_50.toInt ≤ 6 := by rw [ev_50]; exact hI 0 16
          have q_52 : (f_40 0 16).toInt = v_50.toInt := (congrArg Int32.toInt (show f_40 0 16 = v_50 from ev_50.symm))
          obtain ⟨v_53, ev_53⟩ : ∃ z : Int32, z = f_40 0 15 := ⟨_, rfl⟩
          have q_54 : (-1) ≤ v_53.toInt ∧ v_53.toInt ≤ 120 := by rw [ev_53]; exact hI 0 15
          have q_55 : (f_40 0 15).toInt = v_53.toInt := (congrArg Int32.toInt (show f_40 0 15 = v_53 from ev_53.symm))
          have q_56 : (f_40 0 16).toInt = v_50.toInt := (congrArg Int32.toInt (show f_40 0 16 = v_50 from ev_50.symm))
          refine lv_istore_n (lv' := [(3, .int r_43), (0, .ref (h 0)), (1, .int y1_10), (2, .int y2_10)]) hx hb dX12_product_49 rfl hl (by decide) rfl (fun ls hl => ?_)
          refine lv_iload_n hx hb dX12_product_50 rfl (lv_at hl 3 rfl) ?_
          refine lv_bipush (v := 42) hx hb dX12_product_51 (by decide) ?_
          refine lv_icmp_ne (tgt := 62) hx hb dX12_product_53 (by decide) (fun c => ?_) (fun c => ?_)
          · skip
            exfalso; have c_57 : y2_10.toInt ≠ 42 := (by have z := bn_ne c; have k1 : (42 : Int32).toInt = 42 := (by decide); omega); omega
          · skip
            have c_58 : y2_10.toInt = 42 := (by have z := Int32.toInt_inj.mpr c; have k1 : (42 : Int32).toInt = 42 := (by decide); omega)
            refine lv_iload_n hx hb dX12_product_56 rfl (lv_at hl 2 rfl) ?_
            refine lv_iload_n hx hb dX12_product_57 rfl (lv_at hl 0 rfl) ?_
            refine lv_imul hx hb dX12_product_58 ?_
            refine lv_topi (fun v_59 ev_59 => ?_)
            refine lv_goto (tgt := 85) hx hb dX12_product_59 (by decide) ?_
            refine lv_istore_n (lv' := [(1, .int v_59), (3, .int r_43), (0, .ref (h 0)), (2, .int y2_10)]) hx hb dX12_product_85 rfl hl (by decide) rfl (fun ls hl => ?_)
            refine lv_aload_n hx hb dX12_product_86 rfl (lv_at hl 2 rfl) ?_
            have q_60 : (f_40 0 13).toInt = v_47.toInt := (congrArg Int32.toInt (show f_40 0 13 = v_47 from ev_47.symm))
            have q_61 : (f_40 0 14).toInt = v_22.toInt := (congrArg Int32.toInt (show f_40 0 14 = v_22 from ((hk_f_40 0 14 (by decide)).trans (by rw [ef_35, sg_up_s, sgu_n (by decide)]; exact ev_22.symm))))
            refine sg_calli (va_runV (As := []) (rest := []) ⟨hx, hb, hml, hown, hts⟩ (kX12_byteAt l D ca za h hh f_40 L Q hI H.size) (cwV 0 hts (gw_V (fun _ h => List.mem_cons_of_mem _ h) mw_840 mw_841 mw_842 mw_619 mw_839) rfl rfl rfl (by decide +kernel) ⟨Nat.le_of_ble_eq_true rfl, Nat.le_of_ble_eq_true rfl⟩) (sg_preV (ci := 12) (C := RX12) (T := TX12) (N := 55) hA hK hP hS hZ 0 (by decide) rfl rfl) rfl rfl hl.1 rfl (lv_room (Nat.le_of_ble_eq_true rfl)) dX12_product_87 ⟨Nat.le_refl _, Nat.le_refl _⟩) hA hS (fun r_65 f_62 L_63 Q_64 H locs hq hP hS => ?_)
            obtain ⟨⟨ef9, eL9, eQ9⟩, hq, p_66⟩ := hq
            rw [ef9, eL9, eQ9] at hP; clear ef9 eL9 eQ9
            refine lv_istore_n (lv' := [(2, .int r_65), (1, .int v_59), (3, .int r_43), (0, .ref (h 0))]) hx hb dX12_product_90 rfl hl (by decide) rfl (fun ls hl => ?_)
            refine lv_goto (tgt := 10) hx hb dX12_product_91 (by decide) ?_
            exact ih_10 v_59 r_65 f_40 _ _ _ (by have zz0_13 : (f_40 0 13).toInt = v_47.toInt := (congrArg Int32.toInt (show f_40 0 13 = v_47 from ev_47.symm)); omega) (by omega) (by have zz0_13 : (f_40 0 13).toInt = v_47.toInt := (congrArg Int32.toInt (show f_40 0 13 = v_47 from ev_47.symm)); omega) (by have zz0_16 : (f_40 0 16).toInt = v_50.toInt := (congrArg Int32.toInt (show f_40 0 16 = v_50 from ev_50.symm)); omega) (by have zz0_15 : (f_40 0 15).toInt = v_53.toInt := (congrArg Int32.toInt (show f_40 0 15 = v_53 from ev_53.symm)); have zz0_16 : (f_40 0 16).toInt = v_50.toInt := (congrArg Int32.toInt (show f_40 0 16 = v_50 from ev_50.symm)); omega) (by have zz0_13 : (f_40 0 13).toInt = v_47.toInt := (congrArg Int32.toInt (show f_40 0 13 = v_47 from ev_47.symm)); have zz0_14 : (f_40 0 14).toInt = v_22.toInt := (congrArg Int32.toInt (show f_40 0 14 = v_22 from ((hk_f_40 0 14 (by decide)).trans (by rw [ef_35, sg_up_s, sgu_n (by decide)]; exact ev_22.symm)))); omega) hI hF hP hS (lv_sub hl [3, 1, 0] rfl)
        · skip
          have c_32 : y2_10.toInt ≠ 42 := (by have z := bn_ne c; have k1 : (42 : Int32).toInt = 42 := (by decide); omega)
          refine lv_iload_n hx hb dX12_product_23 rfl (lv_at hl 2 rfl) ?_
          refine lv_bipush (v := 47) hx hb dX12_product_24 (by decide) ?_
          refine lv_icmp_eq (tgt := 35) hx hb dX12_product_26 (by decide) (fun c => ?_) (fun c => ?_)
          · skip
            have c_67 : y2_10.toInt = 47 := (by have z := Int32.toInt_inj.mpr c; have k1 : (47 : Int32).toInt = 47 := (by decide); omega)
            refine lv_aload_n hx hb dX12_product_35 rfl (lv_at hl 0 rfl) ?_
            refine lv_dup hx hb dX12_product_36 rfl ?_
            refine sg_get (ci := 12) (v := .int v_13) (C := RX12) (T := TX12) (N := 55) hx hb hts (fun w h => List.mem_cons_of_mem _ (gx_12 w h)) hown hK hP 0 (by decide) rfl rfl 13 (by decide) (hts _ (List.mem_cons_of_mem _ mw_625)) (fun _ h9 => h9) (congrArg (fun z => some (Value.int z)) (show fp_10 0 13 = v_13 from ev_13.symm)) dX12_product_37 ?_
            refine lv_iconst (v := 1) hx hb dX12_product_40 (by decide) ?_
            refine lv_iadd hx hb dX12_product_41 ?_
            refine lv_topi (fun v_69 ev_69 => ?_)
            have q_70 : v_69.toInt = v_13.toInt + 1 := by rw [ev_69]; have k1 : (1 : Int32).toInt = 1 := (by decide); exact (bn_addI (by omega) (by omega)).trans (by omega)
            refine sg_put (ci := 12) (x := v_69) (ty := .int) (C := RX12) (T := TX12) (N := 55) hx hb hts (fun w h => List.mem_cons_of_mem _ (gx_12 w h)) tyX12 tyX12_ok nmX12 hown hh hA hK hP hS 0 (by decide) rfl rfl 13 (by decide) (hts _ (List.mem_cons_of_mem _ mw_625)) (fun _ h9 => h9) rfl rfl (by decide +kernel) rfl rfl (Nat.le_of_ble_eq_true rfl) dX12_product_42 (fun f_71 H locs ef_71 hP hS => ?_)
            have hI : sgI loM hiM f_71 := by rw [ef_71]; exact sgI.put hI 0 13 (show 0 ≤ (v_69 : Int32).toInt ∧ (v_69 : Int32).toInt ≤ 120 from by omega)
            have hF : sgK WkX12_product_2 f f_71 := sgK.put hF ef_71 (by rfl)
            refine lv_aload_n hx hb dX12_product_45 rfl (lv_at hl 0 rfl) ?_
            have q_72 : (f_71 0 16).toInt = v_16.toInt := (congrArg Int32.toInt (show f_71 0 16 = v_16 from (by rw [ef_71, sg_up_s, sgu_n (by decide)]; exact ev_16.symm)))
            have q_73 : (f_71 0 15).toInt = v_19.toInt := (congrArg Int32.toInt (show f_71 0 15 = v_19 from (by rw [ef_71, sg_up_s, sgu_n (by decide)]; exact ev_19.symm)))
            have q_74 : (f_71 0 16).toInt = v_16.toInt := (congrArg Int32.toInt (show f_71 0 16 = v_16 from (by rw [ef_71, sg_up_s, sgu_n (by decide)]; exact ev_16.symm)))
            have q_75 : (f_71 0 13).toInt = v_69.toInt := (congrArg Int32.toInt (show f_71 0 13 = v_69 from (by rw [ef_71, sg_up_s, sgu_s])))
            refine sg_calli (va_runV (As := []) (rest := []) ⟨hx, hb, hml, hown, hts⟩ (kX12_one_2 l D ca za h hh f_71 L Q hI (by omega) (by omega) H.size) (cwV 0 hts (gw_V (fun _ h => List.mem_cons_of_mem _ h) mw_789 mw_790 mw_791 mw_619 mw_788) rfl rfl rfl (by decide +kernel) ⟨Nat.le_of_ble_eq_true rfl, Nat.le_of_ble_eq_true rfl⟩) (sg_preV (ci := 12) (C := RX12) (T := TX12) (N := 55) hA hK hP hS hZ 0 (by decide) rfl rfl) rfl rfl hl.1 rfl (lv_room (Nat.le_of_ble_eq_true rfl)) dX12_product_46 ⟨Nat.le_refl _, Nat.le_refl _⟩) hA hS (fun r_79 f_76 L_77 Q_78 H locs hq hP hS => ?_)
            obtain ⟨⟨hI, hk_f_76, eL9, eQ9⟩, hq, p_80, p_81, p_82⟩ := hq
            rw [eL9, eQ9] at hP; clear eL9 eQ9
            have hF : sgK WkX12_product_2 f f_76 := sgK.tr hF hk_f_76 (by decide)
            obtain ⟨v_83, ev_83⟩ : ∃ z : Int32, z = f_76 0 13 := ⟨_, rfl⟩
            have q_84 : 0 ≤ v_83.toInt ∧ v_83.toInt ≤ 120 := by rw [ev_83]; exact hI 0 13
            have q_85 : (f_76 0 13).toInt = v_83.toInt := (congrArg Int32.toInt (show f_76 0 13 = v_83 from ev_83.symm))
            obtain ⟨v_86, ev_86⟩ : ∃ z : Int32, z = f_76 0 16 := ⟨_, rfl⟩
            have q_87 : 0 ≤ v_86.toInt ∧ v_86.toInt ≤ 6 := by rw [ev_86]; exact hI 0 16
            have q_88 : (f_76 0 16).toInt = v_86.toInt := (congrArg Int32.toInt (show f_76 0 16 = v_86 from ev_86.symm))
            obtain ⟨v_89, ev_89⟩ : ∃ z : Int32, z = f_76 0 15 := ⟨_, rfl⟩
            have q_90 : (-1) ≤ v_89.toInt ∧ v_89.toInt ≤ 120 := by rw [ev_89]; exact hI 0 15
            have q_91 : (f_76 0 15).toInt = v_89.toInt := (congrArg Int32.toInt (show f_76 0 15 = v_89 from ev_89.symm))
            have q_92 : (f_76 0 16).toInt = v_86.toInt := (congrArg Int32.toInt (show f_76 0 16 = v_86 from ev_86.symm))
            refine lv_istore_n (lv' := [(3, .int r_79), (0, .ref (h 0)), (1, .int y1_10), (2, .int y2_10)]) hx hb dX12_product_49 rfl hl (by decide) rfl (fun ls hl => ?_)
            refine lv_iload_n hx hb dX12_product_50 rfl (lv_at hl 3 rfl) ?_
            refine lv_bipush (v := 42) hx hb dX12_product_51 (by decide) ?_
            refine lv_icmp_ne (tgt := 62) hx hb dX12_product_53 (by decide) (fun c => ?_) (fun c => ?_)
            · skip
              have c_93 : y2_10.toInt ≠ 42 := (by have z := bn_ne c; have k1 : (42 : Int32).toInt = 42 := (by decide); omega)
              refine lv_iload_n hx hb dX12_product_62 rfl (lv_at hl 0 rfl) ?_
              refine lv_if_ne (tgt := 70) hx hb dX12_product_63 (by decide) (fun c => ?_) (fun c => ?_)
              · skip
                have c_95 : r_79.toInt ≠ 0 := (by have z := bn_ne c; have k1 : (0 : Int32).toInt = 0 := (by decide); omega)
                refine lv_iload_n hx hb dX12_product_70 rfl (lv_at hl 3 rfl) ?_
                refine lv_bipush (v := 47) hx hb dX12_product_71 (by decide) ?_
                refine lv_icmp_ne (tgt := 82) hx hb dX12_product_73 (by decide) (fun c => ?_) (fun c => ?_)
                · skip
                  exfalso; have c_97 : y2_10.toInt ≠ 47 := (by have z := bn_ne c; have k1 : (47 : Int32).toInt = 47 := (by decide); omega); omega
                · skip
                  have c_98 : y2_10.toInt = 47 := (by have z := Int32.toInt_inj.mpr c; have k1 : (47 : Int32).toInt = 47 := (by decide); omega)
                  refine lv_iload_n hx hb dX12_product_76 rfl (lv_at hl 2 rfl) ?_
                  refine lv_iload_n hx hb dX12_product_77 rfl (lv_at hl 0 rfl) ?_
                  refine lv_idiv hx hb dX12_product_78 (bn_nz (by omega)) ?_
                  refine lv_topi (fun v_99 ev_99 => ?_)
                  refine lv_goto (tgt := 85) hx hb dX12_product_79 (by decide) ?_
                  refine lv_istore_n (lv' := [(1, .int v_99), (3, .int r_79), (0, .ref (h 0)), (2, .int y2_10)]) hx hb dX12_product_85 rfl hl (by decide) rfl (fun ls hl => ?_)
                  refine lv_aload_n hx hb dX12_product_86 rfl (lv_at hl 2 rfl) ?_
                  have q_100 : (f_76 0 13).toInt = v_83.toInt := (congrArg Int32.toInt (show f_76 0 13 = v_83 from ev_83.symm))
                  have q_101 : (f_76 0 14).toInt = v_22.toInt := (congrArg Int32.toInt (show f_76 0 14 = v_22 from ((hk_f_76 0 14 (by decide)).trans (by rw [ef_71, sg_up_s, sgu_n (by decide)]; exact ev_22.symm))))
                  refine sg_calli (va_runV (As := []) (rest := []) ⟨hx, hb, hml, hown, hts⟩ (kX12_byteAt l D ca za h hh f_76 L Q hI H.size) (cwV 0 hts (gw_V (fun _ h => List.mem_cons_of_mem _ h) mw_840 mw_841 mw_842 mw_619 mw_839) rfl rfl rfl (by decide +kernel) ⟨Nat.le_of_ble_eq_true rfl, Nat.le_of_ble_eq_true rfl⟩) (sg_preV (ci := 12) (C := RX12) (T := TX12) (N := 55) hA hK hP hS hZ 0 (by decide) rfl rfl) rfl rfl hl.1 rfl (lv_room (Nat.le_of_ble_eq_true rfl)) dX12_product_87 ⟨Nat.le_refl _, Nat.le_refl _⟩) hA hS (fun r_105 f_102 L_103 Q_104 H locs hq hP hS => ?_)
                  obtain ⟨⟨ef9, eL9, eQ9⟩, hq, p_106⟩ := hq
                  rw [ef9, eL9, eQ9] at hP; clear ef9 eL9 eQ9
                  refine lv_istore_n (lv' := [(2, .int r_105), (1, .int v_99), (3, .int r_79), (0, .ref (h 0))]) hx hb dX12_product_90 rfl hl (by decide) rfl (fun ls hl => ?_)
                  refine lv_goto (tgt := 10) hx hb dX12_product_91 (by decide) ?_
                  exact ih_10 v_99 r_105 f_76 _ _ _ (by have zz0_13 : (f_76 0 13).toInt = v_83.toInt := (congrArg Int32.toInt (show f_76 0 13 = v_83 from ev_83.symm)); omega) (by omega) (by have zz0_13 : (f_76 0 13).toInt = v_83.toInt := (congrArg Int32.toInt (show f_76 0 13 = v_83 from ev_83.symm)); omega) (by have zz0_16 : (f_76 0 16).toInt = v_86.toInt := (congrArg Int32.toInt (show f_76 0 16 = v_86 from ev_86.symm)); omega) (by have zz0_15 : (f_76 0 15).toInt = v_89.toInt := (congrArg Int32.toInt (show f_76 0 15 = v_89 from ev_89.symm)); have zz0_16 : (f_76 0 16).toInt = v_86.toInt := (congrArg Int32.toInt (show f_76 0 16 = v_86 from ev_86.symm)); omega) (by have zz0_13 : (f_76 0 13).toInt = v_83.toInt := (congrArg Int32.toInt (show f_76 0 13 = v_83 from ev_83.symm)); have zz0_14 : (f_76 0 14).toInt = v_22.toInt := (congrArg Int32.toInt (show f_76 0 14 = v_22 from ((hk_f_76 0 14 (by decide)).trans (by rw [ef_71, sg_up_s, sgu_n (by decide)]; exact ev_22.symm)))); omega) hI hF hP hS (lv_sub hl [3, 1, 0] rfl)
              · skip
                have c_96 : r_79.toInt = 0 := (by have z := Int32.toInt_inj.mpr c; have k1 : (0 : Int32).toInt = 0 := (by decide); omega)
                refine lv_iconst (v := 0) hx hb dX12_product_66 (by decide) ?_
                refine lv_goto (tgt := 85) hx hb dX12_product_67 (by decide) ?_
                refine lv_istore_n (lv' := [(1, .int 0), (3, .int r_79), (0, .ref (h 0)), (2, .int y2_10)]) hx hb dX12_product_85 rfl hl (by decide) rfl (fun ls hl => ?_)
                refine lv_aload_n hx hb dX12_product_86 rfl (lv_at hl 2 rfl) ?_
                have q_107 : (f_76 0 13).toInt = v_83.toInt := (congrArg Int32.toInt (show f_76 0 13 = v_83 from ev_83.symm))
                have q_108 : (f_76 0 14).toInt = v_22.toInt := (congrArg Int32.toInt (show f_76 0 14 = v_22 from ((hk_f_76 0 14 (by decide)).trans (by rw [ef_71, sg_up_s, sgu_n (by decide)]; exact ev_22.symm))))
                refine sg_calli (va_runV (As := []) (rest := []) ⟨hx, hb, hml, hown, hts⟩ (kX12_byteAt l D ca za h hh f_76 L Q hI H.size) (cwV 0 hts (gw_V (fun _ h => List.mem_cons_of_mem _ h) mw_840 mw_841 mw_842 mw_619 mw_839) rfl rfl rfl (by decide +kernel) ⟨Nat.le_of_ble_eq_true rfl, Nat.le_of_ble_eq_true rfl⟩) (sg_preV (ci := 12) (C := RX12) (T := TX12) (N := 55) hA hK hP hS hZ 0 (by decide) rfl rfl) rfl rfl hl.1 rfl (lv_room (Nat.le_of_ble_eq_true rfl)) dX12_product_87 ⟨Nat.le_refl _, Nat.le_refl _⟩) hA hS (fun r_112 f_109 L_110 Q_111 H locs hq hP hS => ?_)
                obtain ⟨⟨ef9, eL9, eQ9⟩, hq, p_113⟩ := hq
                rw [ef9, eL9, eQ9] at hP; clear ef9 eL9 eQ9
                refine lv_istore_n (lv' := [(2, .int r_112), (1, .int 0), (3, .int r_79), (0, .ref (h 0))]) hx hb dX12_product_90 rfl hl (by decide) rfl (fun ls hl => ?_)
                refine lv_goto (tgt := 10) hx hb dX12_product_91 (by decide) ?_
                exact ih_10 0 r_112 f_76 _ _ _ (by have kc0 : (0 : Int32).toInt = 0 := (by decide); have zz0_13 : (f_76 0 13).toInt = v_83.toInt := (congrArg Int32.toInt (show f_76 0 13 = v_83 from ev_83.symm)); omega) (by omega) (by have kc0 : (0 : Int32).toInt = 0 := (by decide); have zz0_13 : (f_76 0 13).toInt = v_83.toInt := (congrArg Int32.toInt (show f_76 0 13 = v_83 from ev_83.symm)); omega) (by have kc0 : (0 : Int32).toInt = 0 := (by decide); have zz0_16 : (f_76 0 16).toInt = v_86.toInt := (congrArg Int32.toInt (show f_76 0 16 = v_86 from ev_86.symm)); omega) (by have kc0 : (0 : Int32).toInt = 0 := (by decide); have zz0_15 : (f_76 0 15).toInt = v_89.toInt := (congrArg Int32.toInt (show f_76 0 15 = v_89 from ev_89.symm)); have zz0_16 : (f_76 0 16).toInt = v_86.toInt := (congrArg Int32.toInt (show f_76 0 16 = v_86 from ev_86.symm)); omega) (by have kc0 : (0 : Int32).toInt = 0 := (by decide); have zz0_13 : (f_76 0 13).toInt = v_83.toInt := (congrArg Int32.toInt (show f_76 0 13 = v_83 from ev_83.symm)); have zz0_14 : (f_76 0 14).toInt = v_22.toInt := (congrArg Int32.toInt (show f_76 0 14 = v_22 from ((hk_f_76 0 14 (by decide)).trans (by rw [ef_71, sg_up_s, sgu_n (by decide)]; exact ev_22.symm)))); omega) hI hF hP hS (lv_sub hl [3, 1, 0] rfl)
            · skip
              exfalso; have c_94 : y2_10.toInt = 42 := (by have z := Int32.toInt_inj.mpr c; have k1 : (42 : Int32).toInt = 42 := (by decide); omega); omega
          · skip
            have c_68 : y2_10.toInt ≠ 47 := (by have z := bn_ne c; have k1 : (47 : Int32).toInt = 47 := (by decide); omega)
            refine lv_iload_n hx hb dX12_product_29 rfl (lv_at hl 2 rfl) ?_
            refine lv_bipush (v := 37) hx hb dX12_product_30 (by decide) ?_
            refine lv_icmp_ne (tgt := 94) hx hb dX12_product_32 (by decide) (fun c => ?_) (fun c => ?_)
            · skip
              have c_114 : y2_10.toInt ≠ 37 := (by have z := bn_ne c; have k1 : (37 : Int32).toInt = 37 := (by decide); omega)
              refine lv_iload_n hx hb dX12_product_94 rfl (lv_at hl 1 rfl) ?_
              have q_116 : (fp_10 0 13).toInt = v_13.toInt := (congrArg Int32.toInt (show fp_10 0 13 = v_13 from ev_13.symm))
              have q_117 : (fp_10 0 16).toInt = v_16.toInt := (congrArg Int32.toInt (show fp_10 0 16 = v_16 from ev_16.symm))
              have q_118 : (fp_10 0 15).toInt = v_19.toInt := (congrArg Int32.toInt (show fp_10 0 15 = v_19 from ev_19.symm))
              have q_119 : (fp_10 0 16).toInt = v_16.toInt := (congrArg Int32.toInt (show fp_10 0 16 = v_16 from ev_16.symm))
              exact hret _ _ _ _ (y1_10) fp_10 L Q dX12_product_95 hP hS ⟨⟨hI, hF, rfl, rfl⟩, trivial, (by omega), (by omega), (by omega)⟩
            · skip
              have c_115 : y2_10.toInt = 37 := (by have z := Int32.toInt_inj.mpr c; have k1 : (37 : Int32).toInt = 37 := (by decide); omega)
              refine lv_aload_n hx hb dX12_product_35 rfl (lv_at hl 0 rfl) ?_
              refine lv_dup hx hb dX12_product_36 rfl ?_
              refine sg_get (ci := 12) (v := .int v_13) (C := RX12) (T := TX12) (N := 55) hx hb hts (fun w h => List.mem_cons_of_mem _ (gx_12 w h)) hown hK hP 0 (by decide) rfl rfl 13 (by decide) (hts _ (List.mem_cons_of_mem _ mw_625)) (fun _ h9 => h9) (congrArg (fun z => some (Value.int z)) (show fp_10 0 13 = v_13 from ev_13.symm)) dX12_product_37 ?_
              refine lv_iconst (v := 1) hx hb dX12_product_40 (by decide) ?_
              refine lv_iadd hx hb dX12_product_41 ?_
              refine lv_topi (fun v_120 ev_120 => ?_)
              have q_121 : v_120.toInt = v_13.toInt + 1 := by rw [ev_120]; have k1 : (1 : Int32).toInt = 1 := (by decide); exact (bn_addI (by omega) (by omega)).trans (by omega)
              refine sg_put (ci := 12) (x := v_120) (ty := .int) (C := RX12) (T := TX12) (N := 55) hx hb hts (fun w h => List.mem_cons_of_mem _ (gx_12 w h)) tyX12 tyX12_ok nmX12 hown hh hA hK hP hS 0 (by decide) rfl rfl 13 (by decide) (hts _ (List.mem_cons_of_mem _ mw_625)) (fun _ h9 => h9) rfl rfl (by decide +kernel) rfl rfl (Nat.le_of_ble_eq_true rfl) dX12_product_42 (fun f_122 H locs ef_122 hP hS => ?_)
              have hI : sgI loM hiM f_122 := by rw [ef_122]; exact sgI.put hI 0 13 (show 0 ≤ (v_120 : Int32).toInt ∧ (v_120 : Int32).toInt ≤ 120 from by omega)
              have hF : sgK WkX12_product_2 f f_122 := sgK.put hF ef_122 (by rfl)
              refine lv_aload_n hx hb dX12_product_45 rfl (lv_at hl 0 rfl) ?_
              have q_123 : (f_122 0 16).toInt = v_16.toInt := (congrArg Int32.toInt (show f_122 0 16 = v_16 from (by rw [ef_122, sg_up_s, sgu_n (by decide)]; exact ev_16.symm)))
              have q_124 : (f_122 0 15).toInt = v_19.toInt := (congrArg Int32.toInt (show f_122 0 15 = v_19 from (by rw [ef_122, sg_up_s, sgu_n (by decide)]; exact ev_19.symm)))
              have q_125 : (f_122 0 16).toInt = v_16.toInt := (congrArg Int32.toInt (show f_122 0 16 = v_16 from (by rw [ef_122, sg_up_s, sgu_n (by decide)]; exact ev_16.symm)))
              have q_126 : (f_122 0 13).toInt = v_120.toInt := (congrArg Int32.toInt (show f_122 0 13 = v_120 from (by rw [ef_122, sg_up_s, sgu_s])))
              refine sg_calli (va_runV (As := []) (rest := []) ⟨hx, hb, hml, hown, hts⟩ (kX12_one_2 l D ca za h hh f_122 L Q hI (by omega) (by omega) H.size) (cwV 0 hts (gw_V (fun _ h => List.mem_cons_of_mem _ h) mw_789 mw_790 mw_791 mw_619 mw_788) rfl rfl rfl (by decide +kernel) ⟨Nat.le_of_ble_eq_true rfl, Nat.le_of_ble_eq_true rfl⟩) (sg_preV (ci := 12) (C := RX12) (T := TX12) (N := 55) hA hK hP hS hZ 0 (by decide) rfl rfl) rfl rfl hl.1 rfl (lv_room (Nat.le_of_ble_eq_true rfl)) dX12_product_46 ⟨Nat.le_refl _, Nat.le_refl _⟩) hA hS (fun r_130 f_127 L_128 Q_129 H locs hq hP hS => ?_)
              obtain ⟨⟨hI, hk_f_127, eL9, eQ9⟩, hq, p_131, p_132, p_133⟩ := hq
              rw [eL9, eQ9] at hP; clear eL9 eQ9
              have hF : sgK WkX12_product_2 f f_127 := sgK.tr hF hk_f_127 (by decide)
              obtain ⟨v_134, ev_134⟩ : ∃ z : Int32, z = f_127 0 13 := ⟨_, rfl⟩
              have q_135 : 0 ≤ v_134.toInt ∧ v_134.toInt ≤ 120 := by rw [ev_134]; exact hI 0 13
              have q_136 : (f_127 0 13).toInt = v_134.toInt := (congrArg Int32.toInt (show f_127 0 13 = v_134 from ev_134.symm))
              obtain ⟨v_137, ev_137⟩ : ∃ z : Int32, z = f_127 0 16 := ⟨_, rfl⟩
              have q_138 : 0 ≤ v_137.toInt ∧ v_137.toInt ≤ 6 := by rw [ev_137]; exact hI 0 16
              have q_139 : (f_127 0 16).toInt = v_137.toInt := (congrArg Int32.toInt (show f_127 0 16 = v_137 from ev_137.symm))
              obtain ⟨v_140, ev_140⟩ : ∃ z : Int32, z = f_127 0 15 := ⟨_, rfl⟩
              have q_141 : (-1) ≤ v_140.toInt ∧ v_140.toInt ≤ 120 := by rw [ev_140]; exact hI 0 15
              have q_142 : (f_127 0 15).toInt = v_140.toInt := (congrArg Int32.toInt (show f_127 0 15 = v_140 from ev_140.symm))
              have q_143 : (f_127 0 16).toInt = v_137.toInt := (congrArg Int32.toInt (show f_127 0 16 = v_137 from ev_137.symm))
              refine lv_istore_n (lv' := [(3, .int r_130), (0, .ref (h 0)), (1, .int y1_10), (2, .int y2_10)]) hx hb dX12_product_49 rfl hl (by decide) rfl (fun ls hl => ?_)
              refine lv_iload_n hx hb dX12_product_50 rfl (lv_at hl 3 rfl) ?_
              refine lv_bipush (v := 42) hx hb dX12_product_51 (by decide) ?_
              refine lv_icmp_ne (tgt := 62) hx hb dX12_product_53 (by decide) (fun c => ?_) (fun c => ?_)
              · skip
                have c_144 : y2_10.toInt ≠ 42 := (by have z := bn_ne c; have k1 : (42 : Int32).toInt = 42 := (by decide); omega)
                refine lv_iload_n hx hb dX12_product_62 rfl (lv_at hl 0 rfl) ?_
                refine lv_if_ne (tgt := 70) hx hb dX12_product_63 (by decide) (fun c => ?_) (fun c => ?_)
                · skip
                  have c_146 : r_130.toInt ≠ 0 := (by have z := bn_ne c; have k1 : (0 : Int32).toInt = 0 := (by decide); omega)
                  refine lv_iload_n hx hb dX12_product_70 rfl (lv_at hl 3 rfl) ?_
                  refine lv_bipush (v := 47) hx hb dX12_product_71 (by decide) ?_
                  refine lv_icmp_ne (tgt := 82) hx hb dX12_product_73 (by decide) (fun c => ?_) (fun c => ?_)
                  · skip
                    have c_148 : y2_10.toInt ≠ 47 := (by have z := bn_ne c; have k1 : (47 : Int32).toInt = 47 := (by decide); omega)
                    refine lv_iload_n hx hb dX12_product_82 rfl (lv_at hl 2 rfl) ?_
                    refine lv_iload_n hx hb dX12_product_83 rfl (lv_at hl 0 rfl) ?_
                    refine lv_irem hx hb dX12_product_84 (bn_nz (by omega)) ?_
                    refine lv_topi (fun v_150 ev_150 => ?_)
                    refine lv_istore_n (lv' := [(1, .int v_150), (3, .int r_130), (0, .ref (h 0)), (2, .int y2_10)]) hx hb dX12_product_85 rfl hl (by decide) rfl (fun ls hl => ?_)
                    refine lv_aload_n hx hb dX12_product_86 rfl (lv_at hl 2 rfl) ?_
                    have q_151 : (f_127 0 13).toInt = v_134.toInt := (congrArg Int32.toInt (show f_127 0 13 = v_134 from ev_134.symm))
                    have q_152 : (f_127 0 14).toInt = v_22.toInt := (congrArg Int32.toInt (show f_127 0 14 = v_22 from ((hk_f_127 0 14 (by decide)).trans (by rw [ef_122, sg_up_s, sgu_n (by decide)]; exact ev_22.symm))))
                    refine sg_calli (va_runV (As := []) (rest := []) ⟨hx, hb, hml, hown, hts⟩ (kX12_byteAt l D ca za h hh f_127 L Q hI H.size) (cwV 0 hts (gw_V (fun _ h => List.mem_cons_of_mem _ h) mw_840 mw_841 mw_842 mw_619 mw_839) rfl rfl rfl (by decide +kernel) ⟨Nat.le_of_ble_eq_true rfl, Nat.le_of_ble_eq_true rfl⟩) (sg_preV (ci := 12) (C := RX12) (T := TX12) (N := 55) hA hK hP hS hZ 0 (by decide) rfl rfl) rfl rfl hl.1 rfl (lv_room (Nat.le_of_ble_eq_true rfl)) dX12_product_87 ⟨Nat.le_refl _, Nat.le_refl _⟩) hA hS (fun r_156 f_153 L_154 Q_155 H locs hq hP hS => ?_)
                    obtain ⟨⟨ef9, eL9, eQ9⟩, hq, p_157⟩ := hq
                    rw [ef9, eL9, eQ9] at hP; clear ef9 eL9 eQ9
                    refine lv_istore_n (lv' := [(2, .int r_156), (1, .int v_150), (3, .int r_130), (0, .ref (h 0))]) hx hb dX12_product_90 rfl hl (by decide) rfl (fun ls hl => ?_)
                    refine lv_goto (tgt := 10) hx hb dX12_product_91 (by decide) ?_
                    exact ih_10 v_150 r_156 f_127 _ _ _ (by have zz0_13 : (f_127 0 13).toInt = v_134.toInt := (congrArg Int32.toInt (show f_127 0 13 = v_134 from ev_134.symm)); omega) (by omega) (by have zz0_13 : (f_127 0 13).toInt = v_134.toInt := (congrArg Int32.toInt (show f_127 0 13 = v_134 from ev_134.symm)); omega) (by have zz0_16 : (f_127 0 16).toInt = v_137.toInt := (congrArg Int32.toInt (show f_127 0 16 = v_137 from ev_137.symm)); omega) (by have zz0_15 : (f_127 0 15).toInt = v_140.toInt := (congrArg Int32.toInt (show f_127 0 15 = v_140 from ev_140.symm)); have zz0_16 : (f_127 0 16).toInt = v_137.toInt := (congrArg Int32.toInt (show f_127 0 16 = v_137 from ev_137.symm)); omega) (by have zz0_13 : (f_127 0 13).toInt = v_134.toInt := (congrArg Int32.toInt (show f_127 0 13 = v_134 from ev_134.symm)); have zz0_14 : (f_127 0 14).toInt = v_22.toInt := (congrArg Int32.toInt (show f_127 0 14 = v_22 from ((hk_f_127 0 14 (by decide)).trans (by rw [ef_122, sg_up_s, sgu_n (by decide)]; exact ev_22.symm)))); omega) hI hF hP hS (lv_sub hl [3, 1, 0] rfl)
                  · skip
                    exfalso; have c_149 : y2_10.toInt = 47 := (by have z := Int32.toInt_inj.mpr c; have k1 : (47 : Int32).toInt = 47 := (by decide); omega); omega
                · skip
                  have c_147 : r_130.toInt = 0 := (by have z := Int32.toInt_inj.mpr c; have k1 : (0 : Int32).toInt = 0 := (by decide); omega)
                  refine lv_iconst (v := 0) hx hb dX12_product_66 (by decide) ?_
                  refine lv_goto (tgt := 85) hx hb dX12_product_67 (by decide) ?_
                  refine lv_istore_n (lv' := [(1, .int 0), (3, .int r_130), (0, .ref (h 0)), (2, .int y2_10)]) hx hb dX12_product_85 rfl hl (by decide) rfl (fun ls hl => ?_)
                  refine lv_aload_n hx hb dX12_product_86 rfl (lv_at hl 2 rfl) ?_
                  have q_158 : (f_127 0 13).toInt = v_134.toInt := (congrArg Int32.toInt (show f_127 0 13 = v_134 from ev_134.symm))
                  have q_159 : (f_127 0 14).toInt = v_22.toInt := (congrArg Int32.toInt (show f_127 0 14 = v_22 from ((hk_f_127 0 14 (by decide)).trans (by rw [ef_122, sg_up_s, sgu_n (by decide)]; exact ev_22.symm))))
                  refine sg_calli (va_runV (As := []) (rest := []) ⟨hx, hb, hml, hown, hts⟩ (kX12_byteAt l D ca za h hh f_127 L Q hI H.size) (cwV 0 hts (gw_V (fun _ h => List.mem_cons_of_mem _ h) mw_840 mw_841 mw_842 mw_619 mw_839) rfl rfl rfl (by decide +kernel) ⟨Nat.le_of_ble_eq_true rfl, Nat.le_of_ble_eq_true rfl⟩) (sg_preV (ci := 12) (C := RX12) (T := TX12) (N := 55) hA hK hP hS hZ 0 (by decide) rfl rfl) rfl rfl hl.1 rfl (lv_room (Nat.le_of_ble_eq_true rfl)) dX12_product_87 ⟨Nat.le_refl _, Nat.le_refl _⟩) hA hS (fun r_163 f_160 L_161 Q_162 H locs hq hP hS => ?_)
                  obtain ⟨⟨ef9, eL9, eQ9⟩, hq, p_164⟩ := hq
                  rw [ef9, eL9, eQ9] at hP; clear ef9 eL9 eQ9
                  refine lv_istore_n (lv' := [(2, .int r_163), (1, .int 0), (3, .int r_130), (0, .ref (h 0))]) hx hb dX12_product_90 rfl hl (by decide) rfl (fun ls hl => ?_)
                  refine lv_goto (tgt := 10) hx hb dX12_product_91 (by decide) ?_
                  exact ih_10 0 r_163 f_127 _ _ _ (by have kc0 : (0 : Int32).toInt = 0 := (by decide); have zz0_13 : (f_127 0 13).toInt = v_134.toInt := (congrArg Int32.toInt (show f_127 0 13 = v_134 from ev_134.symm)); omega) (by omega) (by have kc0 : (0 : Int32).toInt = 0 := (by decide); have zz0_13 : (f_127 0 13).toInt = v_134.toInt := (congrArg Int32.toInt (show f_127 0 13 = v_134 from ev_134.symm)); omega) (by have kc0 : (0 : Int32).toInt = 0 := (by decide); have zz0_16 : (f_127 0 16).toInt = v_137.toInt := (congrArg Int32.toInt (show f_127 0 16 = v_137 from ev_137.symm)); omega) (by have kc0 : (0 : Int32).toInt = 0 := (by decide); have zz0_15 : (f_127 0 15).toInt = v_140.toInt := (congrArg Int32.toInt (show f_127 0 15 = v_140 from ev_140.symm)); have zz0_16 : (f_127 0 16).toInt = v_137.toInt := (congrArg Int32.toInt (show f_127 0 16 = v_137 from ev_137.symm)); omega) (by have kc0 : (0 : Int32).toInt = 0 := (by decide); have zz0_13 : (f_127 0 13).toInt = v_134.toInt := (congrArg Int32.toInt (show f_127 0 13 = v_134 from ev_134.symm)); have zz0_14 : (f_127 0 14).toInt = v_22.toInt := (congrArg Int32.toInt (show f_127 0 14 = v_22 from ((hk_f_127 0 14 (by decide)).trans (by rw [ef_122, sg_up_s, sgu_n (by decide)]; exact ev_22.symm)))); omega) hI hF hP hS (lv_sub hl [3, 1, 0] rfl)
              · skip
                exfalso; have c_145 : y2_10.toInt = 42 := (by have z := Int32.toInt_inj.mpr c; have k1 : (42 : Int32).toInt = 42 := (by decide); omega); omega
  refine lv_aload_n hx hb dX12_product_0 rfl (lv_at hl 0 rfl) ?_
  have q_165 : (f 0 16).toInt = v_1.toInt := (congrArg Int32.toInt (show f 0 16 = v_1 from ev_1.symm))
  have q_166 : (f 0 15).toInt = v_3.toInt := (congrArg Int32.toInt (show f 0 15 = v_3 from ev_3.symm))
  have q_167 : (f 0 16).toInt = v_1.toInt := (congrArg Int32.toInt (show f 0 16 = v_1 from ev_1.symm))
  have q_168 : (f 0 13).toInt = v_5.toInt := (congrArg Int32.toInt (show f 0 13 = v_5 from ev_5.symm))
  refine sg_calli (va_runV (As := []) (rest := []) ⟨hx, hb, hml, hown, hts⟩ (kX12_one_2 l D ca za h hh f L Q hI (by omega) (by omega) H.size) (cwV 0 hts (gw_V (fun _ h => List.mem_cons_of_mem _ h) mw_789 mw_790 mw_791 mw_619 mw_788) rfl rfl rfl (by decide +kernel) ⟨Nat.le_of_ble_eq_true rfl, Nat.le_of_ble_eq_true rfl⟩) (sg_preV (ci := 12) (C := RX12) (T := TX12) (N := 55) hA hK hP hS hZ 0 (by decide) rfl rfl) rfl rfl hl.1 rfl (lv_room (Nat.le_of_ble_eq_true rfl)) dX12_product_1 ⟨Nat.le_refl _, Nat.le_refl _⟩) hA hS (fun r_172 f_169 L_170 Q_171 H locs hq hP hS => ?_)
  obtain ⟨⟨hI, hk_f_169, eL9, eQ9⟩, hq, p_173, p_174, p_175⟩ := hq
  rw [eL9, eQ9] at hP; clear eL9 eQ9
  have hF : sgK WkX12_product_2 f f_169 := sgK.tr hF hk_f_169 (by decide)
  obtain ⟨v_176, ev_176⟩ : ∃ z : Int32, z = f_169 0 13 := ⟨_, rfl⟩
  have q_177 : 0 ≤ v_176.toInt ∧ v_176.toInt ≤ 120 := by rw [ev_176]; exact hI 0 13
  have q_178 : (f_169 0 13).toInt = v_176.toInt := (congrArg Int32.toInt (show f_169 0 13 = v_176 from ev_176.symm))
  obtain ⟨v_179, ev_179⟩ : ∃ z : Int32, z = f_169 0 16 := ⟨_, rfl⟩
  have q_180 : 0 ≤ v_179.toInt ∧ v_179.toInt ≤ 6 := by rw [ev_179]; exact hI 0 16
  have q_181 : (f_169 0 16).toInt = v_179.toInt := (congrArg Int32.toInt (show f_169 0 16 = v_179 from ev_179.symm))
  obtain ⟨v_182, ev_182⟩ : ∃ z : Int32, z = f_169 0 15 := ⟨_, rfl⟩
  have q_183 : (-1) ≤ v_182.toInt ∧ v_182.toInt ≤ 120 := by rw [ev_182]; exact hI 0 15
  have q_184 : (f_169 0 15).toInt = v_182.toInt := (congrArg Int32.toInt (show f_169 0 15 = v_182 from ev_182.symm))
  have q_185 : (f_169 0 16).toInt = v_179.toInt := (congrArg Int32.toInt (show f_169 0 16 = v_179 from ev_179.symm))
  refine lv_istore_n (lv' := [(1, .int r_172), (0, .ref (h 0))]) hx hb dX12_product_4 rfl hl (by decide) rfl (fun ls hl => ?_)
  refine lv_aload_n hx hb dX12_product_5 rfl (lv_at hl 1 rfl) ?_
  have q_186 : (f_169 0 13).toInt = v_176.toInt := (congrArg Int32.toInt (show f_169 0 13 = v_176 from ev_176.symm))
  have q_187 : (f_169 0 14).toInt = v_7.toInt := (congrArg Int32.toInt (show f_169 0 14 = v_7 from ((hk_f_169 0 14 (by decide)).trans ev_7.symm)))
  refine sg_calli (va_runV (As := []) (rest := []) ⟨hx, hb, hml, hown, hts⟩ (kX12_byteAt l D ca za h hh f_169 L Q hI H.size) (cwV 0 hts (gw_V (fun _ h => List.mem_cons_of_mem _ h) mw_840 mw_841 mw_842 mw_619 mw_839) rfl rfl rfl (by decide +kernel) ⟨Nat.le_of_ble_eq_true rfl, Nat.le_of_ble_eq_true rfl⟩) (sg_preV (ci := 12) (C := RX12) (T := TX12) (N := 55) hA hK hP hS hZ 0 (by decide) rfl rfl) rfl rfl hl.1 rfl (lv_room (Nat.le_of_ble_eq_true rfl)) dX12_product_6 ⟨Nat.le_refl _, Nat.le_refl _⟩) hA hS (fun r_191 f_188 L_189 Q_190 H locs hq hP hS => ?_)
  obtain ⟨⟨ef9, eL9, eQ9⟩, hq, p_192⟩ := hq
  rw [ef9, eL9, eQ9] at hP; clear ef9 eL9 eQ9
  refine lv_istore_n (lv' := [(2, .int r_191), (1, .int r_172), (0, .ref (h 0))]) hx hb dX12_product_9 rfl hl (by decide) rfl (fun ls hl => ?_)
  exact loop_10 121 r_172 r_191 f_169 _ _ _ (by have zz0_13 : (f_169 0 13).toInt = v_176.toInt := (congrArg Int32.toInt (show f_169 0 13 = v_176 from ev_176.symm)); omega) (by omega) (by have zz0_13 : (f_169 0 13).toInt = v_176.toInt := (congrArg Int32.toInt (show f_169 0 13 = v_176 from ev_176.symm)); omega) (by have zz0_16 : (f_169 0 16).toInt = v_179.toInt := (congrArg Int32.toInt (show f_169 0 16 = v_179 from ev_179.symm)); omega) (by have zz0_15 : (f_169 0 15).toInt = v_182.toInt := (congrArg Int32.toInt (show f_169 0 15 = v_182 from ev_182.symm)); have zz0_16 : (f_169 0 16).toInt = v_179.toInt := (congrArg Int32.toInt (show f_169 0 16 = v_179 from ev_179.symm)); omega) (by have zz0_13 : (f_169 0 13).toInt = v_176.toInt := (congrArg Int32.toInt (show f_169 0 13 = v_176 from ev_176.symm)); have zz0_14 : (f_169 0 14).toInt = v_7.toInt := (congrArg Int32.toInt (show f_169 0 14 = v_7 from ((hk_f_169 0 14 (by decide)).trans ev_7.symm))); omega) hI hF hP hS (lv_sub hl [2, 1, 0] rfl)

abbrev WkX12_sums_2 : List (Nat × Nat × Option Nat) := [(0, 0, some 13), (0, 0, some 15), (0, 0, some 16)]
set_option maxHeartbeats 4000000 in
set_option maxRecDepth 100000 in
theorem kX12_sums_2 (l : Launch) (D : va_G) (ca : Nat → ClassId) (za h : Nat → Nat) (hh : sgH 26 h) (f : sg_F) (L : sg_L) (Q : sg_Q) (hI : sgI loM hiM f) (p0 : 2 ≤ (f 0 16).toInt) (p1 : 0 ≤ (f 0 15).toInt ∨ (f 0 16).toInt = 2) (sz : Nat) : Met l yX12_sums gwX12_sums { frames := 27, cells := 0, slots := 0, locals := 615 } (sgP D vwCl (tyX ca) 26 h (eM ca h) zcM za f L Q sz [.ref (h 0)]) (sgQi D vwCl 26 h (eM ca h) sz (fun r f1 L1 Q1 => ((sgI loM hiM f1 ∧ sgK WkX12_sums_2 f f1 ∧ L1 = L ∧ Q1 = Q) ∧ True ∧ ((f 0 13).toInt ≤ (f1 0 13).toInt) ∧ (2 ≤ (f1 0 16).toInt) ∧ (0 ≤ (f1 0 15).toInt ∨ (f1 0 16).toInt = 2)))) 0 0 (sgA 26 h sz) := by
  refine sg_ofWi (cc := cX12_sums) (maxL := 4) RX12 (by decide) rfl rfl (Nat.le_of_ble_eq_true rfl) ?_
  intro p e s m below meth cd Qz ls hx hb hml hown hts hK hZ hP hS hl hret
  have hA := sgY.self (n := 26) (h := h) (sz := s.heap.size)
  have hl : lv_has ls 4 [(0, .ref (h 0))] := hl
  obtain ⟨H, hH⟩ : ∃ z : Heap, z = s.heap := ⟨_, rfl⟩
  obtain ⟨locs, hlo⟩ : ∃ z : List Loc, z = [] := ⟨_, rfl⟩
  have hP : va_P D vwCl (sgw 26 h (eM ca h) f L Q) H := by rw [hH]; exact hP
  have hS : va_S (sgA 26 h s.heap.size) s.heap H locs := by rw [hH, hlo]; exact hS
  suffices hgo : W p l e ({ frames := 27, cells := 0, slots := 0, locals := 615 }) s m ([.ref (h 0)] : List Value).toArray below meth cd H locs 0 0 Qz (F0 m 0 ls []) by rw [hH, hlo] at hgo; exact hgo
  clear hH hlo
  obtain ⟨v_1, ev_1⟩ : ∃ z : Int32, z = f 0 16 := ⟨_, rfl⟩
  have q_2 : 0 ≤ v_1.toInt ∧ v_1.toInt ≤ 6 := by rw [ev_1]; exact hI 0 16
  obtain ⟨v_3, ev_3⟩ : ∃ z : Int32, z = f 0 15 := ⟨_, rfl⟩
  have q_4 : (-1) ≤ v_3.toInt ∧ v_3.toInt ≤ 120 := by rw [ev_3]; exact hI 0 15
  obtain ⟨v_5, ev_5⟩ : ∃ z : Int32, z = f 0 13 := ⟨_, rfl⟩
  have q_6 : 0 ≤ v_5.toInt ∧ v_5.toInt ≤ 120 := by rw [ev_5]; exact hI 0 13
  have o_7 : (f 0 16).toInt = v_1.toInt := (congrArg Int32.toInt (show f 0 16 = v_1 from ev_1.symm))
  have o_8 : (f 0 15).toInt = v_3.toInt := (congrArg Int32.toInt (show f 0 15 = v_3 from ev_3.symm))
  have o_9 : (f 0 13).toInt = v_5.toInt := (congrArg Int32.toInt (show f 0 13 = v_5 from ev_5.symm))
  have hF : sgK WkX12_sums_2 f f := sgK.rf
  have loop_5 : ∀ (n_5 : Nat) (y1_5 : Int32) (fp_5 : sg_F) (H : Heap) (locs : List Loc) (ls : Array Slot), 120 - (fp_5 0 13).toInt < (n_5 : Int) → (f 0 13).toInt ≤ (fp_5 0 13).toInt → 2 ≤ (fp_5 0 16).toInt → 0 ≤ (fp_5 0 15).toInt ∨ (fp_5 0 16).toInt = 2 → sgI loM hiM fp_5 → sgK WkX12_sums_2 f fp_5 → va_P D vwCl (sgw 26 h (eM ca h) fp_5 L Q) H → va_S (sgA 26 h s.heap.size) s.heap H locs → lv_has ls 4 [(0, .ref (h 0)), (1, .int y1_5)] → W p l e ({ frames := 27, cells := 0, slots := 0, locals := 615 }) s m ([.ref (h 0)] : List Value).toArray below meth cd H locs 0 0 Qz (F0 m 5 ls []) := by
    intro n_5
    induction n_5 with
    | zero => intro y1_5 fp_5 H locs ls hm_5 hg0_5 hg1_5 hg2_5 hI hF hP hS hl; have zb := (show 0 ≤ (fp_5 0 13).toInt ∧ (fp_5 0 13).toInt ≤ 120 from hI 0 13); exact absurd hm_5 (by omega)
    | succ n_5 ih_5 =>
      intro y1_5 fp_5 H locs ls hm_5 hg0_5 hg1_5 hg2_5 hI hF hP hS hl
      obtain ⟨v_10, ev_10⟩ : ∃ z : Int32, z = fp_5 0 13 := ⟨_, rfl⟩
      have q_11 : 0 ≤ v_10.toInt ∧ v_10.toInt ≤ 120 := by rw [ev_10]; exact hI 0 13
      have q_12 : (fp_5 0 13).toInt = v_10.toInt := by rw [ev_10]
      obtain ⟨v_13, ev_13⟩ : ∃ z : Int32, z = fp_5 0 16 := ⟨_, rfl⟩
      have q_14 : 0 ≤ v_13.toInt ∧ v_13.toInt ≤ 6 := by rw [ev_13]; exact hI 0 16
      have q_15 : (fp_5 0 16).toInt = v_13.toInt := by rw [ev_13]
      obtain ⟨v_16, ev_16⟩ : ∃ z : Int32, z = fp_5 0 15 := ⟨_, rfl⟩
      have q_17 : (-1) ≤ v_16.toInt ∧ v_16.toInt ≤ 120 := by rw [ev_16]; exact hI 0 15
      have q_18 : (fp_5 0 15).toInt = v_16.toInt := by rw [ev_16]
      refine lv_aload_n hx hb dX12_sums_5 rfl (lv_at hl 0 rfl) ?_
      refine sg_get (ci := 12) (v := .int v_16) (C := RX12) (T := TX12) (N := 55) hx hb hts (fun w h => List.mem_cons_of_mem _ (gx_12 w h)) hown hK hP 0 (by decide) rfl rfl 15 (by decide) (hts _ (List.mem_cons_of_mem _ mw_627)) (fun _ h9 => h9) (congrArg (fun z => some (Value.int z)) (show fp_5 0 15 = v_16 from ev_16.symm)) dX12_sums_6 ?_
      refine lv_if_ge (tgt := 77) hx hb dX12_sums_9 (by decide) (fun c => ?_) (fun c => ?_)
      · skip
        have c_19 : 0 ≤ v_16.toInt := (by have z := bn_le c; have k1 : (0 : Int32).toInt = 0 := (by decide); omega)
        refine lv_iload_n hx hb dX12_sums_77 rfl (lv_at hl 1 rfl) ?_
        have q_21 : (fp_5 0 13).toInt = v_10.toInt := (congrArg Int32.toInt (show fp_5 0 13 = v_10 from ev_10.symm))
        have q_22 : (fp_5 0 16).toInt = v_13.toInt := (congrArg Int32.toInt (show fp_5 0 16 = v_13 from ev_13.symm))
        have q_23 : (fp_5 0 15).toInt = v_16.toInt := (congrArg Int32.toInt (show fp_5 0 15 = v_16 from ev_16.symm))
        have q_24 : (fp_5 0 16).toInt = v_13.toInt := (congrArg Int32.toInt (show fp_5 0 16 = v_13 from ev_13.symm))
        exact hret _ _ _ _ (y1_5) fp_5 L Q dX12_sums_78 hP hS ⟨⟨hI, hF, rfl, rfl⟩, trivial, (by omega), (by omega), (by omega)⟩
      · skip
        have c_20 : v_16.toInt < 0 := (by have z := bn_nle c; have k1 : (0 : Int32).toInt = 0 := (by decide); omega)
        refine lv_aload_n hx hb dX12_sums_12 rfl (lv_at hl 0 rfl) ?_
        have q_25 : (fp_5 0 13).toInt = v_10.toInt := (congrArg Int32.toInt (show fp_5 0 13 = v_10 from ev_10.symm))
        obtain ⟨v_26, ev_26⟩ : ∃ z : Int32, z = fp_5 0 14 := ⟨_, rfl⟩
        have q_27 : 0 ≤ v_26.toInt ∧ v_26.toInt ≤ 120 := by rw [ev_26]; exact hI 0 14
        have q_28 : (fp_5 0 14).toInt = v_26.toInt := (congrArg Int32.toInt (show fp_5 0 14 = v_26 from ev_26.symm))
        refine sg_calli (va_runV (As := []) (rest := []) ⟨hx, hb, hml, hown, hts⟩ (kX12_byteAt l D ca za h hh fp_5 L Q hI H.size) (cwV 0 hts (gw_V (fun _ h => List.mem_cons_of_mem _ h) mw_840 mw_841 mw_842 mw_619 mw_839) rfl rfl rfl (by decide +kernel) ⟨Nat.le_of_ble_eq_true rfl, Nat.le_of_ble_eq_true rfl⟩) (sg_preV (ci := 12) (C := RX12) (T := TX12) (N := 55) hA hK hP hS hZ 0 (by decide) rfl rfl) rfl rfl hl.1 rfl (lv_room (Nat.le_of_ble_eq_true rfl)) dX12_sums_13 ⟨Nat.le_refl _, Nat.le_refl _⟩) hA hS (fun r_32 f_29 L_30 Q_31 H locs hq hP hS => ?_)
        obtain ⟨⟨ef9, eL9, eQ9⟩, hq, p_33⟩ := hq
        rw [ef9, eL9, eQ9] at hP; clear ef9 eL9 eQ9
        refine lv_bipush (v := 43) hx hb dX12_sums_16 (by decide) ?_
        refine lv_icmp_eq (tgt := 30) hx hb dX12_sums_18 (by decide) (fun c => ?_) (fun c => ?_)
        · skip
          have c_34 : r_32.toInt = 43 := (by have z := Int32.toInt_inj.mpr c; have k1 : (43 : Int32).toInt = 43 := (by decide); omega)
          refine lv_aload_n hx hb dX12_sums_30 rfl (lv_at hl 0 rfl) ?_
          have q_36 : (fp_5 0 13).toInt = v_10.toInt := (congrArg Int32.toInt (show fp_5 0 13 = v_10 from ev_10.symm))
          have q_37 : (fp_5 0 14).toInt = v_26.toInt := (congrArg Int32.toInt (show fp_5 0 14 = v_26 from ev_26.symm))
          refine sg_calli (va_runV (As := []) (rest := []) ⟨hx, hb, hml, hown, hts⟩ (kX12_byteAt l D ca za h hh fp_5 L Q hI H.size) (cwV 0 hts (gw_V (fun _ h => List.mem_cons_of_mem _ h) mw_840 mw_841 mw_842 mw_619 mw_839) rfl rfl rfl (by decide +kernel) ⟨Nat.le_of_ble_eq_true rfl, Nat.le_of_ble_eq_true rfl⟩) (sg_preV (ci := 12) (C := RX12) (T := TX12) (N := 55) hA hK hP hS hZ 0 (by decide) rfl rfl) rfl rfl hl.1 rfl (lv_room (Nat.le_of_ble_eq_true rfl)) dX12_sums_31 ⟨Nat.le_refl _, Nat.le_refl _⟩) hA hS (fun r_41 f_38 L_39 Q_40 H locs hq hP hS => ?_)
          obtain ⟨⟨ef9, eL9, eQ9⟩, hq, p_42⟩ := hq
          rw [ef9, eL9, eQ9] at hP; clear ef9 eL9 eQ9
          refine lv_bipush (v := 43) hx hb dX12_sums_34 (by decide) ?_
          refine lv_icmp_ne (tgt := 43) hx hb dX12_sums_36 (by decide) (fun c => ?_) (fun c => ?_)
          · skip
            have c_43 : r_41.toInt ≠ 43 := (by have z := bn_ne c; have k1 : (43 : Int32).toInt = 43 := (by decide); omega)
            refine lv_iconst (v := 0) hx hb dX12_sums_43 (by decide) ?_
            refine lv_istore_n (lv' := [(2, .int 0), (0, .ref (h 0)), (1, .int y1_5)]) hx hb dX12_sums_44 rfl hl (by decide) rfl (fun ls hl => ?_)
            refine lv_aload_n hx hb dX12_sums_45 rfl (lv_at hl 1 rfl) ?_
            refine lv_dup hx hb dX12_sums_46 rfl ?_
            refine sg_get (ci := 12) (v := .int v_10) (C := RX12) (T := TX12) (N := 55) hx hb hts (fun w h => List.mem_cons_of_mem _ (gx_12 w h)) hown hK hP 0 (by decide) rfl rfl 13 (by decide) (hts _ (List.mem_cons_of_mem _ mw_625)) (fun _ h9 => h9) (congrArg (fun z => some (Value.int z)) (show fp_5 0 13 = v_10 from ev_10.symm)) dX12_sums_47 ?_
            refine lv_iconst (v := 1) hx hb dX12_sums_50 (by decide) ?_
            refine lv_iadd hx hb dX12_sums_51 ?_
            refine lv_topi (fun v_45 ev_45 => ?_)
            have q_46 : v_45.toInt = v_10.toInt + 1 := by rw [ev_45]; have k1 : (1 : Int32).toInt = 1 := (by decide); exact (bn_addI (by omega) (by omega)).trans (by omega)
            refine sg_put (ci := 12) (x := v_45) (ty := .int) (C := RX12) (T := TX12) (N := 55) hx hb hts (fun w h => List.mem_cons_of_mem _ (gx_12 w h)) tyX12 tyX12_ok nmX12 hown hh hA hK hP hS 0 (by decide) rfl rfl 13 (by decide) (hts _ (List.mem_cons_of_mem _ mw_625)) (fun _ h9 => h9) rfl rfl (by decide +kernel) rfl rfl (Nat.le_of_ble_eq_true rfl) dX12_sums_52 (fun f_47 H locs ef_47 hP hS => ?_)
            have hI : sgI loM hiM f_47 := by rw [ef_47]; exact sgI.put hI 0 13 (show 0 ≤ (v_45 : Int32).toInt ∧ (v_45 : Int32).toInt ≤ 120 from by omega)
            have hF : sgK WkX12_sums_2 f f_47 := sgK.put hF ef_47 (by rfl)
            refine lv_aload_n hx hb dX12_sums_55 rfl (lv_at hl 1 rfl) ?_
            have q_48 : (f_47 0 16).toInt = v_13.toInt := (congrArg Int32.toInt (show f_47 0 16 = v_13 from (by rw [ef_47, sg_up_s, sgu_n (by decide)]; exact ev_13.symm)))
            have q_49 : (f_47 0 15).toInt = v_16.toInt := (congrArg Int32.toInt (show f_47 0 15 = v_16 from (by rw [ef_47, sg_up_s, sgu_n (by decide)]; exact ev_16.symm)))
            have q_50 : (f_47 0 16).toInt = v_13.toInt := (congrArg Int32.toInt (show f_47 0 16 = v_13 from (by rw [ef_47, sg_up_s, sgu_n (by decide)]; exact ev_13.symm)))
            have q_51 : (f_47 0 13).toInt = v_45.toInt := (congrArg Int32.toInt (show f_47 0 13 = v_45 from (by rw [ef_47, sg_up_s, sgu_s])))
            refine sg_calli (va_runV (As := []) (rest := []) ⟨hx, hb, hml, hown, hts⟩ (kX12_product_2 l D ca za h hh f_47 L Q hI (by omega) (by omega) H.size) (cwV 0 hts (gw_V (fun _ h => List.mem_cons_of_mem _ h) mw_848 mw_849 mw_850 mw_619 mw_847) rfl rfl rfl (by decide +kernel) ⟨Nat.le_of_ble_eq_true rfl, Nat.le_of_ble_eq_true rfl⟩) (sg_preV (ci := 12) (C := RX12) (T := TX12) (N := 55) hA hK hP hS hZ 0 (by decide) rfl rfl) rfl rfl hl.1 rfl (lv_room (Nat.le_of_ble_eq_true rfl)) dX12_sums_56 ⟨Nat.le_refl _, Nat.le_refl _⟩) hA hS (fun r_55 f_52 L_53 Q_54 H locs hq hP hS => ?_)
            obtain ⟨⟨hI, hk_f_52, eL9, eQ9⟩, hq, p_56, p_57, p_58⟩ := hq
            rw [eL9, eQ9] at hP; clear eL9 eQ9
            have hF : sgK WkX12_sums_2 f f_52 := sgK.tr hF hk_f_52 (by decide)
            obtain ⟨v_59, ev_59⟩ : ∃ z : Int32, z = f_52 0 13 := ⟨_, rfl⟩
            have q_60 : 0 ≤ v_59.toInt ∧ v_59.toInt ≤ 120 := by rw [ev_59]; exact hI 0 13
            have q_61 : (f_52 0 13).toInt = v_59.toInt := (congrArg Int32.toInt (show f_52 0 13 = v_59 from ev_59.symm))
            obtain ⟨v_62, ev_62⟩ : ∃ z : Int32, z = f_52 0 16 := ⟨_, rfl⟩
            have q_63 : 0 ≤ v_62.toInt ∧ v_62.toInt ≤ 6 := by rw [ev_62]; exact hI 0 16
            have q_64 : (f_52 0 16).toInt = v_62.toInt := (congrArg Int32.toInt (show f_52 0 16 = v_62 from ev_62.symm))
            obtain ⟨v_65, ev_65⟩ : ∃ z : Int32, z = f_52 0 15 := ⟨_, rfl⟩
            have q_66 : (-1) ≤ v_65.toInt ∧ v_65.toInt ≤ 120 := by rw [ev_65]; exact hI 0 15
            have q_67 : (f_52 0 15).toInt = v_65.toInt := (congrArg Int32.toInt (show f_52 0 15 = v_65 from ev_65.symm))
            have q_68 : (f_52 0 16).toInt = v_62.toInt := (congrArg Int32.toInt (show f_52 0 16 = v_62 from ev_62.symm))
            refine lv_istore_n (lv' := [(3, .int r_55), (2, .int 0), (0, .ref (h 0)), (1, .int y1_5)]) hx hb dX12_sums_59 rfl hl (by decide) rfl (fun ls hl => ?_)
            refine lv_iload_n hx hb dX12_sums_60 rfl (lv_at hl 1 rfl) ?_
            refine lv_if_eq (tgt := 70) hx hb dX12_sums_61 (by decide) (fun c => ?_) (fun c => absurd c (by decide))
            refine lv_iload_n hx hb dX12_sums_70 rfl (lv_at hl 3 rfl) ?_
            refine lv_iload_n hx hb dX12_sums_71 rfl (lv_at hl 0 rfl) ?_
            refine lv_isub hx hb dX12_sums_72 ?_
            refine lv_topi (fun v_69 ev_69 => ?_)
            refine lv_istore_n (lv' := [(1, .int v_69), (3, .int r_55), (2, .int 0), (0, .ref (h 0))]) hx hb dX12_sums_73 rfl hl (by decide) rfl (fun ls hl => ?_)
            refine lv_goto (tgt := 5) hx hb dX12_sums_74 (by decide) ?_
            exact ih_5 v_69 f_52 _ _ _ (by have zz0_13 : (f_52 0 13).toInt = v_59.toInt := (congrArg Int32.toInt (show f_52 0 13 = v_59 from ev_59.symm)); omega) (by have zz0_13 : (f_52 0 13).toInt = v_59.toInt := (congrArg Int32.toInt (show f_52 0 13 = v_59 from ev_59.symm)); omega) (by have zz0_16 : (f_52 0 16).toInt = v_62.toInt := (congrArg Int32.toInt (show f_52 0 16 = v_62 from ev_62.symm)); omega) (by have zz0_15 : (f_52 0 15).toInt = v_65.toInt := (congrArg Int32.toInt (show f_52 0 15 = v_65 from ev_65.symm)); have zz0_16 : (f_52 0 16).toInt = v_62.toInt := (congrArg Int32.toInt (show f_52 0 16 = v_62 from ev_62.symm)); omega) hI hF hP hS (lv_sub hl [3, 0] rfl)
          · skip
            have c_44 : r_41.toInt = 43 := (by have z := Int32.toInt_inj.mpr c; have k1 : (43 : Int32).toInt = 43 := (by decide); omega)
            refine lv_iconst (v := 1) hx hb dX12_sums_39 (by decide) ?_
            refine lv_goto (tgt := 44) hx hb dX12_sums_40 (by decide) ?_
            refine lv_istore_n (lv' := [(2, .int 1), (0, .ref (h 0)), (1, .int y1_5)]) hx hb dX12_sums_44 rfl hl (by decide) rfl (fun ls hl => ?_)
            refine lv_aload_n hx hb dX12_sums_45 rfl (lv_at hl 1 rfl) ?_
            refine lv_dup hx hb dX12_sums_46 rfl ?_
            refine sg_get (ci := 12) (v := .int v_10) (C := RX12) (T := TX12) (N := 55) hx hb hts (fun w h => List.mem_cons_of_mem _ (gx_12 w h)) hown hK hP 0 (by decide) rfl rfl 13 (by decide) (hts _ (List.mem_cons_of_mem _ mw_625)) (fun _ h9 => h9) (congrArg (fun z => some (Value.int z)) (show fp_5 0 13 = v_10 from ev_10.symm)) dX12_sums_47 ?_
            refine lv_iconst (v := 1) hx hb dX12_sums_50 (by decide) ?_
            refine lv_iadd hx hb dX12_sums_51 ?_
            refine lv_topi (fun v_70 ev_70 => ?_)
            have q_71 : v_70.toInt = v_10.toInt + 1 := by rw [ev_70]; have k1 : (1 : Int32).toInt = 1 := (by decide); exact (bn_addI (by omega) (by omega)).trans (by omega)
            refine sg_put (ci := 12) (x := v_70) (ty := .int) (C := RX12) (T := TX12) (N := 55) hx hb hts (fun w h => List.mem_cons_of_mem _ (gx_12 w h)) tyX12 tyX12_ok nmX12 hown hh hA hK hP hS 0 (by decide) rfl rfl 13 (by decide) (hts _ (List.mem_cons_of_mem _ mw_625)) (fun _ h9 => h9) rfl rfl (by decide +kernel) rfl rfl (Nat.le_of_ble_eq_true rfl) dX12_sums_52 (fun f_72 H locs ef_72 hP hS => ?_)
            have hI : sgI loM hiM f_72 := by rw [ef_72]; exact sgI.put hI 0 13 (show 0 ≤ (v_70 : Int32).toInt ∧ (v_70 : Int32).toInt ≤ 120 from by omega)
            have hF : sgK WkX12_sums_2 f f_72 := sgK.put hF ef_72 (by rfl)
            refine lv_aload_n hx hb dX12_sums_55 rfl (lv_at hl 1 rfl) ?_
            have q_73 : (f_72 0 16).toInt = v_13.toInt := (congrArg Int32.toInt (show f_72 0 16 = v_13 from (by rw [ef_72, sg_up_s, sgu_n (by decide)]; exact ev_13.symm)))
            have q_74 : (f_72 0 15).toInt = v_16.toInt := (congrArg Int32.toInt (show f_72 0 15 = v_16 from (by rw [ef_72, sg_up_s, sgu_n (by decide)]; exact ev_16.symm)))
            have q_75 : (f_72 0 16).toInt = v_13.toInt := (congrArg Int32.toInt (show f_72 0 16 = v_13 from (by rw [ef_72, sg_up_s, sgu_n (by decide)]; exact ev_13.symm)))
            have q_76 : (f_72 0 13).toInt = v_70.toInt := (congrArg Int32.toInt (show f_72 0 13 = v_70 from (by rw [ef_72, sg_up_s, sgu_s])))
            refine sg_calli (va_runV (As := []) (rest := []) ⟨hx, hb, hml, hown, hts⟩ (kX12_product_2 l D ca za h hh f_72 L Q hI (by omega) (by omega) H.size) (cwV 0 hts (gw_V (fun _ h => List.mem_cons_of_mem _ h) mw_848 mw_849 mw_850 mw_619 mw_847) rfl rfl rfl (by decide +kernel) ⟨Nat.le_of_ble_eq_true rfl, Nat.le_of_ble_eq_true rfl⟩) (sg_preV (ci := 12) (C := RX12) (T := TX12) (N := 55) hA hK hP hS hZ 0 (by decide) rfl rfl) rfl rfl hl.1 rfl (lv_room (Nat.le_of_ble_eq_true rfl)) dX12_sums_56 ⟨Nat.le_refl _, Nat.le_refl _⟩) hA hS (fun r_80 f_77 L_78 Q_79 H locs hq hP hS => ?_)
            obtain ⟨⟨hI, hk_f_77, eL9, eQ9⟩, hq, p_81, p_82, p_83⟩ := hq
            rw [eL9, eQ9] at hP; clear eL9 eQ9
            have hF : sgK WkX12_sums_2 f f_77 := sgK.tr hF hk_f_77 (by decide)
            obtain ⟨v_84, ev_84⟩ : ∃ z : Int32, z = f_77 0 13 := ⟨_, rfl⟩
            have q_85 : 0 ≤ v_84.toInt ∧ v_84.toInt ≤ 120 := by rw [ev_84]; exact hI 0 13
            have q_86 : (f_77 0 13).toInt = v_84.toInt := (congrArg Int32.toInt (show f_77 0 13 = v_84 from ev_84.symm))
            obtain ⟨v_87, ev_87⟩ : ∃ z : Int32, z = f_77 0 16 := ⟨_, rfl⟩
            have q_88 : 0 ≤ v_87.toInt ∧ v_87.toInt ≤ 6 := by rw [ev_87]; exact hI 0 16
            have q_89 : (f_77 0 16).toInt = v_87.toInt := (congrArg Int32.toInt (show f_77 0 16 = v_87 from ev_87.symm))
            obtain ⟨v_90, ev_90⟩ : ∃ z : Int32, z = f_77 0 15 := ⟨_, rfl⟩
            have q_91 : (-1) ≤ v_90.toInt ∧ v_90.toInt ≤ 120 := by rw [ev_90]; exact hI 0 15
            have q_92 : (f_77 0 15).toInt = v_90.toInt := (congrArg Int32.toInt (show f_77 0 15 = v_90 from ev_90.symm))
            have q_93 : (f_77 0 16).toInt = v_87.toInt := (congrArg Int32.toInt (show f_77 0 16 = v_87 from ev_87.symm))
            refine lv_istore_n (lv' := [(3, .int r_80), (2, .int 1), (0, .ref (h 0)), (1, .int y1_5)]) hx hb dX12_sums_59 rfl hl (by decide) rfl (fun ls hl => ?_)
            refine lv_iload_n hx hb dX12_sums_60 rfl (lv_at hl 1 rfl) ?_
            refine lv_if_eq (tgt := 70) hx hb dX12_sums_61 (by decide) (fun c => absurd c (by decide)) (fun c => ?_)
            refine lv_iload_n hx hb dX12_sums_64 rfl (lv_at hl 3 rfl) ?_
            refine lv_iload_n hx hb dX12_sums_65 rfl (lv_at hl 0 rfl) ?_
            refine lv_iadd hx hb dX12_sums_66 ?_
            refine lv_topi (fun v_94 ev_94 => ?_)
            refine lv_goto (tgt := 73) hx hb dX12_sums_67 (by decide) ?_
            refine lv_istore_n (lv' := [(1, .int v_94), (3, .int r_80), (2, .int 1), (0, .ref (h 0))]) hx hb dX12_sums_73 rfl hl (by decide) rfl (fun ls hl => ?_)
            refine lv_goto (tgt := 5) hx hb dX12_sums_74 (by decide) ?_
            exact ih_5 v_94 f_77 _ _ _ (by have zz0_13 : (f_77 0 13).toInt = v_84.toInt := (congrArg Int32.toInt (show f_77 0 13 = v_84 from ev_84.symm)); omega) (by have zz0_13 : (f_77 0 13).toInt = v_84.toInt := (congrArg Int32.toInt (show f_77 0 13 = v_84 from ev_84.symm)); omega) (by have zz0_16 : (f_77 0 16).toInt = v_87.toInt := (congrArg Int32.toInt (show f_77 0 16 = v_87 from ev_87.symm)); omega) (by have zz0_15 : (f_77 0 15).toInt = v_90.toInt := (congrArg Int32.toInt (show f_77 0 15 = v_90 from ev_90.symm)); have zz0_16 : (f_77 0 16).toInt = v_87.toInt := (congrArg Int32.toInt (show f_77 0 16 = v_87 from ev_87.symm)); omega) hI hF hP hS (lv_sub hl [3, 0] rfl)
        · skip
          have c_35 : r_32.toInt ≠ 43 := (by have z := bn_ne c; have k1 : (43 : Int32).toInt = 43 := (by decide); omega)
          refine lv_aload_n hx hb dX12_sums_21 rfl (lv_at hl 0 rfl) ?_
          have q_95 : (fp_5 0 13).toInt = v_10.toInt := (congrArg Int32.toInt (show fp_5 0 13 = v_10 from ev_10.symm))
          have q_96 : (fp_5 0 14).toInt = v_26.toInt := (congrArg Int32.toInt (show fp_5 0 14 = v_26 from ev_26.symm))
          refine sg_calli (va_runV (As := []) (rest := []) ⟨hx, hb, hml, hown, hts⟩ (kX12_byteAt l D ca za h hh fp_5 L Q hI H.size) (cwV 0 hts (gw_V (fun _ h => List.mem_cons_of_mem _ h) mw_840 mw_841 mw_842 mw_619 mw_839) rfl rfl rfl (by decide +kernel) ⟨Nat.le_of_ble_eq_true rfl, Nat.le_of_ble_eq_true rfl⟩) (sg_preV (ci := 12) (C := RX12) (T := TX12) (N := 55) hA hK hP hS hZ 0 (by decide) rfl rfl) rfl rfl hl.1 rfl (lv_room (Nat.le_of_ble_eq_true rfl)) dX12_sums_22 ⟨Nat.le_refl _, Nat.le_refl _⟩) hA hS (fun r_100 f_97 L_98 Q_99 H locs hq hP hS => ?_)
          obtain ⟨⟨ef9, eL9, eQ9⟩, hq, p_101⟩ := hq
          rw [ef9, eL9, eQ9] at hP; clear ef9 eL9 eQ9
          refine lv_bipush (v := 45) hx hb dX12_sums_25 (by decide) ?_
          refine lv_icmp_ne (tgt := 77) hx hb dX12_sums_27 (by decide) (fun c => ?_) (fun c => ?_)
          · skip
            have c_102 : r_100.toInt ≠ 45 := (by have z := bn_ne c; have k1 : (45 : Int32).toInt = 45 := (by decide); omega)
            refine lv_iload_n hx hb dX12_sums_77 rfl (lv_at hl 1 rfl) ?_
            have q_104 : (fp_5 0 13).toInt = v_10.toInt := (congrArg Int32.toInt (show fp_5 0 13 = v_10 from ev_10.symm))
            have q_105 : (fp_5 0 16).toInt = v_13.toInt := (congrArg Int32.toInt (show fp_5 0 16 = v_13 from ev_13.symm))
            have q_106 : (fp_5 0 15).toInt = v_16.toInt := (congrArg Int32.toInt (show fp_5 0 15 = v_16 from ev_16.symm))
            have q_107 : (fp_5 0 16).toInt = v_13.toInt := (congrArg Int32.toInt (show fp_5 0 16 = v_13 from ev_13.symm))
            exact hret _ _ _ _ (y1_5) fp_5 L Q dX12_sums_78 hP hS ⟨⟨hI, hF, rfl, rfl⟩, trivial, (by omega), (by omega), (by omega)⟩
          · skip
            have c_103 : r_100.toInt = 45 := (by have z := Int32.toInt_inj.mpr c; have k1 : (45 : Int32).toInt = 45 := (by decide); omega)
            refine lv_aload_n hx hb dX12_sums_30 rfl (lv_at hl 0 rfl) ?_
            have q_108 : (fp_5 0 13).toInt = v_10.toInt := (congrArg Int32.toInt (show fp_5 0 13 = v_10 from ev_10.symm))
            have q_109 : (fp_5 0 14).toInt = v_26.toInt := (congrArg Int32.toInt (show fp_5 0 14 = v_26 from ev_26.symm))
            refine sg_calli (va_runV (As := []) (rest := []) ⟨hx, hb, hml, hown, hts⟩ (kX12_byteAt l D ca za h hh fp_5 L Q hI H.size) (cwV 0 hts (gw_V (fun _ h => List.mem_cons_of_mem _ h) mw_840 mw_841 mw_842 mw_619 mw_839) rfl rfl rfl (by decide +kernel) ⟨Nat.le_of_ble_eq_true rfl, Nat.le_of_ble_eq_true rfl⟩) (sg_preV (ci := 12) (C := RX12) (T := TX12) (N := 55) hA hK hP hS hZ 0 (by decide) rfl rfl) rfl rfl hl.1 rfl (lv_room (Nat.le_of_ble_eq_true rfl)) dX12_sums_31 ⟨Nat.le_refl _, Nat.le_refl _⟩) hA hS (fun r_113 f_110 L_111 Q_112 H locs hq hP hS => ?_)
            obtain ⟨⟨ef9, eL9, eQ9⟩, hq, p_114⟩ := hq
            rw [ef9, eL9, eQ9] at hP; clear ef9 eL9 eQ9
            refine lv_bipush (v := 43) hx hb dX12_sums_34 (by decide) ?_
            refine lv_icmp_ne (tgt := 43) hx hb dX12_sums_36 (by decide) (fun c => ?_) (fun c => ?_)
            · skip
              have c_115 : r_113.toInt ≠ 43 := (by have z := bn_ne c; have k1 : (43 : Int32).toInt = 43 := (by decide); omega)
              refine lv_iconst (v := 0) hx hb dX12_sums_43 (by decide) ?_
              refine lv_istore_n (lv' := [(2, .int 0), (0, .ref (h 0)), (1, .int y1_5)]) hx hb dX12_sums_44 rfl hl (by decide) rfl (fun ls hl => ?_)
              refine lv_aload_n hx hb dX12_sums_45 rfl (lv_at hl 1 rfl) ?_
              refine lv_dup hx hb dX12_sums_46 rfl ?_
              refine sg_get (ci := 12) (v := .int v_10) (C := RX12) (T := TX12) (N := 55) hx hb hts (fun w h => List.mem_cons_of_mem _ (gx_12 w h)) hown hK hP 0 (by decide) rfl rfl 13 (by decide) (hts _ (List.mem_cons_of_mem _ mw_625)) (fun _ h9 => h9) (congrArg (fun z => some (Value.int z)) (show fp_5 0 13 = v_10 from ev_10.symm)) dX12_sums_47 ?_
              refine lv_iconst (v := 1) hx hb dX12_sums_50 (by decide) ?_
              refine lv_iadd hx hb dX12_sums_51 ?_
              refine lv_topi (fun v_117 ev_117 => ?_)
              have q_118 : v_117.toInt = v_10.toInt + 1 := by rw [ev_117]; have k1 : (1 : Int32).toInt = 1 := (by decide); exact (bn_addI (by omega) (by omega)).trans (by omega)
              refine sg_put (ci := 12) (x := v_117) (ty := .int) (C := RX12) (T := TX12) (N := 55) hx hb hts (fun w h => List.mem_cons_of_mem _ (gx_12 w h)) tyX12 tyX12_ok nmX12 hown hh hA hK hP hS 0 (by decide) rfl rfl 13 (by decide) (hts _ (List.mem_cons_of_mem _ mw_625)) (fun _ h9 => h9) rfl rfl (by decide +kernel) rfl rfl (Nat.le_of_ble_eq_true rfl) dX12_sums_52 (fun f_119 H locs ef_119 hP hS => ?_)
              have hI : sgI loM hiM f_119 := by rw [ef_119]; exact sgI.put hI 0 13 (show 0 ≤ (v_117 : Int32).toInt ∧ (v_117 : Int32).toInt ≤ 120 from by omega)
              have hF : sgK WkX12_sums_2 f f_119 := sgK.put hF ef_119 (by rfl)
              refine lv_aload_n hx hb dX12_sums_55 rfl (lv_at hl 1 rfl) ?_
              have q_120 : (f_119 0 16).toInt = v_13.toInt := (congrArg Int32.toInt (show f_119 0 16 = v_13 from (by rw [ef_119, sg_up_s, sgu_n (by decide)]; exact ev_13.symm)))
              have q_121 : (f_119 0 15).toInt = v_16.toInt := (congrArg Int32.toInt (show f_119 0 15 = v_16 from (by rw [ef_119, sg_up_s, sgu_n (by decide)]; exact ev_16.symm)))
              have q_122 : (f_119 0 16).toInt = v_13.toInt := (congrArg Int32.toInt (show f_119 0 16 = v_13 from (by rw [ef_119, sg_up_s, sgu_n (by decide)]; exact ev_13.symm)))
              have q_123 : (f_119 0 13).toInt = v_117.toInt := (congrArg Int32.toInt (show f_119 0 13 = v_117 from (by rw [ef_119, sg_up_s, sgu_s])))
              refine sg_calli (va_runV (As := []) (rest := []) ⟨hx, hb, hml, hown, hts⟩ (kX12_product_2 l D ca za h hh f_119 L Q hI (by omega) (by omega) H.size) (cwV 0 hts (gw_V (fun _ h => List.mem_cons_of_mem _ h) mw_848 mw_849 mw_850 mw_619 mw_847) rfl rfl rfl (by decide +kernel) ⟨Nat.le_of_ble_eq_true rfl, Nat.le_of_ble_eq_true rfl⟩) (sg_preV (ci := 12) (C := RX12) (T := TX12) (N := 55) hA hK hP hS hZ 0 (by decide) rfl rfl) rfl rfl hl.1 rfl (lv_room (Nat.le_of_ble_eq_true rfl)) dX12_sums_56 ⟨Nat.le_refl _, Nat.le_refl _⟩) hA hS (fun r_127 f_124 L_125 Q_126 H locs hq hP hS => ?_)
              obtain ⟨⟨hI, hk_f_124, eL9, eQ9⟩, hq, p_128, p_129, p_130⟩ := hq
              rw [eL9, eQ9] at hP; clear eL9 eQ9
              have hF : sgK WkX12_sums_2 f f_124 := sgK.tr hF hk_f_124 (by decide)
              obtain ⟨v_131, ev_131⟩ : ∃ z : Int32, z = f_124 0 13 := ⟨_, rfl⟩
              have q_132 : 0 ≤ v_131.toInt ∧ v_131.toInt ≤ 120 := by rw [ev_131]; exact hI 0 13
              have q_133 : (f_124 0 13).toInt = v_131.toInt := (congrArg Int32.toInt (show f_124 0 13 = v_131 from ev_131.symm))
              obtain ⟨v_134, ev_134⟩ : ∃ z : Int32, z = f_124 0 16 := ⟨_, rfl⟩
              have q_135 : 0 ≤ v_134.toInt ∧ v_134.toInt ≤ 6 := by rw [ev_134]; exact hI 0 16
              have q_136 : (f_124 0 16).toInt = v_134.toInt := (congrArg Int32.toInt (show f_124 0 16 = v_134 from ev_134.symm))
              obtain ⟨v_137, ev_137⟩ : ∃ z : Int32, z = f_124 0 15 := ⟨_, rfl⟩
              have q_138 : (-1) ≤ v_137.toInt ∧ v_137.toInt ≤ 120 := by rw [ev_137]; exact hI 0 15
              have q_139 : (f_124 0 15).toInt = v_137.toInt := (congrArg Int32.toInt (show f_124 0 15 = v_137 from ev_137.symm))
              have q_140 : (f_124 0 16).toInt = v_134.toInt := (congrArg Int32.toInt (show f_124 0 16 = v_134 from ev_134.symm))
              refine lv_istore_n (lv' := [(3, .int r_127), (2, .int 0), (0, .ref (h 0)), (1, .int y1_5)]) hx hb dX12_sums_59 rfl hl (by decide) rfl (fun ls hl => ?_)
              refine lv_iload_n hx hb dX12_sums_60 rfl (lv_at hl 1 rfl) ?_
              refine lv_if_eq (tgt := 70) hx hb dX12_sums_61 (by decide) (fun c => ?_) (fun c => absurd c (by decide))
              refine lv_iload_n hx hb dX12_sums_70 rfl (lv_at hl 3 rfl) ?_
              refine lv_iload_n hx hb dX12_sums_71 rfl (lv_at hl 0 rfl) ?_
              refine lv_isub hx hb dX12_sums_72 ?_
              refine lv_topi (fun v_141 ev_141 => ?_)
              refine lv_istore_n (lv' := [(1, .int v_141), (3, .int r_127), (2, .int 0), (0, .ref (h 0))]) hx hb dX12_sums_73 rfl hl (by decide) rfl (fun ls hl => ?_)
              refine lv_goto (tgt := 5) hx hb dX12_sums_74 (by decide) ?_
              exact ih_5 v_141 f_124 _ _ _ (by have zz0_13 : (f_124 0 13).toInt = v_131.toInt := (congrArg Int32.toInt (show f_124 0 13 = v_131 from ev_131.symm)); omega) (by have zz0_13 : (f_124 0 13).toInt = v_131.toInt := (congrArg Int32.toInt (show f_124 0 13 = v_131 from ev_131.symm)); omega) (by have zz0_16 : (f_124 0 16).toInt = v_134.toInt := (congrArg Int32.toInt (show f_124 0 16 = v_134 from ev_134.symm)); omega) (by have zz0_15 : (f_124 0 15).toInt = v_137.toInt := (congrArg Int32.toInt (show f_124 0 15 = v_137 from ev_137.symm)); have zz0_16 : (f_124 0 16).toInt = v_134.toInt := (congrArg Int32.toInt (show f_124 0 16 = v_134 from ev_134.symm)); omega) hI hF hP hS (lv_sub hl [3, 0] rfl)
            · skip
              have c_116 : r_113.toInt = 43 := (by have z := Int32.toInt_inj.mpr c; have k1 : (43 : Int32).toInt = 43 := (by decide); omega)
              refine lv_iconst (v := 1) hx hb dX12_sums_39 (by decide) ?_
              refine lv_goto (tgt := 44) hx hb dX12_sums_40 (by decide) ?_
              refine lv_istore_n (lv' := [(2, .int 1), (0, .ref (h 0)), (1, .int y1_5)]) hx hb dX12_sums_44 rfl hl (by decide) rfl (fun ls hl => ?_)
              refine lv_aload_n hx hb dX12_sums_45 rfl (lv_at hl 1 rfl) ?_
              refine lv_dup hx hb dX12_sums_46 rfl ?_
              refine sg_get (ci := 12) (v := .int v_10) (C := RX12) (T := TX12) (N := 55) hx hb hts (fun w h => List.mem_cons_of_mem _ (gx_12 w h)) hown hK hP 0 (by decide) rfl rfl 13 (by decide) (hts _ (List.mem_cons_of_mem _ mw_625)) (fun _ h9 => h9) (congrArg (fun z => some (Value.int z)) (show fp_5 0 13 = v_10 from ev_10.symm)) dX12_sums_47 ?_
              refine lv_iconst (v := 1) hx hb dX12_sums_50 (by decide) ?_
              refine lv_iadd hx hb dX12_sums_51 ?_
              refine lv_topi (fun v_142 ev_142 => ?_)
              have q_143 : v_142.toInt = v_10.toInt + 1 := by rw [ev_142]; have k1 : (1 : Int32).toInt = 1 := (by decide); exact (bn_addI (by omega) (by omega)).trans (by omega)
              refine sg_put (ci := 12) (x := v_142) (ty := .int) (C := RX12) (T := TX12) (N := 55) hx hb hts (fun w h => List.mem_cons_of_mem _ (gx_12 w h)) tyX12 tyX12_ok nmX12 hown hh hA hK hP hS 0 (by decide) rfl rfl 13 (by decide) (hts _ (List.mem_cons_of_mem _ mw_625)) (fun _ h9 => h9) rfl rfl (by decide +kernel) rfl rfl (Nat.le_of_ble_eq_true rfl) dX12_sums_52 (fun f_144 H locs ef_144 hP hS => ?_)
              have hI : sgI loM hiM f_144 := by rw [ef_144]; exact sgI.put hI 0 13 (show 0 ≤ (v_142 : Int32).toInt ∧ (v_142 : Int32).toInt ≤ 120 from by omega)
              have hF : sgK WkX12_sums_2 f f_144 := sgK.put hF ef_144 (by rfl)
              refine lv_aload_n hx hb dX12_sums_55 rfl (lv_at hl 1 rfl) ?_
              have q_145 : (f_144 0 16).toInt = v_13.toInt := (congrArg Int32.toInt (show f_144 0 16 = v_13 from (by rw [ef_144, sg_up_s, sgu_n (by decide)]; exact ev_13.symm)))
              have q_146 : (f_144 0 15).toInt = v_16.toInt := (congrArg Int32.toInt (show f_144 0 15 = v_16 from (by rw [ef_144, sg_up_s, sgu_n (by decide)]; exact ev_16.symm)))
              have q_147 : (f_144 0 16).toInt = v_13.toInt := (congrArg Int32.toInt (show f_144 0 16 = v_13 from (by rw [ef_144, sg_up_s, sgu_n (by decide)]; exact ev_13.symm)))
              have q_148 : (f_144 0 13).toInt = v_142.toInt := (congrArg Int32.toInt (show f_144 0 13 = v_142 from (by rw [ef_144, sg_up_s, sgu_s])))
              refine sg_calli (va_runV (As := []) (rest := []) ⟨hx, hb, hml, hown, hts⟩ (kX12_product_2 l D ca za h hh f_144 L Q hI (by omega) (by omega) H.size) (cwV 0 hts (gw_V (fun _ h => List.mem_cons_of_mem _ h) mw_848 mw_849 mw_850 mw_619 mw_847) rfl rfl rfl (by decide +kernel) ⟨Nat.le_of_ble_eq_true rfl, Nat.le_of_ble_eq_true rfl⟩) (sg_preV (ci := 12) (C := RX12) (T := TX12) (N := 55) hA hK hP hS hZ 0 (by decide) rfl rfl) rfl rfl hl.1 rfl (lv_room (Nat.le_of_ble_eq_true rfl)) dX12_sums_56 ⟨Nat.le_refl _, Nat.le_refl _⟩) hA hS (fun r_152 f_149 L_150 Q_151 H locs hq hP hS => ?_)
              obtain ⟨⟨hI, hk_f_149, eL9, eQ9⟩, hq, p_153, p_154, p_155⟩ := hq
              rw [eL9, eQ9] at hP; clear eL9 eQ9
              have hF : sgK WkX12_sums_2 f f_149 := sgK.tr hF hk_f_149 (by decide)
              obtain ⟨v_156, ev_156⟩ : ∃ z : Int32, z = f_149 0 13 := ⟨_, rfl⟩
              have q_157 : 0 ≤ v_156.toInt ∧ v_156.toInt ≤ 120 := by rw [ev_156]; exact hI 0 13
              have q_158 : (f_149 0 13).toInt = v_156.toInt := (congrArg Int32.toInt (show f_149 0 13 = v_156 from ev_156.symm))
              obtain ⟨v_159, ev_159⟩ : ∃ z : Int32, z = f_149 0 16 := ⟨_, rfl⟩
              have q_160 : 0 ≤ v_159.toInt ∧ v_159.toInt ≤ 6 := by rw [ev_159]; exact hI 0 16
              have q_161 : (f_149 0 16).toInt = v_159.toInt := (congrArg Int32.toInt (show f_149 0 16 = v_159 from ev_159.symm))
              obtain ⟨v_162, ev_162⟩ : ∃ z : Int32, z = f_149 0 15 := ⟨_, rfl⟩
              have q_163 : (-1) ≤ v_162.toInt ∧ v_162.toInt ≤ 120 := by rw [ev_162]; exact hI 0 15
              have q_164 : (f_149 0 15).toInt = v_162.toInt := (congrArg Int32.toInt (show f_149 0 15 = v_162 from ev_162.symm))
              have q_165 : (f_149 0 16).toInt = v_159.toInt := (congrArg Int32.toInt (show f_149 0 16 = v_159 from ev_159.symm))
              refine lv_istore_n (lv' := [(3, .int r_152), (2, .int 1), (0, .ref (h 0)), (1, .int y1_5)]) hx hb dX12_sums_59 rfl hl (by decide) rfl (fun ls hl => ?_)
              refine lv_iload_n hx hb dX12_sums_60 rfl (lv_at hl 1 rfl) ?_
              refine lv_if_eq (tgt := 70) hx hb dX12_sums_61 (by decide) (fun c => absurd c (by decide)) (fun c => ?_)
              refine lv_iload_n hx hb dX12_sums_64 rfl (lv_at hl 3 rfl) ?_
              refine lv_iload_n hx hb dX12_sums_65 rfl (lv_at hl 0 rfl) ?_
              refine lv_iadd hx hb dX12_sums_66 ?_
              refine lv_topi (fun v_166 ev_166 => ?_)
              refine lv_goto (tgt := 73) hx hb dX12_sums_67 (by decide) ?_
              refine lv_istore_n (lv' := [(1, .int v_166), (3, .int r_152), (2, .int 1), (0, .ref (h 0))]) hx hb dX12_sums_73 rfl hl (by decide) rfl (fun ls hl => ?_)
              refine lv_goto (tgt := 5) hx hb dX12_sums_74 (by decide) ?_
              exact ih_5 v_166 f_149 _ _ _ (by have zz0_13 : (f_149 0 13).toInt = v_156.toInt := (congrArg Int32.toInt (show f_149 0 13 = v_156 from ev_156.symm)); omega) (by have zz0_13 : (f_149 0 13).toInt = v_156.toInt := (congrArg Int32.toInt (show f_149 0 13 = v_156 from ev_156.symm)); omega) (by have zz0_16 : (f_149 0 16).toInt = v_159.toInt := (congrArg Int32.toInt (show f_149 0 16 = v_159 from ev_159.symm)); omega) (by have zz0_15 : (f_149 0 15).toInt = v_162.toInt := (congrArg Int32.toInt (show f_149 0 15 = v_162 from ev_162.symm)); have zz0_16 : (f_149 0 16).toInt = v_159.toInt := (congrArg Int32.toInt (show f_149 0 16 = v_159 from ev_159.symm)); omega) hI hF hP hS (lv_sub hl [3, 0] rfl)
  refine lv_aload_n hx hb dX12_sums_0 rfl (lv_at hl 0 rfl) ?_
  have q_167 : (f 0 16).toInt = v_1.toInt := (congrArg Int32.toInt (show f 0 16 = v_1 from ev_1.symm))
  have q_168 : (f 0 15).toInt = v_3.toInt := (congrArg Int32.toInt (show f 0 15 = v_3 from ev_3.symm))
  have q_169 : (f 0 16).toInt = v_1.toInt := (congrArg Int32.toInt (show f 0 16 = v_1 from ev_1.symm))
  have q_170 : (f 0 13).toInt = v_5.toInt := (congrArg Int32.toInt (show f 0 13 = v_5 from ev_5.symm))
  refine sg_calli (va_runV (As := []) (rest := []) ⟨hx, hb, hml, hown, hts⟩ (kX12_product_2 l D ca za h hh f L Q hI (by omega) (by omega) H.size) (cwV 0 hts (gw_V (fun _ h => List.mem_cons_of_mem _ h) mw_848 mw_849 mw_850 mw_619 mw_847) rfl rfl rfl (by decide +kernel) ⟨Nat.le_of_ble_eq_true rfl, Nat.le_of_ble_eq_true rfl⟩) (sg_preV (ci := 12) (C := RX12) (T := TX12) (N := 55) hA hK hP hS hZ 0 (by decide) rfl rfl) rfl rfl hl.1 rfl (lv_room (Nat.le_of_ble_eq_true rfl)) dX12_sums_1 ⟨Nat.le_refl _, Nat.le_refl _⟩) hA hS (fun r_174 f_171 L_172 Q_173 H locs hq hP hS => ?_)
  obtain ⟨⟨hI, hk_f_171, eL9, eQ9⟩, hq, p_175, p_176, p_177⟩ := hq
  rw [eL9, eQ9] at hP; clear eL9 eQ9
  have hF : sgK WkX12_sums_2 f f_171 := sgK.tr hF hk_f_171 (by decide)
  obtain ⟨v_178, ev_178⟩ : ∃ z : Int32, z = f_171 0 13 := ⟨_, rfl⟩
  have q_179 : 0 ≤ v_178.toInt ∧ v_178.toInt ≤ 120 := by rw [ev_178]; exact hI 0 13
  have q_180 : (f_171 0 13).toInt = v_178.toInt := (congrArg Int32.toInt (show f_171 0 13 = v_178 from ev_178.symm))
  obtain ⟨v_181, ev_181⟩ : ∃ z : Int32, z = f_171 0 16 := ⟨_, rfl⟩
  have q_182 : 0 ≤ v_181.toInt ∧ v_181.toInt ≤ 6 := by rw [ev_181]; exact hI 0 16
  have q_183 : (f_171 0 16).toInt = v_181.toInt := (congrArg Int32.toInt (show f_171 0 16 = v_181 from ev_181.symm))
  obtain ⟨v_184, ev_184⟩ : ∃ z : Int32, z = f_171 0 15 := ⟨_, rfl⟩
  have q_185 : (-1) ≤ v_184.toInt ∧ v_184.toInt ≤ 120 := by rw [ev_184]; exact hI 0 15
  have q_186 : (f_171 0 15).toInt = v_184.toInt := (congrArg Int32.toInt (show f_171 0 15 = v_184 from ev_184.symm))
  have q_187 : (f_171 0 16).toInt = v_181.toInt := (congrArg Int32.toInt (show f_171 0 16 = v_181 from ev_181.symm))
  refine lv_istore_n (lv' := [(1, .int r_174), (0, .ref (h 0))]) hx hb dX12_sums_4 rfl hl (by decide) rfl (fun ls hl => ?_)
  exact loop_5 121 r_174 f_171 _ _ _ (by have zz0_13 : (f_171 0 13).toInt = v_178.toInt := (congrArg Int32.toInt (show f_171 0 13 = v_178 from ev_178.symm)); omega) (by have zz0_13 : (f_171 0 13).toInt = v_178.toInt := (congrArg Int32.toInt (show f_171 0 13 = v_178 from ev_178.symm)); omega) (by have zz0_16 : (f_171 0 16).toInt = v_181.toInt := (congrArg Int32.toInt (show f_171 0 16 = v_181 from ev_181.symm)); omega) (by have zz0_15 : (f_171 0 15).toInt = v_184.toInt := (congrArg Int32.toInt (show f_171 0 15 = v_184 from ev_184.symm)); have zz0_16 : (f_171 0 16).toInt = v_181.toInt := (congrArg Int32.toInt (show f_171 0 16 = v_181 from ev_181.symm)); omega) hI hF hP hS (lv_sub hl [1, 0] rfl)

abbrev WkX12_compared_2 : List (Nat × Nat × Option Nat) := [(0, 0, some 13), (0, 0, some 15), (0, 0, some 16)]
set_option maxHeartbeats 4000000 in
set_option maxRecDepth 100000 in
theorem kX12_compared_2 (l : Launch) (D : va_G) (ca : Nat → ClassId) (za h : Nat → Nat) (hh : sgH 26 h) (f : sg_F) (L : sg_L) (Q : sg_Q) (hI : sgI loM hiM f) (p0 : 2 ≤ (f 0 16).toInt) (p1 : 0 ≤ (f 0 15).toInt ∨ (f 0 16).toInt = 2) (sz : Nat) : Met l yX12_compared gwX12_compared { frames := 28, cells := 0, slots := 0, locals := 638 } (sgP D vwCl (tyX ca) 26 h (eM ca h) zcM za f L Q sz [.ref (h 0)]) (sgQi D vwCl 26 h (eM ca h) sz (fun r f1 L1 Q1 => ((sgI loM hiM f1 ∧ sgK WkX12_compared_2 f f1 ∧ L1 = L ∧ Q1 = Q) ∧ True ∧ ((f 0 13).toInt ≤ (f1 0 13).toInt) ∧ (2 ≤ (f1 0 16).toInt) ∧ (0 ≤ (f1 0 15).toInt ∨ (f1 0 16).toInt = 2)))) 0 0 (sgA 26 h sz) := by
  refine sg_ofWi (cc := cX12_compared) (maxL := 4) RX12 (by decide) rfl rfl (Nat.le_of_ble_eq_true rfl) ?_
  intro p e s m below meth cd Qz ls hx hb hml hown hts hK hZ hP hS hl hret
  have hA := sgY.self (n := 26) (h := h) (sz := s.heap.size)
  have hl : lv_has ls 4 [(0, .ref (h 0))] := hl
  obtain ⟨H, hH⟩ : ∃ z : Heap, z = s.heap := ⟨_, rfl⟩
  obtain ⟨locs, hlo⟩ : ∃ z : List Loc, z = [] := ⟨_, rfl⟩
  have hP : va_P D vwCl (sgw 26 h (eM ca h) f L Q) H := by rw [hH]; exact hP
  have hS : va_S (sgA 26 h s.heap.size) s.heap H locs := by rw [hH, hlo]; exact hS
  suffices hgo : W p l e ({ frames := 28, cells := 0, slots := 0, locals := 638 }) s m ([.ref (h 0)] : List Value).toArray below meth cd H locs 0 0 Qz (F0 m 0 ls []) by rw [hH, hlo] at hgo; exact hgo
  clear hH hlo
  obtain ⟨v_1, ev_1⟩ : ∃ z : Int32, z = f 0 16 := ⟨_, rfl⟩
  have q_2 : 0 ≤ v_1.toInt ∧ v_1.toInt ≤ 6 := by rw [ev_1]; exact hI 0 16
  obtain ⟨v_3, ev_3⟩ : ∃ z : Int32, z = f 0 15 := ⟨_, rfl⟩
  have q_4 : (-1) ≤ v_3.toInt ∧ v_3.toInt ≤ 120 := by rw [ev_3]; exact hI 0 15
  obtain ⟨v_5, ev_5⟩ : ∃ z : Int32, z = f 0 13 := ⟨_, rfl⟩
  have q_6 : 0 ≤ v_5.toInt ∧ v_5.toInt ≤ 120 := by rw [ev_5]; exact hI 0 13
  have o_7 : (f 0 16).toInt = v_1.toInt := (congrArg Int32.toInt (show f 0 16 = v_1 from ev_1.symm))
  have o_8 : (f 0 15).toInt = v_3.toInt := (congrArg Int32.toInt (show f 0 15 = v_3 from ev_3.symm))
  have o_9 : (f 0 13).toInt = v_5.toInt := (congrArg Int32.toInt (show f 0 13 = v_5 from ev_5.symm))
  have hF : sgK WkX12_compared_2 f f := sgK.rf
  refine lv_aload_n hx hb dX12_compared_0 rfl (lv_at hl 0 rfl) ?_
  have q_10 : (f 0 16).toInt = v_1.toInt := (congrArg Int32.toInt (show f 0 16 = v_1 from ev_1.symm))
  have q_11 : (f 0 15).toInt = v_3.toInt := (congrArg Int32.toInt (show f 0 15 = v_3 from ev_3.symm))
  have q_12 : (f 0 16).toInt = v_1.toInt := (congrArg Int32.toInt (show f 0 16 = v_1 from ev_1.symm))
  have q_13 : (f 0 13).toInt = v_5.toInt := (congrArg Int32.toInt (show f 0 13 = v_5 from ev_5.symm))
  refine sg_calli (va_runV (As := []) (rest := []) ⟨hx, hb, hml, hown, hts⟩ (kX12_sums_2 l D ca za h hh f L Q hI (by omega) (by omega) H.size) (cwV 0 hts (gw_V (fun _ h => List.mem_cons_of_mem _ h) mw_852 mw_853 mw_854 mw_619 mw_851) rfl rfl rfl (by decide +kernel) ⟨Nat.le_of_ble_eq_true rfl, Nat.le_of_ble_eq_true rfl⟩) (sg_preV (ci := 12) (C := RX12) (T := TX12) (N := 55) hA hK hP hS hZ 0 (by decide) rfl rfl) rfl rfl hl.1 rfl (lv_room (Nat.le_of_ble_eq_true rfl)) dX12_compared_1 ⟨Nat.le_refl _, Nat.le_refl _⟩) hA hS (fun r_17 f_14 L_15 Q_16 H locs hq hP hS => ?_)
  obtain ⟨⟨hI, hk_f_14, eL9, eQ9⟩, hq, p_18, p_19, p_20⟩ := hq
  rw [eL9, eQ9] at hP; clear eL9 eQ9
  have hF : sgK WkX12_compared_2 f f_14 := sgK.tr hF hk_f_14 (by decide)
  obtain ⟨v_21, ev_21⟩ : ∃ z : Int32, z = f_14 0 13 := ⟨_, rfl⟩
  have q_22 : 0 ≤ v_21.toInt ∧ v_21.toInt ≤ 120 := by rw [ev_21]; exact hI 0 13
  have q_23 : (f_14 0 13).toInt = v_21.toInt := (congrArg Int32.toInt (show f_14 0 13 = v_21 from ev_21.symm))
  obtain ⟨v_24, ev_24⟩ : ∃ z : Int32, z = f_14 0 16 := ⟨_, rfl⟩
  have q_25 : 0 ≤ v_24.toInt ∧ v_24.toInt ≤ 6 := by rw [ev_24]; exact hI 0 16
  have q_26 : (f_14 0 16).toInt = v_24.toInt := (congrArg Int32.toInt (show f_14 0 16 = v_24 from ev_24.symm))
  obtain ⟨v_27, ev_27⟩ : ∃ z : Int32, z = f_14 0 15 := ⟨_, rfl⟩
  have q_28 : (-1) ≤ v_27.toInt ∧ v_27.toInt ≤ 120 := by rw [ev_27]; exact hI 0 15
  have q_29 : (f_14 0 15).toInt = v_27.toInt := (congrArg Int32.toInt (show f_14 0 15 = v_27 from ev_27.symm))
  have q_30 : (f_14 0 16).toInt = v_24.toInt := (congrArg Int32.toInt (show f_14 0 16 = v_24 from ev_24.symm))
  refine lv_istore_n (lv' := [(1, .int r_17), (0, .ref (h 0))]) hx hb dX12_compared_4 rfl hl (by decide) rfl (fun ls hl => ?_)
  refine lv_aload_n hx hb dX12_compared_5 rfl (lv_at hl 1 rfl) ?_
  have q_31 : (f_14 0 13).toInt = v_21.toInt := (congrArg Int32.toInt (show f_14 0 13 = v_21 from ev_21.symm))
  obtain ⟨v_32, ev_32⟩ : ∃ z : Int32, z = f_14 0 14 := ⟨_, rfl⟩
  have q_33 : 0 ≤ v_32.toInt ∧ v_32.toInt ≤ 120 := by rw [ev_32]; exact hI 0 14
  have q_34 : (f_14 0 14).toInt = v_32.toInt := (congrArg Int32.toInt (show f_14 0 14 = v_32 from ev_32.symm))
  refine sg_calli (va_runV (As := []) (rest := []) ⟨hx, hb, hml, hown, hts⟩ (kX12_byteAt l D ca za h hh f_14 L Q hI H.size) (cwV 0 hts (gw_V (fun _ h => List.mem_cons_of_mem _ h) mw_840 mw_841 mw_842 mw_619 mw_839) rfl rfl rfl (by decide +kernel) ⟨Nat.le_of_ble_eq_true rfl, Nat.le_of_ble_eq_true rfl⟩) (sg_preV (ci := 12) (C := RX12) (T := TX12) (N := 55) hA hK hP hS hZ 0 (by decide) rfl rfl) rfl rfl hl.1 rfl (lv_room (Nat.le_of_ble_eq_true rfl)) dX12_compared_6 ⟨Nat.le_refl _, Nat.le_refl _⟩) hA hS (fun r_38 f_35 L_36 Q_37 H locs hq hP hS => ?_)
  obtain ⟨⟨ef9, eL9, eQ9⟩, hq, p_39⟩ := hq
  rw [ef9, eL9, eQ9] at hP; clear ef9 eL9 eQ9
  refine lv_istore_n (lv' := [(2, .int r_38), (1, .int r_17), (0, .ref (h 0))]) hx hb dX12_compared_9 rfl hl (by decide) rfl (fun ls hl => ?_)
  refine lv_aload_n hx hb dX12_compared_10 rfl (lv_at hl 2 rfl) ?_
  refine sg_get (ci := 12) (v := .int v_27) (C := RX12) (T := TX12) (N := 55) hx hb hts (fun w h => List.mem_cons_of_mem _ (gx_12 w h)) hown hK hP 0 (by decide) rfl rfl 15 (by decide) (hts _ (List.mem_cons_of_mem _ mw_627)) (fun _ h9 => h9) (congrArg (fun z => some (Value.int z)) (show f_14 0 15 = v_27 from ev_27.symm)) dX12_compared_11 ?_
  refine lv_if_ge (tgt := 35) hx hb dX12_compared_14 (by decide) (fun c => ?_) (fun c => ?_)
  · skip
    have c_40 : 0 ≤ v_27.toInt := (by have z := bn_le c; have k1 : (0 : Int32).toInt = 0 := (by decide); omega)
    refine lv_iload_n hx hb dX12_compared_35 rfl (lv_at hl 1 rfl) ?_
    have q_42 : (f_14 0 13).toInt = v_21.toInt := (congrArg Int32.toInt (show f_14 0 13 = v_21 from ev_21.symm))
    have q_43 : (f_14 0 16).toInt = v_24.toInt := (congrArg Int32.toInt (show f_14 0 16 = v_24 from ev_24.symm))
    have q_44 : (f_14 0 15).toInt = v_27.toInt := (congrArg Int32.toInt (show f_14 0 15 = v_27 from ev_27.symm))
    have q_45 : (f_14 0 16).toInt = v_24.toInt := (congrArg Int32.toInt (show f_14 0 16 = v_24 from ev_24.symm))
    exact hret _ _ _ _ (r_17) f_14 L Q dX12_compared_36 hP hS ⟨⟨hI, hF, rfl, rfl⟩, trivial, (by omega), (by omega), (by omega)⟩
  · skip
    have c_41 : v_27.toInt < 0 := (by have z := bn_nle c; have k1 : (0 : Int32).toInt = 0 := (by decide); omega)
    refine lv_iload_n hx hb dX12_compared_17 rfl (lv_at hl 0 rfl) ?_
    refine lv_bipush (v := 60) hx hb dX12_compared_18 (by decide) ?_
    refine lv_icmp_eq (tgt := 37) hx hb dX12_compared_20 (by decide) (fun c => ?_) (fun c => ?_)
    · skip
      have c_46 : r_38.toInt = 60 := (by have z := Int32.toInt_inj.mpr c; have k1 : (60 : Int32).toInt = 60 := (by decide); omega)
      refine lv_aload_n hx hb dX12_compared_37 rfl (lv_at hl 2 rfl) ?_
      refine lv_dup hx hb dX12_compared_38 rfl ?_
      refine sg_get (ci := 12) (v := .int v_21) (C := RX12) (T := TX12) (N := 55) hx hb hts (fun w h => List.mem_cons_of_mem _ (gx_12 w h)) hown hK hP 0 (by decide) rfl rfl 13 (by decide) (hts _ (List.mem_cons_of_mem _ mw_625)) (fun _ h9 => h9) (congrArg (fun z => some (Value.int z)) (show f_14 0 13 = v_21 from ev_21.symm)) dX12_compared_39 ?_
      refine lv_iconst (v := 1) hx hb dX12_compared_42 (by decide) ?_
      refine lv_iadd hx hb dX12_compared_43 ?_
      refine lv_topi (fun v_48 ev_48 => ?_)
      have q_49 : v_48.toInt = v_21.toInt + 1 := by rw [ev_48]; have k1 : (1 : Int32).toInt = 1 := (by decide); exact (bn_addI (by omega) (by omega)).trans (by omega)
      refine sg_put (ci := 12) (x := v_48) (ty := .int) (C := RX12) (T := TX12) (N := 55) hx hb hts (fun w h => List.mem_cons_of_mem _ (gx_12 w h)) tyX12 tyX12_ok nmX12 hown hh hA hK hP hS 0 (by decide) rfl rfl 13 (by decide) (hts _ (List.mem_cons_of_mem _ mw_625)) (fun _ h9 => h9) rfl rfl (by decide +kernel) rfl rfl (Nat.le_of_ble_eq_true rfl) dX12_compared_44 (fun f_50 H locs ef_50 hP hS => ?_)
      have hI : sgI loM hiM f_50 := by rw [ef_50]; exact sgI.put hI 0 13 (show 0 ≤ (v_48 : Int32).toInt ∧ (v_48 : Int32).toInt ≤ 120 from by omega)
      have hF : sgK WkX12_compared_2 f f_50 := sgK.put hF ef_50 (by rfl)
      refine lv_aload_n hx hb dX12_compared_47 rfl (lv_at hl 2 rfl) ?_
      have q_51 : (f_50 0 16).toInt = v_24.toInt := (congrArg Int32.toInt (show f_50 0 16 = v_24 from (by rw [ef_50, sg_up_s, sgu_n (by decide)]; exact ev_24.symm)))
      have q_52 : (f_50 0 15).toInt = v_27.toInt := (congrArg Int32.toInt (show f_50 0 15 = v_27 from (by rw [ef_50, sg_up_s, sgu_n (by decide)]; exact ev_27.symm)))
      have q_53 : (f_50 0 16).toInt = v_24.toInt := (congrArg Int32.toInt (show f_50 0 16 = v_24 from (by rw [ef_50, sg_up_s, sgu_n (by decide)]; exact ev_24.symm)))
      have q_54 : (f_50 0 13).toInt = v_48.toInt := (congrArg Int32.toInt (show f_50 0 13 = v_48 from (by rw [ef_50, sg_up_s, sgu_s])))
      refine sg_calli (va_runV (As := []) (rest := []) ⟨hx, hb, hml, hown, hts⟩ (kX12_sums_2 l D ca za h hh f_50 L Q hI (by omega) (by omega) H.size) (cwV 0 hts (gw_V (fun _ h => List.mem_cons_of_mem _ h) mw_852 mw_853 mw_854 mw_619 mw_851) rfl rfl rfl (by decide +kernel) ⟨Nat.le_of_ble_eq_true rfl, Nat.le_of_ble_eq_true rfl⟩) (sg_preV (ci := 12) (C := RX12) (T := TX12) (N := 55) hA hK hP hS hZ 0 (by decide) rfl rfl) rfl rfl hl.1 rfl (lv_room (Nat.le_of_ble_eq_true rfl)) dX12_compared_48 ⟨Nat.le_refl _, Nat.le_refl _⟩) hA hS (fun r_58 f_55 L_56 Q_57 H locs hq hP hS => ?_)
      obtain ⟨⟨hI, hk_f_55, eL9, eQ9⟩, hq, p_59, p_60, p_61⟩ := hq
      rw [eL9, eQ9] at hP; clear eL9 eQ9
      have hF : sgK WkX12_compared_2 f f_55 := sgK.tr hF hk_f_55 (by decide)
      obtain ⟨v_62, ev_62⟩ : ∃ z : Int32, z = f_55 0 13 := ⟨_, rfl⟩
      have q_63 : 0 ≤ v_62.toInt ∧ v_62.toInt ≤ 120 := by rw [ev_62]; exact hI 0 13
      have q_64 : (f_55 0 13).toInt = v_62.toInt := (congrArg Int32.toInt (show f_55 0 13 = v_62 from ev_62.symm))
      obtain ⟨v_65, ev_65⟩ : ∃ z : Int32, z = f_55 0 16 := ⟨_, rfl⟩
      have q_66 : 0 ≤ v_65.toInt ∧ v_65.toInt ≤ 6 := by rw [ev_65]; exact hI 0 16
      have q_67 : (f_55 0 16).toInt = v_65.toInt := (congrArg Int32.toInt (show f_55 0 16 = v_65 from ev_65.symm))
      obtain ⟨v_68, ev_68⟩ : ∃ z : Int32, z = f_55 0 15 := ⟨_, rfl⟩
      have q_69 : (-1) ≤ v_68.toInt ∧ v_68.toInt ≤ 120 := by rw [ev_68]; exact hI 0 15
      have q_70 : (f_55 0 15).toInt = v_68.toInt := (congrArg Int32.toInt (show f_55 0 15 = v_68 from ev_68.symm))
      have q_71 : (f_55 0 16).toInt = v_65.toInt := (congrArg Int32.toInt (show f_55 0 16 = v_65 from ev_65.symm))
      refine lv_istore_n (lv' := [(3, .int r_58), (2, .int r_38), (1, .int r_17), (0, .ref (h 0))]) hx hb dX12_compared_51 rfl hl (by decide) rfl (fun ls hl => ?_)
      refine lv_iload_n hx hb dX12_compared_52 rfl (lv_at hl 1 rfl) ?_
      refine lv_bipush (v := 60) hx hb dX12_compared_53 (by decide) ?_
      refine lv_icmp_ne (tgt := 66) hx hb dX12_compared_55 (by decide) (fun c => ?_) (fun c => ?_)
      · skip
        exfalso; have c_72 : r_38.toInt ≠ 60 := (by have z := bn_ne c; have k1 : (60 : Int32).toInt = 60 := (by decide); omega); omega
      · skip
        have c_73 : r_38.toInt = 60 := (by have z := Int32.toInt_inj.mpr c; have k1 : (60 : Int32).toInt = 60 := (by decide); omega)
        refine lv_iload_n hx hb dX12_compared_58 rfl (lv_at hl 2 rfl) ?_
        refine lv_iload_n hx hb dX12_compared_59 rfl (lv_at hl 0 rfl) ?_
        refine lv_icmp_ge (tgt := 89) hx hb dX12_compared_60 (by decide) (fun c => ?_) (fun c => ?_)
        · skip
          have c_74 : r_58.toInt ≤ r_17.toInt := (by have z := bn_le c; omega)
          refine lv_iconst (v := 0) hx hb dX12_compared_89 (by decide) ?_
          have q_76 : (f_55 0 13).toInt = v_62.toInt := (congrArg Int32.toInt (show f_55 0 13 = v_62 from ev_62.symm))
          have q_77 : (f_55 0 16).toInt = v_65.toInt := (congrArg Int32.toInt (show f_55 0 16 = v_65 from ev_65.symm))
          have q_78 : (f_55 0 15).toInt = v_68.toInt := (congrArg Int32.toInt (show f_55 0 15 = v_68 from ev_68.symm))
          have q_79 : (f_55 0 16).toInt = v_65.toInt := (congrArg Int32.toInt (show f_55 0 16 = v_65 from ev_65.symm))
          have k99 : (0 : Int32).toInt = 0 := (by decide)
          exact hret _ _ _ _ (0) f_55 L Q dX12_compared_90 hP hS ⟨⟨hI, hF, rfl, rfl⟩, trivial, (by omega), (by omega), (by omega)⟩
        · skip
          have c_75 : r_17.toInt < r_58.toInt := (by have z := bn_nle c; omega)
          refine lv_goto (tgt := 85) hx hb dX12_compared_63 (by decide) ?_
          refine lv_iconst (v := 1) hx hb dX12_compared_85 (by decide) ?_
          refine lv_goto (tgt := 90) hx hb dX12_compared_86 (by decide) ?_
          have q_80 : (f_55 0 13).toInt = v_62.toInt := (congrArg Int32.toInt (show f_55 0 13 = v_62 from ev_62.symm))
          have q_81 : (f_55 0 16).toInt = v_65.toInt := (congrArg Int32.toInt (show f_55 0 16 = v_65 from ev_65.symm))
          have q_82 : (f_55 0 15).toInt = v_68.toInt := (congrArg Int32.toInt (show f_55 0 15 = v_68 from ev_68.symm))
          have q_83 : (f_55 0 16).toInt = v_65.toInt := (congrArg Int32.toInt (show f_55 0 16 = v_65 from ev_65.symm))
          have k99 : (1 : Int32).toInt = 1 := (by decide)
          exact hret _ _ _ _ (1) f_55 L Q dX12_compared_90 hP hS ⟨⟨hI, hF, rfl, rfl⟩, trivial, (by omega), (by omega), (by omega)⟩
    · skip
      have c_47 : r_38.toInt ≠ 60 := (by have z := bn_ne c; have k1 : (60 : Int32).toInt = 60 := (by decide); omega)
      refine lv_iload_n hx hb dX12_compared_23 rfl (lv_at hl 0 rfl) ?_
      refine lv_bipush (v := 61) hx hb dX12_compared_24 (by decide) ?_
      refine lv_icmp_eq (tgt := 37) hx hb dX12_compared_26 (by decide) (fun c => ?_) (fun c => ?_)
      · skip
        have c_84 : r_38.toInt = 61 := (by have z := Int32.toInt_inj.mpr c; have k1 : (61 : Int32).toInt = 61 := (by decide); omega)
        refine lv_aload_n hx hb dX12_compared_37 rfl (lv_at hl 2 rfl) ?_
        refine lv_dup hx hb dX12_compared_38 rfl ?_
        refine sg_get (ci := 12) (v := .int v_21) (C := RX12) (T := TX12) (N := 55) hx hb hts (fun w h => List.mem_cons_of_mem _ (gx_12 w h)) hown hK hP 0 (by decide) rfl rfl 13 (by decide) (hts _ (List.mem_cons_of_mem _ mw_625)) (fun _ h9 => h9) (congrArg (fun z => some (Value.int z)) (show f_14 0 13 = v_21 from ev_21.symm)) dX12_compared_39 ?_
        refine lv_iconst (v := 1) hx hb dX12_compared_42 (by decide) ?_
        refine lv_iadd hx hb dX12_compared_43 ?_
        refine lv_topi (fun v_86 ev_86 => ?_)
        have q_87 : v_86.toInt = v_21.toInt + 1 := by rw [ev_86]; have k1 : (1 : Int32).toInt = 1 := (by decide); exact (bn_addI (by omega) (by omega)).trans (by omega)
        refine sg_put (ci := 12) (x := v_86) (ty := .int) (C := RX12) (T := TX12) (N := 55) hx hb hts (fun w h => List.mem_cons_of_mem _ (gx_12 w h)) tyX12 tyX12_ok nmX12 hown hh hA hK hP hS 0 (by decide) rfl rfl 13 (by decide) (hts _ (List.mem_cons_of_mem _ mw_625)) (fun _ h9 => h9) rfl rfl (by decide +kernel) rfl rfl (Nat.le_of_ble_eq_true rfl) dX12_compared_44 (fun f_88 H locs ef_88 hP hS => ?_)
        have hI : sgI loM hiM f_88 := by rw [ef_88]; exact sgI.put hI 0 13 (show 0 ≤ (v_86 : Int32).toInt ∧ (v_86 : Int32).toInt ≤ 120 from by omega)
        have hF : sgK WkX12_compared_2 f f_88 := sgK.put hF ef_88 (by rfl)
        refine lv_aload_n hx hb dX12_compared_47 rfl (lv_at hl 2 rfl) ?_
        have q_89 : (f_88 0 16).toInt = v_24.toInt := (congrArg Int32.toInt (show f_88 0 16 = v_24 from (by rw [ef_88, sg_up_s, sgu_n (by decide)]; exact ev_24.symm)))
        have q_90 : (f_88 0 15).toInt = v_27.toInt := (congrArg Int32.toInt (show f_88 0 15 = v_27 from (by rw [ef_88, sg_up_s, sgu_n (by decide)]; exact ev_27.symm)))
        have q_91 : (f_88 0 16).toInt = v_24.toInt := (congrArg Int32.toInt (show f_88 0 16 = v_24 from (by rw [ef_88, sg_up_s, sgu_n (by decide)]; exact ev_24.symm)))
        have q_92 : (f_88 0 13).toInt = v_86.toInt := (congrArg Int32.toInt (show f_88 0 13 = v_86 from (by rw [ef_88, sg_up_s, sgu_s])))
        refine sg_calli (va_runV (As := []) (rest := []) ⟨hx, hb, hml, hown, hts⟩ (kX12_sums_2 l D ca za h hh f_88 L Q hI (by omega) (by omega) H.size) (cwV 0 hts (gw_V (fun _ h => List.mem_cons_of_mem _ h) mw_852 mw_853 mw_854 mw_619 mw_851) rfl rfl rfl (by decide +kernel) ⟨Nat.le_of_ble_eq_true rfl, Nat.le_of_ble_eq_true rfl⟩) (sg_preV (ci := 12) (C := RX12) (T := TX12) (N := 55) hA hK hP hS hZ 0 (by decide) rfl rfl) rfl rfl hl.1 rfl (lv_room (Nat.le_of_ble_eq_true rfl)) dX12_compared_48 ⟨Nat.le_refl _, Nat.le_refl _⟩) hA hS (fun r_96 f_93 L_94 Q_95 H locs hq hP hS => ?_)
        obtain ⟨⟨hI, hk_f_93, eL9, eQ9⟩, hq, p_97, p_98, p_99⟩ := hq
        rw [eL9, eQ9] at hP; clear eL9 eQ9
        have hF : sgK WkX12_compared_2 f f_93 := sgK.tr hF hk_f_93 (by decide)
        obtain ⟨v_100, ev_100⟩ : ∃ z : Int32, z = f_93 0 13 := ⟨_, rfl⟩
        have q_101 : 0 ≤ v_100.toInt ∧ v_100.toInt ≤ 120 := by rw [ev_100]; exact hI 0 13
        have q_102 : (f_93 0 13).toInt = v_100.toInt := (congrArg Int32.toInt (show f_93 0 13 = v_100 from ev_100.symm))
        obtain ⟨v_103, ev_103⟩ : ∃ z : Int32, z = f_93 0 16 := ⟨_, rfl⟩
        have q_104 : 0 ≤ v_103.toInt ∧ v_103.toInt ≤ 6 := by rw [ev_103]; exact hI 0 16
        have q_105 : (f_93 0 16).toInt = v_103.toInt := (congrArg Int32.toInt (show f_93 0 16 = v_103 from ev_103.symm))
        obtain ⟨v_106, ev_106⟩ : ∃ z : Int32, z = f_93 0 15 := ⟨_, rfl⟩
        have q_107 : (-1) ≤ v_106.toInt ∧ v_106.toInt ≤ 120 := by rw [ev_106]; exact hI 0 15
        have q_108 : (f_93 0 15).toInt = v_106.toInt := (congrArg Int32.toInt (show f_93 0 15 = v_106 from ev_106.symm))
        have q_109 : (f_93 0 16).toInt = v_103.toInt := (congrArg Int32.toInt (show f_93 0 16 = v_103 from ev_103.symm))
        refine lv_istore_n (lv' := [(3, .int r_96), (2, .int r_38), (1, .int r_17), (0, .ref (h 0))]) hx hb dX12_compared_51 rfl hl (by decide) rfl (fun ls hl => ?_)
        refine lv_iload_n hx hb dX12_compared_52 rfl (lv_at hl 1 rfl) ?_
        refine lv_bipush (v := 60) hx hb dX12_compared_53 (by decide) ?_
        refine lv_icmp_ne (tgt := 66) hx hb dX12_compared_55 (by decide) (fun c => ?_) (fun c => ?_)
        · skip
          have c_110 : r_38.toInt ≠ 60 := (by have z := bn_ne c; have k1 : (60 : Int32).toInt = 60 := (by decide); omega)
          refine lv_iload_n hx hb dX12_compared_66 rfl (lv_at hl 1 rfl) ?_
          refine lv_bipush (v := 61) hx hb dX12_compared_67 (by decide) ?_
          refine lv_icmp_ne (tgt := 80) hx hb dX12_compared_69 (by decide) (fun c => ?_) (fun c => ?_)
          · skip
            exfalso; have c_112 : r_38.toInt ≠ 61 := (by have z := bn_ne c; have k1 : (61 : Int32).toInt = 61 := (by decide); omega); omega
          · skip
            have c_113 : r_38.toInt = 61 := (by have z := Int32.toInt_inj.mpr c; have k1 : (61 : Int32).toInt = 61 := (by decide); omega)
            refine lv_iload_n hx hb dX12_compared_72 rfl (lv_at hl 2 rfl) ?_
            refine lv_iload_n hx hb dX12_compared_73 rfl (lv_at hl 0 rfl) ?_
            refine lv_icmp_ne (tgt := 89) hx hb dX12_compared_74 (by decide) (fun c => ?_) (fun c => ?_)
            · skip
              have c_114 : r_17.toInt ≠ r_96.toInt := (by have z := bn_ne c; omega)
              refine lv_iconst (v := 0) hx hb dX12_compared_89 (by decide) ?_
              have q_116 : (f_93 0 13).toInt = v_100.toInt := (congrArg Int32.toInt (show f_93 0 13 = v_100 from ev_100.symm))
              have q_117 : (f_93 0 16).toInt = v_103.toInt := (congrArg Int32.toInt (show f_93 0 16 = v_103 from ev_103.symm))
              have q_118 : (f_93 0 15).toInt = v_106.toInt := (congrArg Int32.toInt (show f_93 0 15 = v_106 from ev_106.symm))
              have q_119 : (f_93 0 16).toInt = v_103.toInt := (congrArg Int32.toInt (show f_93 0 16 = v_103 from ev_103.symm))
              have k99 : (0 : Int32).toInt = 0 := (by decide)
              exact hret _ _ _ _ (0) f_93 L Q dX12_compared_90 hP hS ⟨⟨hI, hF, rfl, rfl⟩, trivial, (by omega), (by omega), (by omega)⟩
            · skip
              have c_115 : r_17.toInt = r_96.toInt := (by have z := Int32.toInt_inj.mpr c; omega)
              refine lv_goto (tgt := 85) hx hb dX12_compared_77 (by decide) ?_
              refine lv_iconst (v := 1) hx hb dX12_compared_85 (by decide) ?_
              refine lv_goto (tgt := 90) hx hb dX12_compared_86 (by decide) ?_
              have q_120 : (f_93 0 13).toInt = v_100.toInt := (congrArg Int32.toInt (show f_93 0 13 = v_100 from ev_100.symm))
              have q_121 : (f_93 0 16).toInt = v_103.toInt := (congrArg Int32.toInt (show f_93 0 16 = v_103 from ev_103.symm))
              have q_122 : (f_93 0 15).toInt = v_106.toInt := (congrArg Int32.toInt (show f_93 0 15 = v_106 from ev_106.symm))
              have q_123 : (f_93 0 16).toInt = v_103.toInt := (congrArg Int32.toInt (show f_93 0 16 = v_103 from ev_103.symm))
              have k99 : (1 : Int32).toInt = 1 := (by decide)
              exact hret _ _ _ _ (1) f_93 L Q dX12_compared_90 hP hS ⟨⟨hI, hF, rfl, rfl⟩, trivial, (by omega), (by omega), (by omega)⟩
        · skip
          exfalso; have c_111 : r_38.toInt = 60 := (by have z := Int32.toInt_inj.mpr c; have k1 : (60 : Int32).toInt = 60 := (by decide); omega); omega
      · skip
        have c_85 : r_38.toInt ≠ 61 := (by have z := bn_ne c; have k1 : (61 : Int32).toInt = 61 := (by decide); omega)
        refine lv_iload_n hx hb dX12_compared_29 rfl (lv_at hl 0 rfl) ?_
        refine lv_bipush (v := 62) hx hb dX12_compared_30 (by decide) ?_
        refine lv_icmp_eq (tgt := 37) hx hb dX12_compared_32 (by decide) (fun c => ?_) (fun c => ?_)
        · skip
          have c_124 : r_38.toInt = 62 := (by have z := Int32.toInt_inj.mpr c; have k1 : (62 : Int32).toInt = 62 := (by decide); omega)
          refine lv_aload_n hx hb dX12_compared_37 rfl (lv_at hl 2 rfl) ?_
          refine lv_dup hx hb dX12_compared_38 rfl ?_
          refine sg_get (ci := 12) (v := .int v_21) (C := RX12) (T := TX12) (N := 55) hx hb hts (fun w h => List.mem_cons_of_mem _ (gx_12 w h)) hown hK hP 0 (by decide) rfl rfl 13 (by decide) (hts _ (List.mem_cons_of_mem _ mw_625)) (fun _ h9 => h9) (congrArg (fun z => some (Value.int z)) (show f_14 0 13 = v_21 from ev_21.symm)) dX12_compared_39 ?_
          refine lv_iconst (v := 1) hx hb dX12_compared_42 (by decide) ?_
          refine lv_iadd hx hb dX12_compared_43 ?_
          refine lv_topi (fun v_126 ev_126 => ?_)
          have q_127 : v_126.toInt = v_21.toInt + 1 := by rw [ev_126]; have k1 : (1 : Int32).toInt = 1 := (by decide); exact (bn_addI (by omega) (by omega)).trans (by omega)
          refine sg_put (ci := 12) (x := v_126) (ty := .int) (C := RX12) (T := TX12) (N := 55) hx hb hts (fun w h => List.mem_cons_of_mem _ (gx_12 w h)) tyX12 tyX12_ok nmX12 hown hh hA hK hP hS 0 (by decide) rfl rfl 13 (by decide) (hts _ (List.mem_cons_of_mem _ mw_625)) (fun _ h9 => h9) rfl rfl (by decide +kernel) rfl rfl (Nat.le_of_ble_eq_true rfl) dX12_compared_44 (fun f_128 H locs ef_128 hP hS => ?_)
          have hI : sgI loM hiM f_128 := by rw [ef_128]; exact sgI.put hI 0 13 (show 0 ≤ (v_126 : Int32).toInt ∧ (v_126 : Int32).toInt ≤ 120 from by omega)
          have hF : sgK WkX12_compared_2 f f_128 := sgK.put hF ef_128 (by rfl)
          refine lv_aload_n hx hb dX12_compared_47 rfl (lv_at hl 2 rfl) ?_
          have q_129 : (f_128 0 16).toInt = v_24.toInt := (congrArg Int32.toInt (show f_128 0 16 = v_24 from (by rw [ef_128, sg_up_s, sgu_n (by decide)]; exact ev_24.symm)))
          have q_130 : (f_128 0 15).toInt = v_27.toInt := (congrArg Int32.toInt (show f_128 0 15 = v_27 from (by rw [ef_128, sg_up_s, sgu_n (by decide)]; exact ev_27.symm)))
          have q_131 : (f_128 0 16).toInt = v_24.toInt := (congrArg Int32.toInt (show f_128 0 16 = v_24 from (by rw [ef_128, sg_up_s, sgu_n (by decide)]; exact ev_24.symm)))
          have q_132 : (f_128 0 13).toInt = v_126.toInt := (congrArg Int32.toInt (show f_128 0 13 = v_126 from (by rw [ef_128, sg_up_s, sgu_s])))
          refine sg_calli (va_runV (As := []) (rest := []) ⟨hx, hb, hml, hown, hts⟩ (kX12_sums_2 l D ca za h hh f_128 L Q hI (by omega) (by omega) H.size) (cwV 0 hts (gw_V (fun _ h => List.mem_cons_of_mem _ h) mw_852 mw_853 mw_854 mw_619 mw_851) rfl rfl rfl (by decide +kernel) ⟨Nat.le_of_ble_eq_true rfl, Nat.le_of_ble_eq_true rfl⟩) (sg_preV (ci := 12) (C := RX12) (T := TX12) (N := 55) hA hK hP hS hZ 0 (by decide) rfl rfl) rfl rfl hl.1 rfl (lv_room (Nat.le_of_ble_eq_true rfl)) dX12_compared_48 ⟨Nat.le_refl _, Nat.le_refl _⟩) hA hS (fun r_136 f_133 L_134 Q_135 H locs hq hP hS => ?_)
          obtain ⟨⟨hI, hk_f_133, eL9, eQ9⟩, hq, p_137, p_138, p_139⟩ := hq
          rw [eL9, eQ9] at hP; clear eL9 eQ9
          have hF : sgK WkX12_compared_2 f f_133 := sgK.tr hF hk_f_133 (by decide)
          obtain ⟨v_140, ev_140⟩ : ∃ z : Int32, z = f_133 0 13 := ⟨_, rfl⟩
          have q_141 : 0 ≤ v_140.toInt ∧ v_140.toInt ≤ 120 := by rw [ev_140]; exact hI 0 13
          have q_142 : (f_133 0 13).toInt = v_140.toInt := (congrArg Int32.toInt (show f_133 0 13 = v_140 from ev_140.symm))
          obtain ⟨v_143, ev_143⟩ : ∃ z : Int32, z = f_133 0 16 := ⟨_, rfl⟩
          have q_144 : 0 ≤ v_143.toInt ∧ v_143.toInt ≤ 6 := by rw [ev_143]; exact hI 0 16
          have q_145 : (f_133 0 16).toInt = v_143.toInt := (congrArg Int32.toInt (show f_133 0 16 = v_143 from ev_143.symm))
          obtain ⟨v_146, ev_146⟩ : ∃ z : Int32, z = f_133 0 15 := ⟨_, rfl⟩
          have q_147 : (-1) ≤ v_146.toInt ∧ v_146.toInt ≤ 120 := by rw [ev_146]; exact hI 0 15
          have q_148 : (f_133 0 15).toInt = v_146.toInt := (congrArg Int32.toInt (show f_133 0 15 = v_146 from ev_146.symm))
          have q_149 : (f_133 0 16).toInt = v_143.toInt := (congrArg Int32.toInt (show f_133 0 16 = v_143 from ev_143.symm))
          refine lv_istore_n (lv' := [(3, .int r_136), (2, .int r_38), (1, .int r_17), (0, .ref (h 0))]) hx hb dX12_compared_51 rfl hl (by decide) rfl (fun ls hl => ?_)
          refine lv_iload_n hx hb dX12_compared_52 rfl (lv_at hl 1 rfl) ?_
          refine lv_bipush (v := 60) hx hb dX12_compared_53 (by decide) ?_
          refine lv_icmp_ne (tgt := 66) hx hb dX12_compared_55 (by decide) (fun c => ?_) (fun c => ?_)
          · skip
            have c_150 : r_38.toInt ≠ 60 := (by have z := bn_ne c; have k1 : (60 : Int32).toInt = 60 := (by decide); omega)
            refine lv_iload_n hx hb dX12_compared_66 rfl (lv_at hl 1 rfl) ?_
            refine lv_bipush (v := 61) hx hb dX12_compared_67 (by decide) ?_
            refine lv_icmp_ne (tgt := 80) hx hb dX12_compared_69 (by decide) (fun c => ?_) (fun c => ?_)
            · skip
              have c_152 : r_38.toInt ≠ 61 := (by have z := bn_ne c; have k1 : (61 : Int32).toInt = 61 := (by decide); omega)
              refine lv_iload_n hx hb dX12_compared_80 rfl (lv_at hl 2 rfl) ?_
              refine lv_iload_n hx hb dX12_compared_81 rfl (lv_at hl 0 rfl) ?_
              refine lv_icmp_le (tgt := 89) hx hb dX12_compared_82 (by decide) (fun c => ?_) (fun c => ?_)
              · skip
                have c_154 : r_17.toInt ≤ r_136.toInt := (by have z := bn_le c; omega)
                refine lv_iconst (v := 0) hx hb dX12_compared_89 (by decide) ?_
                have q_156 : (f_133 0 13).toInt = v_140.toInt := (congrArg Int32.toInt (show f_133 0 13 = v_140 from ev_140.symm))
                have q_157 : (f_133 0 16).toInt = v_143.toInt := (congrArg Int32.toInt (show f_133 0 16 = v_143 from ev_143.symm))
                have q_158 : (f_133 0 15).toInt = v_146.toInt := (congrArg Int32.toInt (show f_133 0 15 = v_146 from ev_146.symm))
                have q_159 : (f_133 0 16).toInt = v_143.toInt := (congrArg Int32.toInt (show f_133 0 16 = v_143 from ev_143.symm))
                have k99 : (0 : Int32).toInt = 0 := (by decide)
                exact hret _ _ _ _ (0) f_133 L Q dX12_compared_90 hP hS ⟨⟨hI, hF, rfl, rfl⟩, trivial, (by omega), (by omega), (by omega)⟩
              · skip
                have c_155 : r_136.toInt < r_17.toInt := (by have z := bn_nle c; omega)
                refine lv_iconst (v := 1) hx hb dX12_compared_85 (by decide) ?_
                refine lv_goto (tgt := 90) hx hb dX12_compared_86 (by decide) ?_
                have q_160 : (f_133 0 13).toInt = v_140.toInt := (congrArg Int32.toInt (show f_133 0 13 = v_140 from ev_140.symm))
                have q_161 : (f_133 0 16).toInt = v_143.toInt := (congrArg Int32.toInt (show f_133 0 16 = v_143 from ev_143.symm))
                have q_162 : (f_133 0 15).toInt = v_146.toInt := (congrArg Int32.toInt (show f_133 0 15 = v_146 from ev_146.symm))
                have q_163 : (f_133 0 16).toInt = v_143.toInt := (congrArg Int32.toInt (show f_133 0 16 = v_143 from ev_143.symm))
                have k99 : (1 : Int32).toInt = 1 := (by decide)
                exact hret _ _ _ _ (1) f_133 L Q dX12_compared_90 hP hS ⟨⟨hI, hF, rfl, rfl⟩, trivial, (by omega), (by omega), (by omega)⟩
            · skip
              exfalso; have c_153 : r_38.toInt = 61 := (by have z := Int32.toInt_inj.mpr c; have k1 : (61 : Int32).toInt = 61 := (by decide); omega); omega
          · skip
            exfalso; have c_151 : r_38.toInt = 60 := (by have z := Int32.toInt_inj.mpr c; have k1 : (60 : Int32).toInt = 60 := (by decide); omega); omega
        · skip
          have c_125 : r_38.toInt ≠ 62 := (by have z := bn_ne c; have k1 : (62 : Int32).toInt = 62 := (by decide); omega)
          refine lv_iload_n hx hb dX12_compared_35 rfl (lv_at hl 1 rfl) ?_
          have q_164 : (f_14 0 13).toInt = v_21.toInt := (congrArg Int32.toInt (show f_14 0 13 = v_21 from ev_21.symm))
          have q_165 : (f_14 0 16).toInt = v_24.toInt := (congrArg Int32.toInt (show f_14 0 16 = v_24 from ev_24.symm))
          have q_166 : (f_14 0 15).toInt = v_27.toInt := (congrArg Int32.toInt (show f_14 0 15 = v_27 from ev_27.symm))
          have q_167 : (f_14 0 16).toInt = v_24.toInt := (congrArg Int32.toInt (show f_14 0 16 = v_24 from ev_24.symm))
          exact hret _ _ _ _ (r_17) f_14 L Q dX12_compared_36 hP hS ⟨⟨hI, hF, rfl, rfl⟩, trivial, (by omega), (by omega), (by omega)⟩

abbrev WkX12_both_2 : List (Nat × Nat × Option Nat) := [(0, 0, some 13), (0, 0, some 15), (0, 0, some 16)]
set_option maxHeartbeats 4000000 in
set_option maxRecDepth 100000 in
theorem kX12_both_2 (l : Launch) (D : va_G) (ca : Nat → ClassId) (za h : Nat → Nat) (hh : sgH 26 h) (f : sg_F) (L : sg_L) (Q : sg_Q) (hI : sgI loM hiM f) (p0 : 2 ≤ (f 0 16).toInt) (p1 : 0 ≤ (f 0 15).toInt ∨ (f 0 16).toInt = 2) (sz : Nat) : Met l yX12_both gwX12_both { frames := 29, cells := 0, slots := 0, locals := 661 } (sgP D vwCl (tyX ca) 26 h (eM ca h) zcM za f L Q sz [.ref (h 0)]) (sgQi D vwCl 26 h (eM ca h) sz (fun r f1 L1 Q1 => ((sgI loM hiM f1 ∧ sgK WkX12_both_2 f f1 ∧ L1 = L ∧ Q1 = Q) ∧ True ∧ ((f 0 13).toInt ≤ (f1 0 13).toInt) ∧ (2 ≤ (f1 0 16).toInt) ∧ (0 ≤ (f1 0 15).toInt ∨ (f1 0 16).toInt = 2)))) 0 0 (sgA 26 h sz) := by
  refine sg_ofWi (cc := cX12_both) (maxL := 3) RX12 (by decide) rfl rfl (Nat.le_of_ble_eq_true rfl) ?_
  intro p e s m below meth cd Qz ls hx hb hml hown hts hK hZ hP hS hl hret
  have hA := sgY.self (n := 26) (h := h) (sz := s.heap.size)
  have hl : lv_has ls 3 [(0, .ref (h 0))] := hl
  obtain ⟨H, hH⟩ : ∃ z : Heap, z = s.heap := ⟨_, rfl⟩
  obtain ⟨locs, hlo⟩ : ∃ z : List Loc, z = [] := ⟨_, rfl⟩
  have hP : va_P D vwCl (sgw 26 h (eM ca h) f L Q) H := by rw [hH]; exact hP
  have hS : va_S (sgA 26 h s.heap.size) s.heap H locs := by rw [hH, hlo]; exact hS
  suffices hgo : W p l e ({ frames := 29, cells := 0, slots := 0, locals := 661 }) s m ([.ref (h 0)] : List Value).toArray below meth cd H locs 0 0 Qz (F0 m 0 ls []) by rw [hH, hlo] at hgo; exact hgo
  clear hH hlo
  obtain ⟨v_1, ev_1⟩ : ∃ z : Int32, z = f 0 16 := ⟨_, rfl⟩
  have q_2 : 0 ≤ v_1.toInt ∧ v_1.toInt ≤ 6 := by rw [ev_1]; exact hI 0 16
  obtain ⟨v_3, ev_3⟩ : ∃ z : Int32, z = f 0 15 := ⟨_, rfl⟩
  have q_4 : (-1) ≤ v_3.toInt ∧ v_3.toInt ≤ 120 := by rw [ev_3]; exact hI 0 15
  obtain ⟨v_5, ev_5⟩ : ∃ z : Int32, z = f 0 13 := ⟨_, rfl⟩
  have q_6 : 0 ≤ v_5.toInt ∧ v_5.toInt ≤ 120 := by rw [ev_5]; exact hI 0 13
  have o_7 : (f 0 16).toInt = v_1.toInt := (congrArg Int32.toInt (show f 0 16 = v_1 from ev_1.symm))
  have o_8 : (f 0 15).toInt = v_3.toInt := (congrArg Int32.toInt (show f 0 15 = v_3 from ev_3.symm))
  have o_9 : (f 0 13).toInt = v_5.toInt := (congrArg Int32.toInt (show f 0 13 = v_5 from ev_5.symm))
  have hF : sgK WkX12_both_2 f f := sgK.rf
  have loop_5 : ∀ (n_5 : Nat) (y1_5 : Int32) (fp_5 : sg_F) (H : Heap) (locs : List Loc) (ls : Array Slot), 120 - (fp_5 0 13).toInt < (n_5 : Int) → (f 0 13).toInt ≤ (fp_5 0 13).toInt → 2 ≤ (fp_5 0 16).toInt → 0 ≤ (fp_5 0 15).toInt ∨ (fp_5 0 16).toInt = 2 → sgI loM hiM fp_5 → sgK WkX12_both_2 f fp_5 → va_P D vwCl (sgw 26 h (eM ca h) fp_5 L Q) H → va_S (sgA 26 h s.heap.size) s.heap H locs → lv_has ls 3 [(0, .ref (h 0)), (1, .int y1_5)] → W p l e ({ frames := 29, cells := 0, slots := 0, locals := 661 }) s m ([.ref (h 0)] : List Value).toArray below meth cd H locs 0 0 Qz (F0 m 5 ls []) := by
    intro n_5
    induction n_5 with
    | zero => intro y1_5 fp_5 H locs ls hm_5 hg0_5 hg1_5 hg2_5 hI hF hP hS hl; have zb := (show 0 ≤ (fp_5 0 13).toInt ∧ (fp_5 0 13).toInt ≤ 120 from hI 0 13); exact absurd hm_5 (by omega)
    | succ n_5 ih_5 =>
      intro y1_5 fp_5 H locs ls hm_5 hg0_5 hg1_5 hg2_5 hI hF hP hS hl
      obtain ⟨v_10, ev_10⟩ : ∃ z : Int32, z = fp_5 0 13 := ⟨_, rfl⟩
      have q_11 : 0 ≤ v_10.toInt ∧ v_10.toInt ≤ 120 := by rw [ev_10]; exact hI 0 13
      have q_12 : (fp_5 0 13).toInt = v_10.toInt := by rw [ev_10]
      obtain ⟨v_13, ev_13⟩ : ∃ z : Int32, z = fp_5 0 16 := ⟨_, rfl⟩
      have q_14 : 0 ≤ v_13.toInt ∧ v_13.toInt ≤ 6 := by rw [ev_13]; exact hI 0 16
      have q_15 : (fp_5 0 16).toInt = v_13.toInt := by rw [ev_13]
      obtain ⟨v_16, ev_16⟩ : ∃ z : Int32, z = fp_5 0 15 := ⟨_, rfl⟩
      have q_17 : (-1) ≤ v_16.toInt ∧ v_16.toInt ≤ 120 := by rw [ev_16]; exact hI 0 15
      have q_18 : (fp_5 0 15).toInt = v_16.toInt := by rw [ev_16]
      refine lv_aload_n hx hb dX12_both_5 rfl (lv_at hl 0 rfl) ?_
      refine lv_bipush (v := 38) hx hb dX12_both_6 (by decide) ?_
      have q_19 : (fp_5 0 15).toInt = v_16.toInt := (congrArg Int32.toInt (show fp_5 0 15 = v_16 from ev_16.symm))
      have q_20 : (fp_5 0 13).toInt = v_10.toInt := (congrArg Int32.toInt (show fp_5 0 13 = v_10 from ev_10.symm))
      obtain ⟨v_21, ev_21⟩ : ∃ z : Int32, z = fp_5 0 14 := ⟨_, rfl⟩
      have q_22 : 0 ≤ v_21.toInt ∧ v_21.toInt ≤ 120 := by rw [ev_21]; exact hI 0 14
      have q_23 : (fp_5 0 14).toInt = v_21.toInt := (congrArg Int32.toInt (show fp_5 0 14 = v_21 from ev_21.symm))
      have q_24 : (fp_5 0 13).toInt = v_10.toInt := (congrArg Int32.toInt (show fp_5 0 13 = v_10 from ev_10.symm))
      have q_25 : (fp_5 0 13).toInt = v_10.toInt := (congrArg Int32.toInt (show fp_5 0 13 = v_10 from ev_10.symm))
      refine sg_calli (va_runV (As := [.int 38]) (rest := []) ⟨hx, hb, hml, hown, hts⟩ (kX12_takes_38 l D ca za h hh fp_5 L Q hI H.size) (cwV 1 hts (gw_V (fun _ h => List.mem_cons_of_mem _ h) mw_877 mw_878 mw_879 mw_619 mw_876) rfl rfl rfl (by decide +kernel) ⟨Nat.le_of_ble_eq_true rfl, Nat.le_of_ble_eq_true rfl⟩) (sg_preV (ci := 12) (C := RX12) (T := TX12) (N := 55) hA hK hP hS hZ 0 (by decide) rfl rfl) rfl rfl hl.1 rfl (lv_room (Nat.le_of_ble_eq_true rfl)) dX12_both_8 ⟨Nat.le_refl _, Nat.le_refl _⟩) hA hS (fun r_29 f_26 L_27 Q_28 H locs hq hP hS => ?_)
      obtain ⟨⟨hI, hk_f_26, eL9, eQ9⟩, hq⟩ := hq
      rw [eL9, eQ9] at hP; clear eL9 eQ9
      have hF : sgK WkX12_both_2 f f_26 := sgK.tr hF hk_f_26 (by decide)
      obtain ⟨v_30, ev_30⟩ : ∃ z : Int32, z = f_26 0 13 := ⟨_, rfl⟩
      have q_31 : 0 ≤ v_30.toInt ∧ v_30.toInt ≤ 120 := by rw [ev_30]; exact hI 0 13
      have q_32 : (f_26 0 13).toInt = v_30.toInt := (congrArg Int32.toInt (show f_26 0 13 = v_30 from ev_30.symm))
      have q_33 : (f_26 0 13).toInt = v_30.toInt := (congrArg Int32.toInt (show f_26 0 13 = v_30 from ev_30.symm))
      have k_34 : (38 : Int32).toInt = 38 := by decide
      rcases hq with ⟨rfl, hq⟩ | ⟨rfl, hq⟩
      · skip
        have q_35 := hq
        refine lv_if_eq (tgt := 36) hx hb dX12_both_11 (by decide) (fun c => absurd c (by decide)) (fun c => ?_)
        refine lv_aload_n hx hb dX12_both_14 rfl (lv_at hl 0 rfl) ?_
        have q_36 : (f_26 0 16).toInt = v_13.toInt := (congrArg Int32.toInt (show f_26 0 16 = v_13 from ((hk_f_26 0 16 (by decide)).trans ev_13.symm)))
        have q_37 : (f_26 0 15).toInt = v_16.toInt := (congrArg Int32.toInt (show f_26 0 15 = v_16 from ((hk_f_26 0 15 (by decide)).trans ev_16.symm)))
        have q_38 : (f_26 0 16).toInt = v_13.toInt := (congrArg Int32.toInt (show f_26 0 16 = v_13 from ((hk_f_26 0 16 (by decide)).trans ev_13.symm)))
        have q_39 : (f_26 0 13).toInt = v_30.toInt := (congrArg Int32.toInt (show f_26 0 13 = v_30 from ev_30.symm))
        refine sg_calli (va_runV (As := []) (rest := []) ⟨hx, hb, hml, hown, hts⟩ (kX12_compared_2 l D ca za h hh f_26 L Q hI (by omega) (by omega) H.size) (cwV 0 hts (gw_V (fun _ h => List.mem_cons_of_mem _ h) mw_856 mw_857 mw_858 mw_619 mw_855) rfl rfl rfl (by decide +kernel) ⟨Nat.le_of_ble_eq_true rfl, Nat.le_of_ble_eq_true rfl⟩) (sg_preV (ci := 12) (C := RX12) (T := TX12) (N := 55) hA hK hP hS hZ 0 (by decide) rfl rfl) rfl rfl hl.1 rfl (lv_room (Nat.le_of_ble_eq_true rfl)) dX12_both_15 ⟨Nat.le_refl _, Nat.le_refl _⟩) hA hS (fun r_43 f_40 L_41 Q_42 H locs hq hP hS => ?_)
        obtain ⟨⟨hI, hk_f_40, eL9, eQ9⟩, hq, p_44, p_45, p_46⟩ := hq
        rw [eL9, eQ9] at hP; clear eL9 eQ9
        have hF : sgK WkX12_both_2 f f_40 := sgK.tr hF hk_f_40 (by decide)
        obtain ⟨v_47, ev_47⟩ : ∃ z : Int32, z = f_40 0 13 := ⟨_, rfl⟩
        have q_48 : 0 ≤ v_47.toInt ∧ v_47.toInt ≤ 120 := by rw [ev_47]; exact hI 0 13
        have q_49 : (f_40 0 13).toInt = v_47.toInt := (congrArg Int32.toInt (show f_40 0 13 = v_47 from ev_47.symm))
        obtain ⟨v_50, ev_50⟩ : ∃ z : Int32, z = f_40 0 16 := ⟨_, rfl⟩
        have q_51 : 0 ≤ v_50.toInt ∧ v_50.toInt ≤ 6 := by rw [ev_50]; exact hI 0 16
        have q_52 : (f_40 0 16).toInt = v_50.toInt := (congrArg Int32.toInt (show f_40 0 16 = v_50 from ev_50.symm))
        obtain ⟨v_53, ev_53⟩ : ∃ z : Int32, z = f_40 0 15 := ⟨_, rfl⟩
        have q_54 : (-1) ≤ v_53.toInt ∧ v_53.toInt ≤ 120 := by rw [ev_53]; exact hI 0 15
        have q_55 : (f_40 0 15).toInt = v_53.toInt := (congrArg Int32.toInt (show f_40 0 15 = v_53 from ev_53.symm))
        have q_56 : (f_40 0 16).toInt = v_50.toInt := (congrArg Int32.toInt (show f_40 0 16 = v_50 from ev_50.symm))
        refine lv_istore_n (lv' := [(2, .int r_43), (0, .ref (h 0)), (1, .int y1_5)]) hx hb dX12_both_18 rfl hl (by decide) rfl (fun ls hl => ?_)
        refine lv_iload_n hx hb dX12_both_19 rfl (lv_at hl 2 rfl) ?_
        refine lv_if_eq (tgt := 31) hx hb dX12_both_20 (by decide) (fun c => ?_) (fun c => ?_)
        · skip
          have c_57 : y1_5.toInt = 0 := (by have z := Int32.toInt_inj.mpr c; have k1 : (0 : Int32).toInt = 0 := (by decide); omega)
          refine lv_iconst (v := 0) hx hb dX12_both_31 (by decide) ?_
          refine lv_istore_n (lv' := [(1, .int 0), (2, .int r_43), (0, .ref (h 0))]) hx hb dX12_both_32 rfl hl (by decide) rfl (fun ls hl => ?_)
          refine lv_goto (tgt := 5) hx hb dX12_both_33 (by decide) ?_
          exact ih_5 0 f_40 _ _ _ (by have kc0 : (0 : Int32).toInt = 0 := (by decide); have zz0_13 : (f_40 0 13).toInt = v_47.toInt := (congrArg Int32.toInt (show f_40 0 13 = v_47 from ev_47.symm)); omega) (by have kc0 : (0 : Int32).toInt = 0 := (by decide); have zz0_13 : (f_40 0 13).toInt = v_47.toInt := (congrArg Int32.toInt (show f_40 0 13 = v_47 from ev_47.symm)); omega) (by have kc0 : (0 : Int32).toInt = 0 := (by decide); have zz0_16 : (f_40 0 16).toInt = v_50.toInt := (congrArg Int32.toInt (show f_40 0 16 = v_50 from ev_50.symm)); omega) (by have kc0 : (0 : Int32).toInt = 0 := (by decide); have zz0_15 : (f_40 0 15).toInt = v_53.toInt := (congrArg Int32.toInt (show f_40 0 15 = v_53 from ev_53.symm)); have zz0_16 : (f_40 0 16).toInt = v_50.toInt := (congrArg Int32.toInt (show f_40 0 16 = v_50 from ev_50.symm)); omega) hI hF hP hS (lv_sub hl [2, 0] rfl)
        · skip
          have c_58 : y1_5.toInt ≠ 0 := (by have z := bn_ne c; have k1 : (0 : Int32).toInt = 0 := (by decide); omega)
          refine lv_iload_n hx hb dX12_both_23 rfl (lv_at hl 0 rfl) ?_
          refine lv_if_eq (tgt := 31) hx hb dX12_both_24 (by decide) (fun c => ?_) (fun c => ?_)
          · skip
            have c_59 : r_43.toInt = 0 := (by have z := Int32.toInt_inj.mpr c; have k1 : (0 : Int32).toInt = 0 := (by decide); omega)
            refine lv_iconst (v := 0) hx hb dX12_both_31 (by decide) ?_
            refine lv_istore_n (lv' := [(1, .int 0), (2, .int r_43), (0, .ref (h 0))]) hx hb dX12_both_32 rfl hl (by decide) rfl (fun ls hl => ?_)
            refine lv_goto (tgt := 5) hx hb dX12_both_33 (by decide) ?_
            exact ih_5 0 f_40 _ _ _ (by have kc0 : (0 : Int32).toInt = 0 := (by decide); have zz0_13 : (f_40 0 13).toInt = v_47.toInt := (congrArg Int32.toInt (show f_40 0 13 = v_47 from ev_47.symm)); omega) (by have kc0 : (0 : Int32).toInt = 0 := (by decide); have zz0_13 : (f_40 0 13).toInt = v_47.toInt := (congrArg Int32.toInt (show f_40 0 13 = v_47 from ev_47.symm)); omega) (by have kc0 : (0 : Int32).toInt = 0 := (by decide); have zz0_16 : (f_40 0 16).toInt = v_50.toInt := (congrArg Int32.toInt (show f_40 0 16 = v_50 from ev_50.symm)); omega) (by have kc0 : (0 : Int32).toInt = 0 := (by decide); have zz0_15 : (f_40 0 15).toInt = v_53.toInt := (congrArg Int32.toInt (show f_40 0 15 = v_53 from ev_53.symm)); have zz0_16 : (f_40 0 16).toInt = v_50.toInt := (congrArg Int32.toInt (show f_40 0 16 = v_50 from ev_50.symm)); omega) hI hF hP hS (lv_sub hl [2, 0] rfl)
          · skip
            have c_60 : r_43.toInt ≠ 0 := (by have z := bn_ne c; have k1 : (0 : Int32).toInt = 0 := (by decide); omega)
            refine lv_iconst (v := 1) hx hb dX12_both_27 (by decide) ?_
            refine lv_goto (tgt := 32) hx hb dX12_both_28 (by decide) ?_
            refine lv_istore_n (lv' := [(1, .int 1), (2, .int r_43), (0, .ref (h 0))]) hx hb dX12_both_32 rfl hl (by decide) rfl (fun ls hl => ?_)
            refine lv_goto (tgt := 5) hx hb dX12_both_33 (by decide) ?_
            exact ih_5 1 f_40 _ _ _ (by have kc0 : (1 : Int32).toInt = 1 := (by decide); have zz0_13 : (f_40 0 13).toInt = v_47.toInt := (congrArg Int32.toInt (show f_40 0 13 = v_47 from ev_47.symm)); omega) (by have kc0 : (1 : Int32).toInt = 1 := (by decide); have zz0_13 : (f_40 0 13).toInt = v_47.toInt := (congrArg Int32.toInt (show f_40 0 13 = v_47 from ev_47.symm)); omega) (by have kc0 : (1 : Int32).toInt = 1 := (by decide); have zz0_16 : (f_40 0 16).toInt = v_50.toInt := (congrArg Int32.toInt (show f_40 0 16 = v_50 from ev_50.symm)); omega) (by have kc0 : (1 : Int32).toInt = 1 := (by decide); have zz0_15 : (f_40 0 15).toInt = v_53.toInt := (congrArg Int32.toInt (show f_40 0 15 = v_53 from ev_53.symm)); have zz0_16 : (f_40 0 16).toInt = v_50.toInt := (congrArg Int32.toInt (show f_40 0 16 = v_50 from ev_50.symm)); omega) hI hF hP hS (lv_sub hl [2, 0] rfl)
      · skip
        have q_61 := hq
        refine lv_if_eq (tgt := 36) hx hb dX12_both_11 (by decide) (fun c => ?_) (fun c => absurd c (by decide))
        refine lv_iload_n hx hb dX12_both_36 rfl (lv_at hl 1 rfl) ?_
        have q_62 : (f_26 0 13).toInt = v_30.toInt := (congrArg Int32.toInt (show f_26 0 13 = v_30 from ev_30.symm))
        have q_63 : (f_26 0 16).toInt = v_13.toInt := (congrArg Int32.toInt (show f_26 0 16 = v_13 from ((hk_f_26 0 16 (by decide)).trans ev_13.symm)))
        have q_64 : (f_26 0 15).toInt = v_16.toInt := (congrArg Int32.toInt (show f_26 0 15 = v_16 from ((hk_f_26 0 15 (by decide)).trans ev_16.symm)))
        have q_65 : (f_26 0 16).toInt = v_13.toInt := (congrArg Int32.toInt (show f_26 0 16 = v_13 from ((hk_f_26 0 16 (by decide)).trans ev_13.symm)))
        exact hret _ _ _ _ (y1_5) f_26 L Q dX12_both_37 hP hS ⟨⟨hI, hF, rfl, rfl⟩, trivial, (by omega), (by omega), (by omega)⟩
  refine lv_aload_n hx hb dX12_both_0 rfl (lv_at hl 0 rfl) ?_
  have q_66 : (f 0 16).toInt = v_1.toInt := (congrArg Int32.toInt (show f 0 16 = v_1 from ev_1.symm))
  have q_67 : (f 0 15).toInt = v_3.toInt := (congrArg Int32.toInt (show f 0 15 = v_3 from ev_3.symm))
  have q_68 : (f 0 16).toInt = v_1.toInt := (congrArg Int32.toInt (show f 0 16 = v_1 from ev_1.symm))
  have q_69 : (f 0 13).toInt = v_5.toInt := (congrArg Int32.toInt (show f 0 13 = v_5 from ev_5.symm))
  refine sg_calli (va_runV (As := []) (rest := []) ⟨hx, hb, hml, hown, hts⟩ (kX12_compared_2 l D ca za h hh f L Q hI (by omega) (by omega) H.size) (cwV 0 hts (gw_V (fun _ h => List.mem_cons_of_mem _ h) mw_856 mw_857 mw_858 mw_619 mw_855) rfl rfl rfl (by decide +kernel) ⟨Nat.le_of_ble_eq_true rfl, Nat.le_of_ble_eq_true rfl⟩) (sg_preV (ci := 12) (C := RX12) (T := TX12) (N := 55) hA hK hP hS hZ 0 (by decide) rfl rfl) rfl rfl hl.1 rfl (lv_room (Nat.le_of_ble_eq_true rfl)) dX12_both_1 ⟨Nat.le_refl _, Nat.le_refl _⟩) hA hS (fun r_73 f_70 L_71 Q_72 H locs hq hP hS => ?_)
  obtain ⟨⟨hI, hk_f_70, eL9, eQ9⟩, hq, p_74, p_75, p_76⟩ := hq
  rw [eL9, eQ9] at hP; clear eL9 eQ9
  have hF : sgK WkX12_both_2 f f_70 := sgK.tr hF hk_f_70 (by decide)
  obtain ⟨v_77, ev_77⟩ : ∃ z : Int32, z = f_70 0 13 := ⟨_, rfl⟩
  have q_78 : 0 ≤ v_77.toInt ∧ v_77.toInt ≤ 120 := by rw [ev_77]; exact hI 0 13
  have q_79 : (f_70 0 13).toInt = v_77.toInt := (congrArg Int32.toInt (show f_70 0 13 = v_77 from ev_77.symm))
  obtain ⟨v_80, ev_80⟩ : ∃ z : Int32, z = f_70 0 16 := ⟨_, rfl⟩
  have q_81 : 0 ≤ v_80.toInt ∧ v_80.toInt ≤ 6 := by rw [ev_80]; exact hI 0 16
  have q_82 : (f_70 0 16).toInt = v_80.toInt := (congrArg Int32.toInt (show f_70 0 16 = v_80 from ev_80.symm))
  obtain ⟨v_83, ev_83⟩ : ∃ z : Int32, z = f_70 0 15 := ⟨_, rfl⟩
  have q_84 : (-1) ≤ v_83.toInt ∧ v_83.toInt ≤ 120 := by rw [ev_83]; exact hI 0 15
  have q_85 : (f_70 0 15).toInt = v_83.toInt := (congrArg Int32.toInt (show f_70 0 15 = v_83 from ev_83.symm))
  have q_86 : (f_70 0 16).toInt = v_80.toInt := (congrArg Int32.toInt (show f_70 0 16 = v_80 from ev_80.symm))
  refine lv_istore_n (lv' := [(1, .int r_73), (0, .ref (h 0))]) hx hb dX12_both_4 rfl hl (by decide) rfl (fun ls hl => ?_)
  exact loop_5 121 r_73 f_70 _ _ _ (by have zz0_13 : (f_70 0 13).toInt = v_77.toInt := (congrArg Int32.toInt (show f_70 0 13 = v_77 from ev_77.symm)); omega) (by have zz0_13 : (f_70 0 13).toInt = v_77.toInt := (congrArg Int32.toInt (show f_70 0 13 = v_77 from ev_77.symm)); omega) (by have zz0_16 : (f_70 0 16).toInt = v_80.toInt := (congrArg Int32.toInt (show f_70 0 16 = v_80 from ev_80.symm)); omega) (by have zz0_15 : (f_70 0 15).toInt = v_83.toInt := (congrArg Int32.toInt (show f_70 0 15 = v_83 from ev_83.symm)); have zz0_16 : (f_70 0 16).toInt = v_80.toInt := (congrArg Int32.toInt (show f_70 0 16 = v_80 from ev_80.symm)); omega) hI hF hP hS (lv_sub hl [1, 0] rfl)

abbrev WkX12_either_2 : List (Nat × Nat × Option Nat) := [(0, 0, some 13), (0, 0, some 15), (0, 0, some 16)]
set_option maxHeartbeats 4000000 in
set_option maxRecDepth 100000 in
theorem kX12_either_2 (l : Launch) (D : va_G) (ca : Nat → ClassId) (za h : Nat → Nat) (hh : sgH 26 h) (f : sg_F) (L : sg_L) (Q : sg_Q) (hI : sgI loM hiM f) (p0 : 2 ≤ (f 0 16).toInt) (p1 : 0 ≤ (f 0 15).toInt ∨ (f 0 16).toInt = 2) (sz : Nat) : Met l yX12_either gwX12_either { frames := 30, cells := 0, slots := 0, locals := 683 } (sgP D vwCl (tyX ca) 26 h (eM ca h) zcM za f L Q sz [.ref (h 0)]) (sgQi D vwCl 26 h (eM ca h) sz (fun r f1 L1 Q1 => ((sgI loM hiM f1 ∧ sgK WkX12_either_2 f f1 ∧ L1 = L ∧ Q1 = Q) ∧ True ∧ ((f 0 13).toInt ≤ (f1 0 13).toInt) ∧ (2 ≤ (f1 0 16).toInt) ∧ (0 ≤ (f1 0 15).toInt ∨ (f1 0 16).toInt = 2)))) 0 0 (sgA 26 h sz) := by
  refine sg_ofWi (cc := cX12_either) (maxL := 3) RX12 (by decide) rfl rfl (Nat.le_of_ble_eq_true rfl) ?_
  intro p e s m below meth cd Qz ls hx hb hml hown hts hK hZ hP hS hl hret
  have hA := sgY.self (n := 26) (h := h) (sz := s.heap.size)
  have hl : lv_has ls 3 [(0, .ref (h 0))] := hl
  obtain ⟨H, hH⟩ : ∃ z : Heap, z = s.heap := ⟨_, rfl⟩
  obtain ⟨locs, hlo⟩ : ∃ z : List Loc, z = [] := ⟨_, rfl⟩
  have hP : va_P D vwCl (sgw 26 h (eM ca h) f L Q) H := by rw [hH]; exact hP
  have hS : va_S (sgA 26 h s.heap.size) s.heap H locs := by rw [hH, hlo]; exact hS
  suffices hgo : W p l e ({ frames := 30, cells := 0, slots := 0, locals := 683 }) s m ([.ref (h 0)] : List Value).toArray below meth cd H locs 0 0 Qz (F0 m 0 ls []) by rw [hH, hlo] at hgo; exact hgo
  clear hH hlo
  obtain ⟨v_1, ev_1⟩ : ∃ z : Int32, z = f 0 16 := ⟨_, rfl⟩
  have q_2 : 0 ≤ v_1.toInt ∧ v_1.toInt ≤ 6 := by rw [ev_1]; exact hI 0 16
  obtain ⟨v_3, ev_3⟩ : ∃ z : Int32, z = f 0 15 := ⟨_, rfl⟩
  have q_4 : (-1) ≤ v_3.toInt ∧ v_3.toInt ≤ 120 := by rw [ev_3]; exact hI 0 15
  obtain ⟨v_5, ev_5⟩ : ∃ z : Int32, z = f 0 13 := ⟨_, rfl⟩
  have q_6 : 0 ≤ v_5.toInt ∧ v_5.toInt ≤ 120 := by rw [ev_5]; exact hI 0 13
  have o_7 : (f 0 16).toInt = v_1.toInt := (congrArg Int32.toInt (show f 0 16 = v_1 from ev_1.symm))
  have o_8 : (f 0 15).toInt = v_3.toInt := (congrArg Int32.toInt (show f 0 15 = v_3 from ev_3.symm))
  have o_9 : (f 0 13).toInt = v_5.toInt := (congrArg Int32.toInt (show f 0 13 = v_5 from ev_5.symm))
  have hF : sgK WkX12_either_2 f f := sgK.rf
  have loop_5 : ∀ (n_5 : Nat) (y1_5 : Int32) (fp_5 : sg_F) (H : Heap) (locs : List Loc) (ls : Array Slot), 120 - (fp_5 0 13).toInt < (n_5 : Int) → (f 0 13).toInt ≤ (fp_5 0 13).toInt → 2 ≤ (fp_5 0 16).toInt → 0 ≤ (fp_5 0 15).toInt ∨ (fp_5 0 16).toInt = 2 → sgI loM hiM fp_5 → sgK WkX12_either_2 f fp_5 → va_P D vwCl (sgw 26 h (eM ca h) fp_5 L Q) H → va_S (sgA 26 h s.heap.size) s.heap H locs → lv_has ls 3 [(0, .ref (h 0)), (1, .int y1_5)] → W p l e ({ frames := 30, cells := 0, slots := 0, locals := 683 }) s m ([.ref (h 0)] : List Value).toArray below meth cd H locs 0 0 Qz (F0 m 5 ls []) := by
    intro n_5
    induction n_5 with
    | zero => intro y1_5 fp_5 H locs ls hm_5 hg0_5 hg1_5 hg2_5 hI hF hP hS hl; have zb := (show 0 ≤ (fp_5 0 13).toInt ∧ (fp_5 0 13).toInt ≤ 120 from hI 0 13); exact absurd hm_5 (by omega)
    | succ n_5 ih_5 =>
      intro y1_5 fp_5 H locs ls hm_5 hg0_5 hg1_5 hg2_5 hI hF hP hS hl
      obtain ⟨v_10, ev_10⟩ : ∃ z : Int32, z = fp_5 0 13 := ⟨_, rfl⟩
      have q_11 : 0 ≤ v_10.toInt ∧ v_10.toInt ≤ 120 := by rw [ev_10]; exact hI 0 13
      have q_12 : (fp_5 0 13).toInt = v_10.toInt := by rw [ev_10]
      obtain ⟨v_13, ev_13⟩ : ∃ z : Int32, z = fp_5 0 16 := ⟨_, rfl⟩
      have q_14 : 0 ≤ v_13.toInt ∧ v_13.toInt ≤ 6 := by rw [ev_13]; exact hI 0 16
      have q_15 : (fp_5 0 16).toInt = v_13.toInt := by rw [ev_13]
      obtain ⟨v_16, ev_16⟩ : ∃ z : Int32, z = fp_5 0 15 := ⟨_, rfl⟩
      have q_17 : (-1) ≤ v_16.toInt ∧ v_16.toInt ≤ 120 := by rw [ev_16]; exact hI 0 15
      have q_18 : (fp_5 0 15).toInt = v_16.toInt := by rw [ev_16]
      refine lv_aload_n hx hb dX12_either_5 rfl (lv_at hl 0 rfl) ?_
      refine lv_bipush (v := 124) hx hb dX12_either_6 (by decide) ?_
      have q_19 : (fp_5 0 15).toInt = v_16.toInt := (congrArg Int32.toInt (show fp_5 0 15 = v_16 from ev_16.symm))
      have q_20 : (fp_5 0 13).toInt = v_10.toInt := (congrArg Int32.toInt (show fp_5 0 13 = v_10 from ev_10.symm))
      obtain ⟨v_21, ev_21⟩ : ∃ z : Int32, z = fp_5 0 14 := ⟨_, rfl⟩
      have q_22 : 0 ≤ v_21.toInt ∧ v_21.toInt ≤ 120 := by rw [ev_21]; exact hI 0 14
      have q_23 : (fp_5 0 14).toInt = v_21.toInt := (congrArg Int32.toInt (show fp_5 0 14 = v_21 from ev_21.symm))
      have q_24 : (fp_5 0 13).toInt = v_10.toInt := (congrArg Int32.toInt (show fp_5 0 13 = v_10 from ev_10.symm))
      have q_25 : (fp_5 0 13).toInt = v_10.toInt := (congrArg Int32.toInt (show fp_5 0 13 = v_10 from ev_10.symm))
      refine sg_calli (va_runV (As := [.int 124]) (rest := []) ⟨hx, hb, hml, hown, hts⟩ (kX12_takes_124 l D ca za h hh fp_5 L Q hI H.size) (cwV 1 hts (gw_V (fun _ h => List.mem_cons_of_mem _ h) mw_877 mw_878 mw_879 mw_619 mw_876) rfl rfl rfl (by decide +kernel) ⟨Nat.le_of_ble_eq_true rfl, Nat.le_of_ble_eq_true rfl⟩) (sg_preV (ci := 12) (C := RX12) (T := TX12) (N := 55) hA hK hP hS hZ 0 (by decide) rfl rfl) rfl rfl hl.1 rfl (lv_room (Nat.le_of_ble_eq_true rfl)) dX12_either_8 ⟨Nat.le_refl _, Nat.le_refl _⟩) hA hS (fun r_29 f_26 L_27 Q_28 H locs hq hP hS => ?_)
      obtain ⟨⟨hI, hk_f_26, eL9, eQ9⟩, hq⟩ := hq
      rw [eL9, eQ9] at hP; clear eL9 eQ9
      have hF : sgK WkX12_either_2 f f_26 := sgK.tr hF hk_f_26 (by decide)
      obtain ⟨v_30, ev_30⟩ : ∃ z : Int32, z = f_26 0 13 := ⟨_, rfl⟩
      have q_31 : 0 ≤ v_30.toInt ∧ v_30.toInt ≤ 120 := by rw [ev_30]; exact hI 0 13
      have q_32 : (f_26 0 13).toInt = v_30.toInt := (congrArg Int32.toInt (show f_26 0 13 = v_30 from ev_30.symm))
      have q_33 : (f_26 0 13).toInt = v_30.toInt := (congrArg Int32.toInt (show f_26 0 13 = v_30 from ev_30.symm))
      have k_34 : (124 : Int32).toInt = 124 := by decide
      rcases hq with ⟨rfl, hq⟩ | ⟨rfl, hq⟩
      · skip
        have q_35 := hq
        refine lv_if_eq (tgt := 36) hx hb dX12_either_11 (by decide) (fun c => absurd c (by decide)) (fun c => ?_)
        refine lv_aload_n hx hb dX12_either_14 rfl (lv_at hl 0 rfl) ?_
        have q_36 : (f_26 0 16).toInt = v_13.toInt := (congrArg Int32.toInt (show f_26 0 16 = v_13 from ((hk_f_26 0 16 (by decide)).trans ev_13.symm)))
        have q_37 : (f_26 0 15).toInt = v_16.toInt := (congrArg Int32.toInt (show f_26 0 15 = v_16 from ((hk_f_26 0 15 (by decide)).trans ev_16.symm)))
        have q_38 : (f_26 0 16).toInt = v_13.toInt := (congrArg Int32.toInt (show f_26 0 16 = v_13 from ((hk_f_26 0 16 (by decide)).trans ev_13.symm)))
        have q_39 : (f_26 0 13).toInt = v_30.toInt := (congrArg Int32.toInt (show f_26 0 13 = v_30 from ev_30.symm))
        refine sg_calli (va_runV (As := []) (rest := []) ⟨hx, hb, hml, hown, hts⟩ (kX12_both_2 l D ca za h hh f_26 L Q hI (by omega) (by omega) H.size) (cwV 0 hts (gw_V (fun _ h => List.mem_cons_of_mem _ h) mw_881 mw_882 mw_883 mw_619 mw_880) rfl rfl rfl (by decide +kernel) ⟨Nat.le_of_ble_eq_true rfl, Nat.le_of_ble_eq_true rfl⟩) (sg_preV (ci := 12) (C := RX12) (T := TX12) (N := 55) hA hK hP hS hZ 0 (by decide) rfl rfl) rfl rfl hl.1 rfl (lv_room (Nat.le_of_ble_eq_true rfl)) dX12_either_15 ⟨Nat.le_refl _, Nat.le_refl _⟩) hA hS (fun r_43 f_40 L_41 Q_42 H locs hq hP hS => ?_)
        obtain ⟨⟨hI, hk_f_40, eL9, eQ9⟩, hq, p_44, p_45, p_46⟩ := hq
        rw [eL9, eQ9] at hP; clear eL9 eQ9
        have hF : sgK WkX12_either_2 f f_40 := sgK.tr hF hk_f_40 (by decide)
        obtain ⟨v_47, ev_47⟩ : ∃ z : Int32, z = f_40 0 13 := ⟨_, rfl⟩
        have q_48 : 0 ≤ v_47.toInt ∧ v_47.toInt ≤ 120 := by rw [ev_47]; exact hI 0 13
        have q_49 : (f_40 0 13).toInt = v_47.toInt := (congrArg Int32.toInt (show f_40 0 13 = v_47 from ev_47.symm))
        obtain ⟨v_50, ev_50⟩ : ∃ z : Int32, z = f_40 0 16 := ⟨_, rfl⟩
        have q_51 : 0 ≤ v_50.toInt ∧ v_50.toInt ≤ 6 := by rw [ev_50]; exact hI 0 16
        have q_52 : (f_40 0 16).toInt = v_50.toInt := (congrArg Int32.toInt (show f_40 0 16 = v_50 from ev_50.symm))
        obtain ⟨v_53, ev_53⟩ : ∃ z : Int32, z = f_40 0 15 := ⟨_, rfl⟩
        have q_54 : (-1) ≤ v_53.toInt ∧ v_53.toInt ≤ 120 := by rw [ev_53]; exact hI 0 15
        have q_55 : (f_40 0 15).toInt = v_53.toInt := (congrArg Int32.toInt (show f_40 0 15 = v_53 from ev_53.symm))
        have q_56 : (f_40 0 16).toInt = v_50.toInt := (congrArg Int32.toInt (show f_40 0 16 = v_50 from ev_50.symm))
        refine lv_istore_n (lv' := [(2, .int r_43), (0, .ref (h 0)), (1, .int y1_5)]) hx hb dX12_either_18 rfl hl (by decide) rfl (fun ls hl => ?_)
        refine lv_iload_n hx hb dX12_either_19 rfl (lv_at hl 2 rfl) ?_
        refine lv_if_ne (tgt := 27) hx hb dX12_either_20 (by decide) (fun c => ?_) (fun c => ?_)
        · skip
          have c_57 : y1_5.toInt ≠ 0 := (by have z := bn_ne c; have k1 : (0 : Int32).toInt = 0 := (by decide); omega)
          refine lv_iconst (v := 1) hx hb dX12_either_27 (by decide) ?_
          refine lv_goto (tgt := 32) hx hb dX12_either_28 (by decide) ?_
          refine lv_istore_n (lv' := [(1, .int 1), (2, .int r_43), (0, .ref (h 0))]) hx hb dX12_either_32 rfl hl (by decide) rfl (fun ls hl => ?_)
          refine lv_goto (tgt := 5) hx hb dX12_either_33 (by decide) ?_
          exact ih_5 1 f_40 _ _ _ (by have kc0 : (1 : Int32).toInt = 1 := (by decide); have zz0_13 : (f_40 0 13).toInt = v_47.toInt := (congrArg Int32.toInt (show f_40 0 13 = v_47 from ev_47.symm)); omega) (by have kc0 : (1 : Int32).toInt = 1 := (by decide); have zz0_13 : (f_40 0 13).toInt = v_47.toInt := (congrArg Int32.toInt (show f_40 0 13 = v_47 from ev_47.symm)); omega) (by have kc0 : (1 : Int32).toInt = 1 := (by decide); have zz0_16 : (f_40 0 16).toInt = v_50.toInt := (congrArg Int32.toInt (show f_40 0 16 = v_50 from ev_50.symm)); omega) (by have kc0 : (1 : Int32).toInt = 1 := (by decide); have zz0_15 : (f_40 0 15).toInt = v_53.toInt := (congrArg Int32.toInt (show f_40 0 15 = v_53 from ev_53.symm)); have zz0_16 : (f_40 0 16).toInt = v_50.toInt := (congrArg Int32.toInt (show f_40 0 16 = v_50 from ev_50.symm)); omega) hI hF hP hS (lv_sub hl [2, 0] rfl)
        · skip
          have c_58 : y1_5.toInt = 0 := (by have z := Int32.toInt_inj.mpr c; have k1 : (0 : Int32).toInt = 0 := (by decide); omega)
          refine lv_iload_n hx hb dX12_either_23 rfl (lv_at hl 0 rfl) ?_
          refine lv_if_eq (tgt := 31) hx hb dX12_either_24 (by decide) (fun c => ?_) (fun c => ?_)
          · skip
            have c_59 : r_43.toInt = 0 := (by have z := Int32.toInt_inj.mpr c; have k1 : (0 : Int32).toInt = 0 := (by decide); omega)
            refine lv_iconst (v := 0) hx hb dX12_either_31 (by decide) ?_
            refine lv_istore_n (lv' := [(1, .int 0), (2, .int r_43), (0, .ref (h 0))]) hx hb dX12_either_32 rfl hl (by decide) rfl (fun ls hl => ?_)
            refine lv_goto (tgt := 5) hx hb dX12_either_33 (by decide) ?_
            exact ih_5 0 f_40 _ _ _ (by have kc0 : (0 : Int32).toInt = 0 := (by decide); have zz0_13 : (f_40 0 13).toInt = v_47.toInt := (congrArg Int32.toInt (show f_40 0 13 = v_47 from ev_47.symm)); omega) (by have kc0 : (0 : Int32).toInt = 0 := (by decide); have zz0_13 : (f_40 0 13).toInt = v_47.toInt := (congrArg Int32.toInt (show f_40 0 13 = v_47 from ev_47.symm)); omega) (by have kc0 : (0 : Int32).toInt = 0 := (by decide); have zz0_16 : (f_40 0 16).toInt = v_50.toInt := (congrArg Int32.toInt (show f_40 0 16 = v_50 from ev_50.symm)); omega) (by have kc0 : (0 : Int32).toInt = 0 := (by decide); have zz0_15 : (f_40 0 15).toInt = v_53.toInt := (congrArg Int32.toInt (show f_40 0 15 = v_53 from ev_53.symm)); have zz0_16 : (f_40 0 16).toInt = v_50.toInt := (congrArg Int32.toInt (show f_40 0 16 = v_50 from ev_50.symm)); omega) hI hF hP hS (lv_sub hl [2, 0] rfl)
          · skip
            have c_60 : r_43.toInt ≠ 0 := (by have z := bn_ne c; have k1 : (0 : Int32).toInt = 0 := (by decide); omega)
            refine lv_iconst (v := 1) hx hb dX12_either_27 (by decide) ?_
            refine lv_goto (tgt := 32) hx hb dX12_either_28 (by decide) ?_
            refine lv_istore_n (lv' := [(1, .int 1), (2, .int r_43), (0, .ref (h 0))]) hx hb dX12_either_32 rfl hl (by decide) rfl (fun ls hl => ?_)
            refine lv_goto (tgt := 5) hx hb dX12_either_33 (by decide) ?_
            exact ih_5 1 f_40 _ _ _ (by have kc0 : (1 : Int32).toInt = 1 := (by decide); have zz0_13 : (f_40 0 13).toInt = v_47.toInt := (congrArg Int32.toInt (show f_40 0 13 = v_47 from ev_47.symm)); omega) (by have kc0 : (1 : Int32).toInt = 1 := (by decide); have zz0_13 : (f_40 0 13).toInt = v_47.toInt := (congrArg Int32.toInt (show f_40 0 13 = v_47 from ev_47.symm)); omega) (by have kc0 : (1 : Int32).toInt = 1 := (by decide); have zz0_16 : (f_40 0 16).toInt = v_50.toInt := (congrArg Int32.toInt (show f_40 0 16 = v_50 from ev_50.symm)); omega) (by have kc0 : (1 : Int32).toInt = 1 := (by decide); have zz0_15 : (f_40 0 15).toInt = v_53.toInt := (congrArg Int32.toInt (show f_40 0 15 = v_53 from ev_53.symm)); have zz0_16 : (f_40 0 16).toInt = v_50.toInt := (congrArg Int32.toInt (show f_40 0 16 = v_50 from ev_50.symm)); omega) hI hF hP hS (lv_sub hl [2, 0] rfl)
      · skip
        have q_61 := hq
        refine lv_if_eq (tgt := 36) hx hb dX12_either_11 (by decide) (fun c => ?_) (fun c => absurd c (by decide))
        refine lv_iload_n hx hb dX12_either_36 rfl (lv_at hl 1 rfl) ?_
        have q_62 : (f_26 0 13).toInt = v_30.toInt := (congrArg Int32.toInt (show f_26 0 13 = v_30 from ev_30.symm))
        have q_63 : (f_26 0 16).toInt = v_13.toInt := (congrArg Int32.toInt (show f_26 0 16 = v_13 from ((hk_f_26 0 16 (by decide)).trans ev_13.symm)))
        have q_64 : (f_26 0 15).toInt = v_16.toInt := (congrArg Int32.toInt (show f_26 0 15 = v_16 from ((hk_f_26 0 15 (by decide)).trans ev_16.symm)))
        have q_65 : (f_26 0 16).toInt = v_13.toInt := (congrArg Int32.toInt (show f_26 0 16 = v_13 from ((hk_f_26 0 16 (by decide)).trans ev_13.symm)))
        exact hret _ _ _ _ (y1_5) f_26 L Q dX12_either_37 hP hS ⟨⟨hI, hF, rfl, rfl⟩, trivial, (by omega), (by omega), (by omega)⟩
  refine lv_aload_n hx hb dX12_either_0 rfl (lv_at hl 0 rfl) ?_
  have q_66 : (f 0 16).toInt = v_1.toInt := (congrArg Int32.toInt (show f 0 16 = v_1 from ev_1.symm))
  have q_67 : (f 0 15).toInt = v_3.toInt := (congrArg Int32.toInt (show f 0 15 = v_3 from ev_3.symm))
  have q_68 : (f 0 16).toInt = v_1.toInt := (congrArg Int32.toInt (show f 0 16 = v_1 from ev_1.symm))
  have q_69 : (f 0 13).toInt = v_5.toInt := (congrArg Int32.toInt (show f 0 13 = v_5 from ev_5.symm))
  refine sg_calli (va_runV (As := []) (rest := []) ⟨hx, hb, hml, hown, hts⟩ (kX12_both_2 l D ca za h hh f L Q hI (by omega) (by omega) H.size) (cwV 0 hts (gw_V (fun _ h => List.mem_cons_of_mem _ h) mw_881 mw_882 mw_883 mw_619 mw_880) rfl rfl rfl (by decide +kernel) ⟨Nat.le_of_ble_eq_true rfl, Nat.le_of_ble_eq_true rfl⟩) (sg_preV (ci := 12) (C := RX12) (T := TX12) (N := 55) hA hK hP hS hZ 0 (by decide) rfl rfl) rfl rfl hl.1 rfl (lv_room (Nat.le_of_ble_eq_true rfl)) dX12_either_1 ⟨Nat.le_refl _, Nat.le_refl _⟩) hA hS (fun r_73 f_70 L_71 Q_72 H locs hq hP hS => ?_)
  obtain ⟨⟨hI, hk_f_70, eL9, eQ9⟩, hq, p_74, p_75, p_76⟩ := hq
  rw [eL9, eQ9] at hP; clear eL9 eQ9
  have hF : sgK WkX12_either_2 f f_70 := sgK.tr hF hk_f_70 (by decide)
  obtain ⟨v_77, ev_77⟩ : ∃ z : Int32, z = f_70 0 13 := ⟨_, rfl⟩
  have q_78 : 0 ≤ v_77.toInt ∧ v_77.toInt ≤ 120 := by rw [ev_77]; exact hI 0 13
  have q_79 : (f_70 0 13).toInt = v_77.toInt := (congrArg Int32.toInt (show f_70 0 13 = v_77 from ev_77.symm))
  obtain ⟨v_80, ev_80⟩ : ∃ z : Int32, z = f_70 0 16 := ⟨_, rfl⟩
  have q_81 : 0 ≤ v_80.toInt ∧ v_80.toInt ≤ 6 := by rw [ev_80]; exact hI 0 16
  have q_82 : (f_70 0 16).toInt = v_80.toInt := (congrArg Int32.toInt (show f_70 0 16 = v_80 from ev_80.symm))
  obtain ⟨v_83, ev_83⟩ : ∃ z : Int32, z = f_70 0 15 := ⟨_, rfl⟩
  have q_84 : (-1) ≤ v_83.toInt ∧ v_83.toInt ≤ 120 := by rw [ev_83]; exact hI 0 15
  have q_85 : (f_70 0 15).toInt = v_83.toInt := (congrArg Int32.toInt (show f_70 0 15 = v_83 from ev_83.symm))
  have q_86 : (f_70 0 16).toInt = v_80.toInt := (congrArg Int32.toInt (show f_70 0 16 = v_80 from ev_80.symm))
  refine lv_istore_n (lv' := [(1, .int r_73), (0, .ref (h 0))]) hx hb dX12_either_4 rfl hl (by decide) rfl (fun ls hl => ?_)
  exact loop_5 121 r_73 f_70 _ _ _ (by have zz0_13 : (f_70 0 13).toInt = v_77.toInt := (congrArg Int32.toInt (show f_70 0 13 = v_77 from ev_77.symm)); omega) (by have zz0_13 : (f_70 0 13).toInt = v_77.toInt := (congrArg Int32.toInt (show f_70 0 13 = v_77 from ev_77.symm)); omega) (by have zz0_16 : (f_70 0 16).toInt = v_80.toInt := (congrArg Int32.toInt (show f_70 0 16 = v_80 from ev_80.symm)); omega) (by have zz0_15 : (f_70 0 15).toInt = v_83.toInt := (congrArg Int32.toInt (show f_70 0 15 = v_83 from ev_83.symm)); have zz0_16 : (f_70 0 16).toInt = v_80.toInt := (congrArg Int32.toInt (show f_70 0 16 = v_80 from ev_80.symm)); omega) hI hF hP hS (lv_sub hl [1, 0] rfl)

abbrev WkX12_one_1 : List (Nat × Nat × Option Nat) := [(0, 0, some 13), (0, 0, some 15), (0, 0, some 16)]
set_option maxHeartbeats 4000000 in
set_option maxRecDepth 100000 in
theorem kX12_one_1 (l : Launch) (D : va_G) (ca : Nat → ClassId) (za h : Nat → Nat) (hh : sgH 26 h) (f : sg_F) (L : sg_L) (Q : sg_Q) (hI : sgI loM hiM f) (p0 : 1 ≤ (f 0 16).toInt) (p1 : 0 ≤ (f 0 15).toInt ∨ (f 0 16).toInt = 1) (sz : Nat) : Met l yX12_one gwX12_one { frames := 31, cells := 0, slots := 0, locals := 705 } (sgP D vwCl (tyX ca) 26 h (eM ca h) zcM za f L Q sz [.ref (h 0)]) (sgQi D vwCl 26 h (eM ca h) sz (fun r f1 L1 Q1 => ((sgI loM hiM f1 ∧ sgK WkX12_one_1 f f1 ∧ L1 = L ∧ Q1 = Q) ∧ True ∧ ((f 0 13).toInt ≤ (f1 0 13).toInt) ∧ (1 ≤ (f1 0 16).toInt) ∧ (0 ≤ (f1 0 15).toInt ∨ (f1 0 16).toInt = 1)))) 0 0 (sgA 26 h sz) := by
  refine sg_ofWi (cc := cX12_one) (maxL := 5) RX12 (by decide) rfl rfl (Nat.le_of_ble_eq_true rfl) ?_
  intro p e s m below meth cd Qz ls hx hb hml hown hts hK hZ hP hS hl hret
  have hA := sgY.self (n := 26) (h := h) (sz := s.heap.size)
  have hl : lv_has ls 5 [(0, .ref (h 0))] := hl
  obtain ⟨H, hH⟩ : ∃ z : Heap, z = s.heap := ⟨_, rfl⟩
  obtain ⟨locs, hlo⟩ : ∃ z : List Loc, z = [] := ⟨_, rfl⟩
  have hP : va_P D vwCl (sgw 26 h (eM ca h) f L Q) H := by rw [hH]; exact hP
  have hS : va_S (sgA 26 h s.heap.size) s.heap H locs := by rw [hH, hlo]; exact hS
  suffices hgo : W p l e ({ frames := 31, cells := 0, slots := 0, locals := 705 }) s m ([.ref (h 0)] : List Value).toArray below meth cd H locs 0 0 Qz (F0 m 0 ls []) by rw [hH, hlo] at hgo; exact hgo
  clear hH hlo
  obtain ⟨v_1, ev_1⟩ : ∃ z : Int32, z = f 0 16 := ⟨_, rfl⟩
  have q_2 : 0 ≤ v_1.toInt ∧ v_1.toInt ≤ 6 := by rw [ev_1]; exact hI 0 16
  obtain ⟨v_3, ev_3⟩ : ∃ z : Int32, z = f 0 15 := ⟨_, rfl⟩
  have q_4 : (-1) ≤ v_3.toInt ∧ v_3.toInt ≤ 120 := by rw [ev_3]; exact hI 0 15
  obtain ⟨v_5, ev_5⟩ : ∃ z : Int32, z = f 0 13 := ⟨_, rfl⟩
  have q_6 : 0 ≤ v_5.toInt ∧ v_5.toInt ≤ 120 := by rw [ev_5]; exact hI 0 13
  have o_7 : (f 0 16).toInt = v_1.toInt := (congrArg Int32.toInt (show f 0 16 = v_1 from ev_1.symm))
  have o_8 : (f 0 15).toInt = v_3.toInt := (congrArg Int32.toInt (show f 0 15 = v_3 from ev_3.symm))
  have o_9 : (f 0 13).toInt = v_5.toInt := (congrArg Int32.toInt (show f 0 13 = v_5 from ev_5.symm))
  have hF : sgK WkX12_one_1 f f := sgK.rf
  have blk_229 : ∀ (y3_229 : Int32) (y4_229 : Int32) (fp_229 : sg_F) (H : Heap) (locs : List Loc) (ls : Array Slot), (-1) ≤ (fp_229 0 15).toInt ∧ (fp_229 0 15).toInt ≤ (-1) → 0 ≤ y4_229.toInt ∧ y4_229.toInt ≤ 4 → (f 0 13).toInt ≤ (fp_229 0 13).toInt → 1 ≤ (fp_229 0 16).toInt → 0 ≤ (fp_229 0 15).toInt ∨ (fp_229 0 16).toInt = 1 → sgI loM hiM fp_229 → sgK WkX12_one_1 f fp_229 → va_P D vwCl (sgw 26 h (eM ca h) fp_229 L Q) H → va_S (sgA 26 h s.heap.size) s.heap H locs → lv_has ls 5 [(0, .ref (h 0)), (3, .int y3_229), (4, .int y4_229)] → W p l e ({ frames := 31, cells := 0, slots := 0, locals := 705 }) s m ([.ref (h 0)] : List Value).toArray below meth cd H locs 0 0 Qz (F0 m 229 ls []) := by
    intro y3_229 y4_229 fp_229 H locs ls hy0_229 hy1_229 hg0_229 hg1_229 hg2_229 hI hF hP hS hl
    obtain ⟨v_10, ev_10⟩ : ∃ z : Int32, z = fp_229 0 15 := ⟨_, rfl⟩
    have q_11 : (-1) ≤ v_10.toInt ∧ v_10.toInt ≤ 120 := by rw [ev_10]; exact hI 0 15
    have q_12 : (fp_229 0 15).toInt = v_10.toInt := by rw [ev_10]
    obtain ⟨v_13, ev_13⟩ : ∃ z : Int32, z = fp_229 0 13 := ⟨_, rfl⟩
    have q_14 : 0 ≤ v_13.toInt ∧ v_13.toInt ≤ 120 := by rw [ev_13]; exact hI 0 13
    have q_15 : (fp_229 0 13).toInt = v_13.toInt := by rw [ev_13]
    obtain ⟨v_16, ev_16⟩ : ∃ z : Int32, z = fp_229 0 16 := ⟨_, rfl⟩
    have q_17 : 0 ≤ v_16.toInt ∧ v_16.toInt ≤ 6 := by rw [ev_16]; exact hI 0 16
    have q_18 : (fp_229 0 16).toInt = v_16.toInt := by rw [ev_16]
    refine lv_iload hx hb dX12_one_229 (lv_at hl 2 rfl) ?_
    refine lv_if_ne (tgt := 241) hx hb dX12_one_231 (by decide) (fun c => ?_) (fun c => ?_)
    · skip
      have c_19 : y4_229.toInt ≠ 0 := (by have z := bn_ne c; have k1 : (0 : Int32).toInt = 0 := (by decide); omega)
      refine lv_iload_n hx hb dX12_one_241 rfl (lv_at hl 1 rfl) ?_
      have q_21 : (fp_229 0 13).toInt = v_13.toInt := (congrArg Int32.toInt (show fp_229 0 13 = v_13 from ev_13.symm))
      have q_22 : (fp_229 0 16).toInt = v_16.toInt := (congrArg Int32.toInt (show fp_229 0 16 = v_16 from ev_16.symm))
      have q_23 : (fp_229 0 15).toInt = v_10.toInt := (congrArg Int32.toInt (show fp_229 0 15 = v_10 from ev_10.symm))
      have q_24 : (fp_229 0 16).toInt = v_16.toInt := (congrArg Int32.toInt (show fp_229 0 16 = v_16 from ev_16.symm))
      exact hret _ _ _ _ (y3_229) fp_229 L Q dX12_one_242 hP hS ⟨⟨hI, hF, rfl, rfl⟩, trivial, (by omega), (by omega), (by omega)⟩
    · skip
      have c_20 : y4_229.toInt = 0 := (by have z := Int32.toInt_inj.mpr c; have k1 : (0 : Int32).toInt = 0 := (by decide); omega)
      refine lv_aload_n hx hb dX12_one_234 rfl (lv_at hl 0 rfl) ?_
      refine sg_calli (va_runV (As := []) (rest := []) ⟨hx, hb, hml, hown, hts⟩ (kX12_wrong l D ca za h hh fp_229 L Q hI H.size) (cwV 0 hts (gw_V (fun _ h => List.mem_cons_of_mem _ h) mw_889 mw_890 mw_891 mw_619 mw_888) rfl rfl rfl (by decide +kernel) ⟨Nat.le_of_ble_eq_true rfl, Nat.le_of_ble_eq_true rfl⟩) (sg_preV (ci := 12) (C := RX12) (T := TX12) (N := 55) hA hK hP hS hZ 0 (by decide) rfl rfl) rfl rfl hl.1 rfl (lv_room (Nat.le_of_ble_eq_true rfl)) dX12_one_235 ⟨Nat.le_refl _, Nat.le_refl _⟩) hA hS (fun r_28 f_25 L_26 Q_27 H locs hq hP hS => ?_)
      obtain ⟨⟨hI, hk_f_25, eL9, eQ9⟩, hq, p_29⟩ := hq
      rw [eL9, eQ9] at hP; clear eL9 eQ9
      have hF : sgK WkX12_one_1 f f_25 := sgK.tr hF hk_f_25 (by decide)
      obtain ⟨v_30, ev_30⟩ : ∃ z : Int32, z = f_25 0 15 := ⟨_, rfl⟩
      have q_31 : (-1) ≤ v_30.toInt ∧ v_30.toInt ≤ 120 := by rw [ev_30]; exact hI 0 15
      have q_32 : (f_25 0 15).toInt = v_30.toInt := (congrArg Int32.toInt (show f_25 0 15 = v_30 from ev_30.symm))
      obtain rfl : r_28 = 0 := Int32.toInt_inj.mp (by have k9 : (0 : Int32).toInt = 0 := (by decide); omega)
      refine lv_goto (tgt := 242) hx hb dX12_one_238 (by decide) ?_
      have q_33 : (f_25 0 13).toInt = v_13.toInt := (congrArg Int32.toInt (show f_25 0 13 = v_13 from ((hk_f_25 0 13 (by decide)).trans ev_13.symm)))
      have q_34 : (f_25 0 16).toInt = v_16.toInt := (congrArg Int32.toInt (show f_25 0 16 = v_16 from ((hk_f_25 0 16 (by decide)).trans ev_16.symm)))
      have q_35 : (f_25 0 15).toInt = v_30.toInt := (congrArg Int32.toInt (show f_25 0 15 = v_30 from ev_30.symm))
      have q_36 : (f_25 0 16).toInt = v_16.toInt := (congrArg Int32.toInt (show f_25 0 16 = v_16 from ((hk_f_25 0 16 (by decide)).trans ev_16.symm)))
      have k99 : (0 : Int32).toInt = 0 := (by decide)
      exact hret _ _ _ _ (0) f_25 L Q dX12_one_242 hP hS ⟨⟨hI, hF, rfl, rfl⟩, trivial, (by omega), (by omega), (by omega)⟩
  have loop_176 : ∀ (n_176 : Nat) (y3_176 : Int32) (y4_176 : Int32) (fp_176 : sg_F) (H : Heap) (locs : List Loc) (ls : Array Slot), 4 - y4_176.toInt < (n_176 : Int) → (-1) ≤ (fp_176 0 15).toInt ∧ (fp_176 0 15).toInt ≤ (-1) → 0 ≤ y4_176.toInt ∧ y4_176.toInt ≤ 4 → (f 0 13).toInt ≤ (fp_176 0 13).toInt → 1 ≤ (fp_176 0 16).toInt → 0 ≤ (fp_176 0 15).toInt ∨ (fp_176 0 16).toInt = 1 → sgI loM hiM fp_176 → sgK WkX12_one_1 f fp_176 → va_P D vwCl (sgw 26 h (eM ca h) fp_176 L Q) H → va_S (sgA 26 h s.heap.size) s.heap H locs → lv_has ls 5 [(0, .ref (h 0)), (3, .int y3_176), (4, .int y4_176)] → W p l e ({ frames := 31, cells := 0, slots := 0, locals := 705 }) s m ([.ref (h 0)] : List Value).toArray below meth cd H locs 0 0 Qz (F0 m 176 ls []) := by
    intro n_176
    induction n_176 with
    | zero => intro y3_176 y4_176 fp_176 H locs ls hm_176 hy0_176 hy1_176 hg0_176 hg1_176 hg2_176 hI hF hP hS hl; exact absurd hm_176 (by omega)
    | succ n_176 ih_176 =>
      intro y3_176 y4_176 fp_176 H locs ls hm_176 hy0_176 hy1_176 hg0_176 hg1_176 hg2_176 hI hF hP hS hl
      obtain ⟨v_37, ev_37⟩ : ∃ z : Int32, z = fp_176 0 15 := ⟨_, rfl⟩
      have q_38 : (-1) ≤ v_37.toInt ∧ v_37.toInt ≤ 120 := by rw [ev_37]; exact hI 0 15
      have q_39 : (fp_176 0 15).toInt = v_37.toInt := by rw [ev_37]
      obtain ⟨v_40, ev_40⟩ : ∃ z : Int32, z = fp_176 0 13 := ⟨_, rfl⟩
      have q_41 : 0 ≤ v_40.toInt ∧ v_40.toInt ≤ 120 := by rw [ev_40]; exact hI 0 13
      have q_42 : (fp_176 0 13).toInt = v_40.toInt := by rw [ev_40]
      obtain ⟨v_43, ev_43⟩ : ∃ z : Int32, z = fp_176 0 16 := ⟨_, rfl⟩
      have q_44 : 0 ≤ v_43.toInt ∧ v_43.toInt ≤ 6 := by rw [ev_43]; exact hI 0 16
      have q_45 : (fp_176 0 16).toInt = v_43.toInt := by rw [ev_43]
      refine lv_iload hx hb dX12_one_176 (lv_at hl 2 rfl) ?_
      refine lv_iconst (v := 4) hx hb dX12_one_178 (by decide) ?_
      refine lv_icmp_ge (tgt := 229) hx hb dX12_one_179 (by decide) (fun c => ?_) (fun c => ?_)
      · skip
        have c_46 : 4 ≤ y4_176.toInt := (by have z := bn_le c; have k1 : (4 : Int32).toInt = 4 := (by decide); omega)
        exact blk_229 y3_176 y4_176 fp_176 _ _ _ (by have zz0_15 : (fp_176 0 15).toInt = v_37.toInt := (congrArg Int32.toInt (show fp_176 0 15 = v_37 from ev_37.symm)); omega) (by omega) (by have zz0_13 : (fp_176 0 13).toInt = v_40.toInt := (congrArg Int32.toInt (show fp_176 0 13 = v_40 from ev_40.symm)); omega) (by have zz0_16 : (fp_176 0 16).toInt = v_43.toInt := (congrArg Int32.toInt (show fp_176 0 16 = v_43 from ev_43.symm)); omega) (by have zz0_15 : (fp_176 0 15).toInt = v_37.toInt := (congrArg Int32.toInt (show fp_176 0 15 = v_37 from ev_37.symm)); have zz0_16 : (fp_176 0 16).toInt = v_43.toInt := (congrArg Int32.toInt (show fp_176 0 16 = v_43 from ev_43.symm)); omega) hI hF hP hS (lv_sub hl [0, 1, 2] rfl)
      · skip
        have c_47 : y4_176.toInt < 4 := (by have z := bn_nle c; have k1 : (4 : Int32).toInt = 4 := (by decide); omega)
        refine lv_aload_n hx hb dX12_one_182 rfl (lv_at hl 0 rfl) ?_
        have q_48 : (fp_176 0 13).toInt = v_40.toInt := (congrArg Int32.toInt (show fp_176 0 13 = v_40 from ev_40.symm))
        obtain ⟨v_49, ev_49⟩ : ∃ z : Int32, z = fp_176 0 14 := ⟨_, rfl⟩
        have q_50 : 0 ≤ v_49.toInt ∧ v_49.toInt ≤ 120 := by rw [ev_49]; exact hI 0 14
        have q_51 : (fp_176 0 14).toInt = v_49.toInt := (congrArg Int32.toInt (show fp_176 0 14 = v_49 from ev_49.symm))
        refine sg_calli (va_runV (As := []) (rest := []) ⟨hx, hb, hml, hown, hts⟩ (kX12_byteAt l D ca za h hh fp_176 L Q hI H.size) (cwV 0 hts (gw_V (fun _ h => List.mem_cons_of_mem _ h) mw_840 mw_841 mw_842 mw_619 mw_839) rfl rfl rfl (by decide +kernel) ⟨Nat.le_of_ble_eq_true rfl, Nat.le_of_ble_eq_true rfl⟩) (sg_preV (ci := 12) (C := RX12) (T := TX12) (N := 55) hA hK hP hS hZ 0 (by decide) rfl rfl) rfl rfl hl.1 rfl (lv_room (Nat.le_of_ble_eq_true rfl)) dX12_one_183 ⟨Nat.le_refl _, Nat.le_refl _⟩) hA hS (fun r_55 f_52 L_53 Q_54 H locs hq hP hS => ?_)
        obtain ⟨⟨ef9, eL9, eQ9⟩, hq, p_56⟩ := hq
        rw [ef9, eL9, eQ9] at hP; clear ef9 eL9 eQ9
        refine lv_bipush (v := 48) hx hb dX12_one_186 (by decide) ?_
        refine lv_icmp_lt (tgt := 229) hx hb dX12_one_188 (by decide) (fun c => ?_) (fun c => ?_)
        · skip
          have c_57 : r_55.toInt < 48 := (by have z := bn_lt c; have k1 : (48 : Int32).toInt = 48 := (by decide); omega)
          exact blk_229 y3_176 y4_176 fp_176 _ _ _ (by have zz0_15 : (fp_176 0 15).toInt = v_37.toInt := (congrArg Int32.toInt (show fp_176 0 15 = v_37 from ev_37.symm)); omega) (by omega) (by have zz0_13 : (fp_176 0 13).toInt = v_40.toInt := (congrArg Int32.toInt (show fp_176 0 13 = v_40 from ev_40.symm)); omega) (by have zz0_16 : (fp_176 0 16).toInt = v_43.toInt := (congrArg Int32.toInt (show fp_176 0 16 = v_43 from ev_43.symm)); omega) (by have zz0_15 : (fp_176 0 15).toInt = v_37.toInt := (congrArg Int32.toInt (show fp_176 0 15 = v_37 from ev_37.symm)); have zz0_16 : (fp_176 0 16).toInt = v_43.toInt := (congrArg Int32.toInt (show fp_176 0 16 = v_43 from ev_43.symm)); omega) hI hF hP hS (lv_sub hl [0, 1, 2] rfl)
        · skip
          have c_58 : 48 ≤ r_55.toInt := (by have z := bn_nlt c; have k1 : (48 : Int32).toInt = 48 := (by decide); omega)
          refine lv_aload_n hx hb dX12_one_191 rfl (lv_at hl 0 rfl) ?_
          have q_59 : (fp_176 0 13).toInt = v_40.toInt := (congrArg Int32.toInt (show fp_176 0 13 = v_40 from ev_40.symm))
          have q_60 : (fp_176 0 14).toInt = v_49.toInt := (congrArg Int32.toInt (show fp_176 0 14 = v_49 from ev_49.symm))
          refine sg_calli (va_runV (As := []) (rest := []) ⟨hx, hb, hml, hown, hts⟩ (kX12_byteAt l D ca za h hh fp_176 L Q hI H.size) (cwV 0 hts (gw_V (fun _ h => List.mem_cons_of_mem _ h) mw_840 mw_841 mw_842 mw_619 mw_839) rfl rfl rfl (by decide +kernel) ⟨Nat.le_of_ble_eq_true rfl, Nat.le_of_ble_eq_true rfl⟩) (sg_preV (ci := 12) (C := RX12) (T := TX12) (N := 55) hA hK hP hS hZ 0 (by decide) rfl rfl) rfl rfl hl.1 rfl (lv_room (Nat.le_of_ble_eq_true rfl)) dX12_one_192 ⟨Nat.le_refl _, Nat.le_refl _⟩) hA hS (fun r_64 f_61 L_62 Q_63 H locs hq hP hS => ?_)
          obtain ⟨⟨ef9, eL9, eQ9⟩, hq, p_65⟩ := hq
          rw [ef9, eL9, eQ9] at hP; clear ef9 eL9 eQ9
          refine lv_bipush (v := 57) hx hb dX12_one_195 (by decide) ?_
          refine lv_icmp_gt (tgt := 229) hx hb dX12_one_197 (by decide) (fun c => ?_) (fun c => ?_)
          · skip
            have c_66 : 57 < r_64.toInt := (by have z := bn_lt c; have k1 : (57 : Int32).toInt = 57 := (by decide); omega)
            exact blk_229 y3_176 y4_176 fp_176 _ _ _ (by have zz0_15 : (fp_176 0 15).toInt = v_37.toInt := (congrArg Int32.toInt (show fp_176 0 15 = v_37 from ev_37.symm)); omega) (by omega) (by have zz0_13 : (fp_176 0 13).toInt = v_40.toInt := (congrArg Int32.toInt (show fp_176 0 13 = v_40 from ev_40.symm)); omega) (by have zz0_16 : (fp_176 0 16).toInt = v_43.toInt := (congrArg Int32.toInt (show fp_176 0 16 = v_43 from ev_43.symm)); omega) (by have zz0_15 : (fp_176 0 15).toInt = v_37.toInt := (congrArg Int32.toInt (show fp_176 0 15 = v_37 from ev_37.symm)); have zz0_16 : (fp_176 0 16).toInt = v_43.toInt := (congrArg Int32.toInt (show fp_176 0 16 = v_43 from ev_43.symm)); omega) hI hF hP hS (lv_sub hl [0, 1, 2] rfl)
          · skip
            have c_67 : r_64.toInt ≤ 57 := (by have z := bn_nlt c; have k1 : (57 : Int32).toInt = 57 := (by decide); omega)
            refine lv_bipush (v := 10) hx hb dX12_one_200 (by decide) ?_
            refine lv_iload_n hx hb dX12_one_202 rfl (lv_at hl 1 rfl) ?_
            refine lv_imul hx hb dX12_one_203 ?_
            refine lv_topi (fun v_68 ev_68 => ?_)
            refine lv_aload_n hx hb dX12_one_204 rfl (lv_at hl 0 rfl) ?_
            have q_69 : (fp_176 0 13).toInt = v_40.toInt := (congrArg Int32.toInt (show fp_176 0 13 = v_40 from ev_40.symm))
            have q_70 : (fp_176 0 14).toInt = v_49.toInt := (congrArg Int32.toInt (show fp_176 0 14 = v_49 from ev_49.symm))
            refine sg_calli (va_runV (As := []) (rest := [.int v_68]) ⟨hx, hb, hml, hown, hts⟩ (kX12_byteAt l D ca za h hh fp_176 L Q hI H.size) (cwV 0 hts (gw_V (fun _ h => List.mem_cons_of_mem _ h) mw_840 mw_841 mw_842 mw_619 mw_839) rfl rfl rfl (by decide +kernel) ⟨Nat.le_of_ble_eq_true rfl, Nat.le_of_ble_eq_true rfl⟩) (sg_preV (ci := 12) (C := RX12) (T := TX12) (N := 55) hA hK hP hS hZ 0 (by decide) rfl rfl) rfl rfl hl.1 rfl (lv_room (Nat.le_of_ble_eq_true rfl)) dX12_one_205 ⟨Nat.le_refl _, Nat.le_refl _⟩) hA hS (fun r_74 f_71 L_72 Q_73 H locs hq hP hS => ?_)
            obtain ⟨⟨ef9, eL9, eQ9⟩, hq, p_75⟩ := hq
            rw [ef9, eL9, eQ9] at hP; clear ef9 eL9 eQ9
            refine lv_iadd hx hb dX12_one_208 ?_
            refine lv_topi (fun v_76 ev_76 => ?_)
            refine lv_bipush (v := 48) hx hb dX12_one_209 (by decide) ?_
            refine lv_isub hx hb dX12_one_211 ?_
            refine lv_topi (fun v_77 ev_77 => ?_)
            refine lv_istore_n (lv' := [(3, .int v_77), (0, .ref (h 0)), (4, .int y4_176)]) hx hb dX12_one_212 rfl hl (by decide) rfl (fun ls hl => ?_)
            obtain ⟨v_78, ev_78⟩ : ∃ z : Int32, z = y4_176 + 1 := ⟨_, rfl⟩
            have q_79 : v_78.toInt = y4_176.toInt + 1 := by rw [ev_78]; exact (bn_addc y4_176 1 (by decide) (by omega) (by omega))
            refine lv_iinc (v := v_78) (lv' := [(4, .int v_78), (3, .int v_77), (0, .ref (h 0))]) hx hb dX12_one_213 hl (k := 2) rfl (by rw [ev_78]; rfl) (by decide) rfl (fun ls hl => ?_)
            refine lv_aload_n hx hb dX12_one_216 rfl (lv_at hl 2 rfl) ?_
            refine lv_dup hx hb dX12_one_217 rfl ?_
            refine sg_get (ci := 12) (v := .int v_40) (C := RX12) (T := TX12) (N := 55) hx hb hts (fun w h => List.mem_cons_of_mem _ (gx_12 w h)) hown hK hP 0 (by decide) rfl rfl 13 (by decide) (hts _ (List.mem_cons_of_mem _ mw_625)) (fun _ h9 => h9) (congrArg (fun z => some (Value.int z)) (show fp_176 0 13 = v_40 from ev_40.symm)) dX12_one_218 ?_
            refine lv_iconst (v := 1) hx hb dX12_one_221 (by decide) ?_
            refine lv_iadd hx hb dX12_one_222 ?_
            refine lv_topi (fun v_80 ev_80 => ?_)
            have q_81 : v_80.toInt = v_40.toInt + 1 := by rw [ev_80]; have k1 : (1 : Int32).toInt = 1 := (by decide); exact (bn_addI (by omega) (by omega)).trans (by omega)
            refine sg_put (ci := 12) (x := v_80) (ty := .int) (C := RX12) (T := TX12) (N := 55) hx hb hts (fun w h => List.mem_cons_of_mem _ (gx_12 w h)) tyX12 tyX12_ok nmX12 hown hh hA hK hP hS 0 (by decide) rfl rfl 13 (by decide) (hts _ (List.mem_cons_of_mem _ mw_625)) (fun _ h9 => h9) rfl rfl (by decide +kernel) rfl rfl (Nat.le_of_ble_eq_true rfl) dX12_one_223 (fun f_82 H locs ef_82 hP hS => ?_)
            have hI : sgI loM hiM f_82 := by rw [ef_82]; exact sgI.put hI 0 13 (show 0 ≤ (v_80 : Int32).toInt ∧ (v_80 : Int32).toInt ≤ 120 from by omega)
            have hF : sgK WkX12_one_1 f f_82 := sgK.put hF ef_82 (by rfl)
            refine lv_goto (tgt := 176) hx hb dX12_one_226 (by decide) ?_
            exact ih_176 v_77 v_78 f_82 _ _ _ (by omega) (by have zz0_15 : (f_82 0 15).toInt = v_37.toInt := (congrArg Int32.toInt (show f_82 0 15 = v_37 from (by rw [ef_82, sg_up_s, sgu_n (by decide)]; exact ev_37.symm))); omega) (by omega) (by have zz0_13 : (f_82 0 13).toInt = v_80.toInt := (congrArg Int32.toInt (show f_82 0 13 = v_80 from (by rw [ef_82, sg_up_s, sgu_s]))); omega) (by have zz0_16 : (f_82 0 16).toInt = v_43.toInt := (congrArg Int32.toInt (show f_82 0 16 = v_43 from (by rw [ef_82, sg_up_s, sgu_n (by decide)]; exact ev_43.symm))); omega) (by have zz0_15 : (f_82 0 15).toInt = v_37.toInt := (congrArg Int32.toInt (show f_82 0 15 = v_37 from (by rw [ef_82, sg_up_s, sgu_n (by decide)]; exact ev_37.symm))); have zz0_16 : (f_82 0 16).toInt = v_43.toInt := (congrArg Int32.toInt (show f_82 0 16 = v_43 from (by rw [ef_82, sg_up_s, sgu_n (by decide)]; exact ev_43.symm))); omega) hI hF hP hS (lv_sub hl [2, 1, 0] rfl)
  refine lv_aload_n hx hb dX12_one_0 rfl (lv_at hl 0 rfl) ?_
  refine sg_get (ci := 12) (v := .int v_3) (C := RX12) (T := TX12) (N := 55) hx hb hts (fun w h => List.mem_cons_of_mem _ (gx_12 w h)) hown hK hP 0 (by decide) rfl rfl 15 (by decide) (hts _ (List.mem_cons_of_mem _ mw_627)) (fun _ h9 => h9) (congrArg (fun z => some (Value.int z)) (show f 0 15 = v_3 from ev_3.symm)) dX12_one_1 ?_
  refine lv_if_lt (tgt := 9) hx hb dX12_one_4 (by decide) (fun c => ?_) (fun c => ?_)
  · skip
    have c_83 : v_3.toInt < 0 := (by have z := bn_lt c; have k1 : (0 : Int32).toInt = 0 := (by decide); omega)
    refine lv_aload_n hx hb dX12_one_9 rfl (lv_at hl 0 rfl) ?_
    have q_85 : (f 0 13).toInt = v_5.toInt := (congrArg Int32.toInt (show f 0 13 = v_5 from ev_5.symm))
    obtain ⟨v_86, ev_86⟩ : ∃ z : Int32, z = f 0 14 := ⟨_, rfl⟩
    have q_87 : 0 ≤ v_86.toInt ∧ v_86.toInt ≤ 120 := by rw [ev_86]; exact hI 0 14
    have q_88 : (f 0 14).toInt = v_86.toInt := (congrArg Int32.toInt (show f 0 14 = v_86 from ev_86.symm))
    refine sg_calli (va_runV (As := []) (rest := []) ⟨hx, hb, hml, hown, hts⟩ (kX12_byteAt l D ca za h hh f L Q hI H.size) (cwV 0 hts (gw_V (fun _ h => List.mem_cons_of_mem _ h) mw_840 mw_841 mw_842 mw_619 mw_839) rfl rfl rfl (by decide +kernel) ⟨Nat.le_of_ble_eq_true rfl, Nat.le_of_ble_eq_true rfl⟩) (sg_preV (ci := 12) (C := RX12) (T := TX12) (N := 55) hA hK hP hS hZ 0 (by decide) rfl rfl) rfl rfl hl.1 rfl (lv_room (Nat.le_of_ble_eq_true rfl)) dX12_one_10 ⟨Nat.le_refl _, Nat.le_refl _⟩) hA hS (fun r_92 f_89 L_90 Q_91 H locs hq hP hS => ?_)
    obtain ⟨⟨ef9, eL9, eQ9⟩, hq, p_93⟩ := hq
    rw [ef9, eL9, eQ9] at hP; clear ef9 eL9 eQ9
    refine lv_istore_n (lv' := [(1, .int r_92), (0, .ref (h 0))]) hx hb dX12_one_13 rfl hl (by decide) rfl (fun ls hl => ?_)
    refine lv_iload_n hx hb dX12_one_14 rfl (lv_at hl 0 rfl) ?_
    refine lv_bipush (v := 33) hx hb dX12_one_15 (by decide) ?_
    refine lv_icmp_eq (tgt := 32) hx hb dX12_one_17 (by decide) (fun c => ?_) (fun c => ?_)
    · skip
      have c_94 : r_92.toInt = 33 := (by have z := Int32.toInt_inj.mpr c; have k1 : (33 : Int32).toInt = 33 := (by decide); omega)
      refine lv_aload_n hx hb dX12_one_32 rfl (lv_at hl 1 rfl) ?_
      have c_96 : v_1 = 1 := Int32.toInt_inj.mp (by have k9 : (1 : Int32).toInt = 1 := (by decide); omega)
      refine sg_get (ci := 12) (v := .int 1) (C := RX12) (T := TX12) (N := 55) hx hb hts (fun w h => List.mem_cons_of_mem _ (gx_12 w h)) hown hK hP 0 (by decide) rfl rfl 16 (by decide) (hts _ (List.mem_cons_of_mem _ mw_628)) (fun _ h9 => h9) (congrArg (fun z => some (Value.int z)) (show f 0 16 = 1 from (Eq.trans ev_1.symm c_96))) dX12_one_33 ?_
      refine lv_bipush (v := 6) hx hb dX12_one_36 (by decide) ?_
      refine lv_icmp_ne (tgt := 46) hx hb dX12_one_38 (by decide) (fun c => ?_) (fun c => absurd c (by decide))
      refine lv_aload_n hx hb dX12_one_46 rfl (lv_at hl 1 rfl) ?_
      refine lv_dup hx hb dX12_one_47 rfl ?_
      refine sg_get (ci := 12) (v := .int 1) (C := RX12) (T := TX12) (N := 55) hx hb hts (fun w h => List.mem_cons_of_mem _ (gx_12 w h)) hown hK hP 0 (by decide) rfl rfl 16 (by decide) (hts _ (List.mem_cons_of_mem _ mw_628)) (fun _ h9 => h9) (congrArg (fun z => some (Value.int z)) (show f 0 16 = 1 from (Eq.trans ev_1.symm c_96))) dX12_one_48 ?_
      refine lv_iconst (v := 1) hx hb dX12_one_51 (by decide) ?_
      refine lv_iadd hx hb dX12_one_52 ?_
      refine W.eq (g2 := F0 m 53 ls [.int 2, .ref (h 0)]) (by rw [show (1 + 1 : Int32) = 2 from by decide]) ?_
      refine sg_put (ci := 12) (x := 2) (ty := .int) (C := RX12) (T := TX12) (N := 55) hx hb hts (fun w h => List.mem_cons_of_mem _ (gx_12 w h)) tyX12 tyX12_ok nmX12 hown hh hA hK hP hS 0 (by decide) rfl rfl 16 (by decide) (hts _ (List.mem_cons_of_mem _ mw_628)) (fun _ h9 => h9) rfl rfl (by decide +kernel) rfl rfl (Nat.le_of_ble_eq_true rfl) dX12_one_53 (fun f_97 H locs ef_97 hP hS => ?_)
      have hI : sgI loM hiM f_97 := by rw [ef_97]; exact sgI.put hI 0 16 (show 0 ≤ (2 : Int32).toInt ∧ (2 : Int32).toInt ≤ 6 from by decide)
      have hF : sgK WkX12_one_1 f f_97 := sgK.put hF ef_97 (by rfl)
      refine lv_aload_n hx hb dX12_one_56 rfl (lv_at hl 1 rfl) ?_
      refine lv_dup hx hb dX12_one_57 rfl ?_
      refine sg_get (ci := 12) (v := .int v_5) (C := RX12) (T := TX12) (N := 55) hx hb hts (fun w h => List.mem_cons_of_mem _ (gx_12 w h)) hown hK hP 0 (by decide) rfl rfl 13 (by decide) (hts _ (List.mem_cons_of_mem _ mw_625)) (fun _ h9 => h9) (congrArg (fun z => some (Value.int z)) (show f_97 0 13 = v_5 from (by rw [ef_97, sg_up_s, sgu_n (by decide)]; exact ev_5.symm))) dX12_one_58 ?_
      refine lv_iconst (v := 1) hx hb dX12_one_61 (by decide) ?_
      refine lv_iadd hx hb dX12_one_62 ?_
      refine lv_topi (fun v_98 ev_98 => ?_)
      have q_99 : v_98.toInt = v_5.toInt + 1 := by rw [ev_98]; have k1 : (1 : Int32).toInt = 1 := (by decide); exact (bn_addI (by omega) (by omega)).trans (by omega)
      refine sg_put (ci := 12) (x := v_98) (ty := .int) (C := RX12) (T := TX12) (N := 55) hx hb hts (fun w h => List.mem_cons_of_mem _ (gx_12 w h)) tyX12 tyX12_ok nmX12 hown hh hA hK hP hS 0 (by decide) rfl rfl 13 (by decide) (hts _ (List.mem_cons_of_mem _ mw_625)) (fun _ h9 => h9) rfl rfl (by decide +kernel) rfl rfl (Nat.le_of_ble_eq_true rfl) dX12_one_63 (fun f_100 H locs ef_100 hP hS => ?_)
      have hI : sgI loM hiM f_100 := by rw [ef_100]; exact sgI.put hI 0 13 (show 0 ≤ (v_98 : Int32).toInt ∧ (v_98 : Int32).toInt ≤ 120 from by omega)
      have hF : sgK WkX12_one_1 f f_100 := sgK.put hF ef_100 (by rfl)
      refine lv_iload_n hx hb dX12_one_66 rfl (lv_at hl 0 rfl) ?_
      refine lv_bipush (v := 40) hx hb dX12_one_67 (by decide) ?_
      refine lv_icmp_ne (tgt := 79) hx hb dX12_one_69 (by decide) (fun c => ?_) (fun c => ?_)
      · skip
        have c_101 : r_92.toInt ≠ 40 := (by have z := bn_ne c; have k1 : (40 : Int32).toInt = 40 := (by decide); omega)
        refine lv_aload_n hx hb dX12_one_79 rfl (lv_at hl 1 rfl) ?_
        have q_103 : (f_100 0 16).toInt = 2 := (congrArg Int32.toInt (show f_100 0 16 = 2 from (by rw [ef_100, sg_up_s, sgu_n (by decide)]; exact (by rw [ef_97, sg_up_s, sgu_s])))).trans (by decide)
        have q_104 : (f_100 0 15).toInt = v_3.toInt := (congrArg Int32.toInt (show f_100 0 15 = v_3 from (by rw [ef_100, sg_up_s, sgu_n (by decide)]; exact (by rw [ef_97, sg_up_s, sgu_n (by decide)]; exact ev_3.symm))))
        have q_105 : (f_100 0 16).toInt = 2 := (congrArg Int32.toInt (show f_100 0 16 = 2 from (by rw [ef_100, sg_up_s, sgu_n (by decide)]; exact (by rw [ef_97, sg_up_s, sgu_s])))).trans (by decide)
        have q_106 : (f_100 0 13).toInt = v_98.toInt := (congrArg Int32.toInt (show f_100 0 13 = v_98 from (by rw [ef_100, sg_up_s, sgu_s])))
        refine sg_calli (va_runV (As := []) (rest := []) ⟨hx, hb, hml, hown, hts⟩ (kX12_one_2 l D ca za h hh f_100 L Q hI (by omega) (by omega) H.size) (cwV 0 hts (gw_V (fun _ h => List.mem_cons_of_mem _ h) mw_789 mw_790 mw_791 mw_619 mw_788) rfl rfl rfl (by decide +kernel) ⟨Nat.le_of_ble_eq_true rfl, Nat.le_of_ble_eq_true rfl⟩) (sg_preV (ci := 12) (C := RX12) (T := TX12) (N := 55) hA hK hP hS hZ 0 (by decide) rfl rfl) rfl rfl hl.1 rfl (lv_room (Nat.le_of_ble_eq_true rfl)) dX12_one_80 ⟨Nat.le_refl _, Nat.le_refl _⟩) hA hS (fun r_110 f_107 L_108 Q_109 H locs hq hP hS => ?_)
        obtain ⟨⟨hI, hk_f_107, eL9, eQ9⟩, hq, p_111, p_112, p_113⟩ := hq
        rw [eL9, eQ9] at hP; clear eL9 eQ9
        have hF : sgK WkX12_one_1 f f_107 := sgK.tr hF hk_f_107 (by decide)
        obtain ⟨v_114, ev_114⟩ : ∃ z : Int32, z = f_107 0 13 := ⟨_, rfl⟩
        have q_115 : 0 ≤ v_114.toInt ∧ v_114.toInt ≤ 120 := by rw [ev_114]; exact hI 0 13
        have q_116 : (f_107 0 13).toInt = v_114.toInt := (congrArg Int32.toInt (show f_107 0 13 = v_114 from ev_114.symm))
        obtain ⟨v_117, ev_117⟩ : ∃ z : Int32, z = f_107 0 16 := ⟨_, rfl⟩
        have q_118 : 0 ≤ v_117.toInt ∧ v_117.toInt ≤ 6 := by rw [ev_117]; exact hI 0 16
        have q_119 : (f_107 0 16).toInt = v_117.toInt := (congrArg Int32.toInt (show f_107 0 16 = v_117 from ev_117.symm))
        obtain ⟨v_120, ev_120⟩ : ∃ z : Int32, z = f_107 0 15 := ⟨_, rfl⟩
        have q_121 : (-1) ≤ v_120.toInt ∧ v_120.toInt ≤ 120 := by rw [ev_120]; exact hI 0 15
        have q_122 : (f_107 0 15).toInt = v_120.toInt := (congrArg Int32.toInt (show f_107 0 15 = v_120 from ev_120.symm))
        have q_123 : (f_107 0 16).toInt = v_117.toInt := (congrArg Int32.toInt (show f_107 0 16 = v_117 from ev_117.symm))
        refine lv_istore_n (lv' := [(2, .int r_110), (1, .int r_92), (0, .ref (h 0))]) hx hb dX12_one_83 rfl hl (by decide) rfl (fun ls hl => ?_)
        refine lv_iload_n hx hb dX12_one_84 rfl (lv_at hl 1 rfl) ?_
        refine lv_bipush (v := 40) hx hb dX12_one_85 (by decide) ?_
        refine lv_icmp_ne (tgt := 104) hx hb dX12_one_87 (by decide) (fun c => ?_) (fun c => ?_)
        · skip
          have c_124 : r_92.toInt ≠ 40 := (by have z := bn_ne c; have k1 : (40 : Int32).toInt = 40 := (by decide); omega)
          refine lv_aload_n hx hb dX12_one_104 rfl (lv_at hl 2 rfl) ?_
          refine lv_dup hx hb dX12_one_105 rfl ?_
          refine sg_get (ci := 12) (v := .int v_117) (C := RX12) (T := TX12) (N := 55) hx hb hts (fun w h => List.mem_cons_of_mem _ (gx_12 w h)) hown hK hP 0 (by decide) rfl rfl 16 (by decide) (hts _ (List.mem_cons_of_mem _ mw_628)) (fun _ h9 => h9) (congrArg (fun z => some (Value.int z)) (show f_107 0 16 = v_117 from ev_117.symm)) dX12_one_106 ?_
          refine lv_iconst (v := 1) hx hb dX12_one_109 (by decide) ?_
          refine lv_isub hx hb dX12_one_110 ?_
          refine lv_topi (fun v_126 ev_126 => ?_)
          have q_127 : v_126.toInt = v_117.toInt - 1 := by rw [ev_126]; have k1 : (1 : Int32).toInt = 1 := (by decide); exact (bn_subI (by omega) (by omega)).trans (by omega)
          refine sg_put (ci := 12) (x := v_126) (ty := .int) (C := RX12) (T := TX12) (N := 55) hx hb hts (fun w h => List.mem_cons_of_mem _ (gx_12 w h)) tyX12 tyX12_ok nmX12 hown hh hA hK hP hS 0 (by decide) rfl rfl 16 (by decide) (hts _ (List.mem_cons_of_mem _ mw_628)) (fun _ h9 => h9) rfl rfl (by decide +kernel) rfl rfl (Nat.le_of_ble_eq_true rfl) dX12_one_111 (fun f_128 H locs ef_128 hP hS => ?_)
          have hI : sgI loM hiM f_128 := by rw [ef_128]; exact sgI.put hI 0 16 (show 0 ≤ (v_126 : Int32).toInt ∧ (v_126 : Int32).toInt ≤ 6 from by omega)
          have hF : sgK WkX12_one_1 f f_128 := sgK.put hF ef_128 (by rfl)
          refine lv_iload_n hx hb dX12_one_114 rfl (lv_at hl 1 rfl) ?_
          refine lv_bipush (v := 40) hx hb dX12_one_115 (by decide) ?_
          refine lv_icmp_ne (tgt := 124) hx hb dX12_one_117 (by decide) (fun c => ?_) (fun c => ?_)
          · skip
            have c_129 : r_92.toInt ≠ 40 := (by have z := bn_ne c; have k1 : (40 : Int32).toInt = 40 := (by decide); omega)
            refine lv_iload_n hx hb dX12_one_124 rfl (lv_at hl 1 rfl) ?_
            refine lv_bipush (v := 45) hx hb dX12_one_125 (by decide) ?_
            refine lv_icmp_ne (tgt := 135) hx hb dX12_one_127 (by decide) (fun c => ?_) (fun c => ?_)
            · skip
              have c_131 : r_92.toInt ≠ 45 := (by have z := bn_ne c; have k1 : (45 : Int32).toInt = 45 := (by decide); omega)
              refine lv_iload_n hx hb dX12_one_135 rfl (lv_at hl 0 rfl) ?_
              refine lv_if_ne (tgt := 143) hx hb dX12_one_136 (by decide) (fun c => ?_) (fun c => ?_)
              · skip
                have c_133 : r_110.toInt ≠ 0 := (by have z := bn_ne c; have k1 : (0 : Int32).toInt = 0 := (by decide); omega)
                refine lv_iconst (v := 0) hx hb dX12_one_143 (by decide) ?_
                have q_135 : (f_128 0 13).toInt = v_114.toInt := (congrArg Int32.toInt (show f_128 0 13 = v_114 from (by rw [ef_128, sg_up_s, sgu_n (by decide)]; exact ev_114.symm)))
                have q_136 : (f_128 0 16).toInt = v_126.toInt := (congrArg Int32.toInt (show f_128 0 16 = v_126 from (by rw [ef_128, sg_up_s, sgu_s])))
                have q_137 : (f_128 0 15).toInt = v_120.toInt := (congrArg Int32.toInt (show f_128 0 15 = v_120 from (by rw [ef_128, sg_up_s, sgu_n (by decide)]; exact ev_120.symm)))
                have q_138 : (f_128 0 16).toInt = v_126.toInt := (congrArg Int32.toInt (show f_128 0 16 = v_126 from (by rw [ef_128, sg_up_s, sgu_s])))
                have k99 : (0 : Int32).toInt = 0 := (by decide)
                exact hret _ _ _ _ (0) f_128 L Q dX12_one_144 hP hS ⟨⟨hI, hF, rfl, rfl⟩, trivial, (by omega), (by omega), (by omega)⟩
              · skip
                have c_134 : r_110.toInt = 0 := (by have z := Int32.toInt_inj.mpr c; have k1 : (0 : Int32).toInt = 0 := (by decide); omega)
                refine lv_iconst (v := 1) hx hb dX12_one_139 (by decide) ?_
                refine lv_goto (tgt := 144) hx hb dX12_one_140 (by decide) ?_
                have q_139 : (f_128 0 13).toInt = v_114.toInt := (congrArg Int32.toInt (show f_128 0 13 = v_114 from (by rw [ef_128, sg_up_s, sgu_n (by decide)]; exact ev_114.symm)))
                have q_140 : (f_128 0 16).toInt = v_126.toInt := (congrArg Int32.toInt (show f_128 0 16 = v_126 from (by rw [ef_128, sg_up_s, sgu_s])))
                have q_141 : (f_128 0 15).toInt = v_120.toInt := (congrArg Int32.toInt (show f_128 0 15 = v_120 from (by rw [ef_128, sg_up_s, sgu_n (by decide)]; exact ev_120.symm)))
                have q_142 : (f_128 0 16).toInt = v_126.toInt := (congrArg Int32.toInt (show f_128 0 16 = v_126 from (by rw [ef_128, sg_up_s, sgu_s])))
                have k99 : (1 : Int32).toInt = 1 := (by decide)
                exact hret _ _ _ _ (1) f_128 L Q dX12_one_144 hP hS ⟨⟨hI, hF, rfl, rfl⟩, trivial, (by omega), (by omega), (by omega)⟩
            · skip
              exfalso; have c_132 : r_92.toInt = 45 := (by have z := Int32.toInt_inj.mpr c; have k1 : (45 : Int32).toInt = 45 := (by decide); omega); omega
          · skip
            exfalso; have c_130 : r_92.toInt = 40 := (by have z := Int32.toInt_inj.mpr c; have k1 : (40 : Int32).toInt = 40 := (by decide); omega); omega
        · skip
          exfalso; have c_125 : r_92.toInt = 40 := (by have z := Int32.toInt_inj.mpr c; have k1 : (40 : Int32).toInt = 40 := (by decide); omega); omega
      · skip
        exfalso; have c_102 : r_92.toInt = 40 := (by have z := Int32.toInt_inj.mpr c; have k1 : (40 : Int32).toInt = 40 := (by decide); omega); omega
    · skip
      have c_95 : r_92.toInt ≠ 33 := (by have z := bn_ne c; have k1 : (33 : Int32).toInt = 33 := (by decide); omega)
      refine lv_iload_n hx hb dX12_one_20 rfl (lv_at hl 0 rfl) ?_
      refine lv_bipush (v := 45) hx hb dX12_one_21 (by decide) ?_
      refine lv_icmp_eq (tgt := 32) hx hb dX12_one_23 (by decide) (fun c => ?_) (fun c => ?_)
      · skip
        have c_143 : r_92.toInt = 45 := (by have z := Int32.toInt_inj.mpr c; have k1 : (45 : Int32).toInt = 45 := (by decide); omega)
        refine lv_aload_n hx hb dX12_one_32 rfl (lv_at hl 1 rfl) ?_
        have c_145 : v_1 = 1 := Int32.toInt_inj.mp (by have k9 : (1 : Int32).toInt = 1 := (by decide); omega)
        refine sg_get (ci := 12) (v := .int 1) (C := RX12) (T := TX12) (N := 55) hx hb hts (fun w h => List.mem_cons_of_mem _ (gx_12 w h)) hown hK hP 0 (by decide) rfl rfl 16 (by decide) (hts _ (List.mem_cons_of_mem _ mw_628)) (fun _ h9 => h9) (congrArg (fun z => some (Value.int z)) (show f 0 16 = 1 from (Eq.trans ev_1.symm c_145))) dX12_one_33 ?_
        refine lv_bipush (v := 6) hx hb dX12_one_36 (by decide) ?_
        refine lv_icmp_ne (tgt := 46) hx hb dX12_one_38 (by decide) (fun c => ?_) (fun c => absurd c (by decide))
        refine lv_aload_n hx hb dX12_one_46 rfl (lv_at hl 1 rfl) ?_
        refine lv_dup hx hb dX12_one_47 rfl ?_
        refine sg_get (ci := 12) (v := .int 1) (C := RX12) (T := TX12) (N := 55) hx hb hts (fun w h => List.mem_cons_of_mem _ (gx_12 w h)) hown hK hP 0 (by decide) rfl rfl 16 (by decide) (hts _ (List.mem_cons_of_mem _ mw_628)) (fun _ h9 => h9) (congrArg (fun z => some (Value.int z)) (show f 0 16 = 1 from (Eq.trans ev_1.symm c_145))) dX12_one_48 ?_
        refine lv_iconst (v := 1) hx hb dX12_one_51 (by decide) ?_
        refine lv_iadd hx hb dX12_one_52 ?_
        refine W.eq (g2 := F0 m 53 ls [.int 2, .ref (h 0)]) (by rw [show (1 + 1 : Int32) = 2 from by decide]) ?_
        refine sg_put (ci := 12) (x := 2) (ty := .int) (C := RX12) (T := TX12) (N := 55) hx hb hts (fun w h => List.mem_cons_of_mem _ (gx_12 w h)) tyX12 tyX12_ok nmX12 hown hh hA hK hP hS 0 (by decide) rfl rfl 16 (by decide) (hts _ (List.mem_cons_of_mem _ mw_628)) (fun _ h9 => h9) rfl rfl (by decide +kernel) rfl rfl (Nat.le_of_ble_eq_true rfl) dX12_one_53 (fun f_146 H locs ef_146 hP hS => ?_)
        have hI : sgI loM hiM f_146 := by rw [ef_146]; exact sgI.put hI 0 16 (show 0 ≤ (2 : Int32).toInt ∧ (2 : Int32).toInt ≤ 6 from by decide)
        have hF : sgK WkX12_one_1 f f_146 := sgK.put hF ef_146 (by rfl)
        refine lv_aload_n hx hb dX12_one_56 rfl (lv_at hl 1 rfl) ?_
        refine lv_dup hx hb dX12_one_57 rfl ?_
        refine sg_get (ci := 12) (v := .int v_5) (C := RX12) (T := TX12) (N := 55) hx hb hts (fun w h => List.mem_cons_of_mem _ (gx_12 w h)) hown hK hP 0 (by decide) rfl rfl 13 (by decide) (hts _ (List.mem_cons_of_mem _ mw_625)) (fun _ h9 => h9) (congrArg (fun z => some (Value.int z)) (show f_146 0 13 = v_5 from (by rw [ef_146, sg_up_s, sgu_n (by decide)]; exact ev_5.symm))) dX12_one_58 ?_
        refine lv_iconst (v := 1) hx hb dX12_one_61 (by decide) ?_
        refine lv_iadd hx hb dX12_one_62 ?_
        refine lv_topi (fun v_147 ev_147 => ?_)
        have q_148 : v_147.toInt = v_5.toInt + 1 := by rw [ev_147]; have k1 : (1 : Int32).toInt = 1 := (by decide); exact (bn_addI (by omega) (by omega)).trans (by omega)
        refine sg_put (ci := 12) (x := v_147) (ty := .int) (C := RX12) (T := TX12) (N := 55) hx hb hts (fun w h => List.mem_cons_of_mem _ (gx_12 w h)) tyX12 tyX12_ok nmX12 hown hh hA hK hP hS 0 (by decide) rfl rfl 13 (by decide) (hts _ (List.mem_cons_of_mem _ mw_625)) (fun _ h9 => h9) rfl rfl (by decide +kernel) rfl rfl (Nat.le_of_ble_eq_true rfl) dX12_one_63 (fun f_149 H locs ef_149 hP hS => ?_)
        have hI : sgI loM hiM f_149 := by rw [ef_149]; exact sgI.put hI 0 13 (show 0 ≤ (v_147 : Int32).toInt ∧ (v_147 : Int32).toInt ≤ 120 from by omega)
        have hF : sgK WkX12_one_1 f f_149 := sgK.put hF ef_149 (by rfl)
        refine lv_iload_n hx hb dX12_one_66 rfl (lv_at hl 0 rfl) ?_
        refine lv_bipush (v := 40) hx hb dX12_one_67 (by decide) ?_
        refine lv_icmp_ne (tgt := 79) hx hb dX12_one_69 (by decide) (fun c => ?_) (fun c => ?_)
        · skip
          have c_150 : r_92.toInt ≠ 40 := (by have z := bn_ne c; have k1 : (40 : Int32).toInt = 40 := (by decide); omega)
          refine lv_aload_n hx hb dX12_one_79 rfl (lv_at hl 1 rfl) ?_
          have q_152 : (f_149 0 16).toInt = 2 := (congrArg Int32.toInt (show f_149 0 16 = 2 from (by rw [ef_149, sg_up_s, sgu_n (by decide)]; exact (by rw [ef_146, sg_up_s, sgu_s])))).trans (by decide)
          have q_153 : (f_149 0 15).toInt = v_3.toInt := (congrArg Int32.toInt (show f_149 0 15 = v_3 from (by rw [ef_149, sg_up_s, sgu_n (by decide)]; exact (by rw [ef_146, sg_up_s, sgu_n (by decide)]; exact ev_3.symm))))
          have q_154 : (f_149 0 16).toInt = 2 := (congrArg Int32.toInt (show f_149 0 16 = 2 from (by rw [ef_149, sg_up_s, sgu_n (by decide)]; exact (by rw [ef_146, sg_up_s, sgu_s])))).trans (by decide)
          have q_155 : (f_149 0 13).toInt = v_147.toInt := (congrArg Int32.toInt (show f_149 0 13 = v_147 from (by rw [ef_149, sg_up_s, sgu_s])))
          refine sg_calli (va_runV (As := []) (rest := []) ⟨hx, hb, hml, hown, hts⟩ (kX12_one_2 l D ca za h hh f_149 L Q hI (by omega) (by omega) H.size) (cwV 0 hts (gw_V (fun _ h => List.mem_cons_of_mem _ h) mw_789 mw_790 mw_791 mw_619 mw_788) rfl rfl rfl (by decide +kernel) ⟨Nat.le_of_ble_eq_true rfl, Nat.le_of_ble_eq_true rfl⟩) (sg_preV (ci := 12) (C := RX12) (T := TX12) (N := 55) hA hK hP hS hZ 0 (by decide) rfl rfl) rfl rfl hl.1 rfl (lv_room (Nat.le_of_ble_eq_true rfl)) dX12_one_80 ⟨Nat.le_refl _, Nat.le_refl _⟩) hA hS (fun r_159 f_156 L_157 Q_158 H locs hq hP hS => ?_)
          obtain ⟨⟨hI, hk_f_156, eL9, eQ9⟩, hq, p_160, p_161, p_162⟩ := hq
          rw [eL9, eQ9] at hP; clear eL9 eQ9
          have hF : sgK WkX12_one_1 f f_156 := sgK.tr hF hk_f_156 (by decide)
          obtain ⟨v_163, ev_163⟩ : ∃ z : Int32, z = f_156 0 13 := ⟨_, rfl⟩
          have q_164 : 0 ≤ v_163.toInt ∧ v_163.toInt ≤ 120 := by rw [ev_163]; exact hI 0 13
          have q_165 : (f_156 0 13).toInt = v_163.toInt := (congrArg Int32.toInt (show f_156 0 13 = v_163 from ev_163.symm))
          obtain ⟨v_166, ev_166⟩ : ∃ z : Int32, z = f_156 0 16 := ⟨_, rfl⟩
          have q_167 : 0 ≤ v_166.toInt ∧ v_166.toInt ≤ 6 := by rw [ev_166]; exact hI 0 16
          have q_168 : (f_156 0 16).toInt = v_166.toInt := (congrArg Int32.toInt (show f_156 0 16 = v_166 from ev_166.symm))
          obtain ⟨v_169, ev_169⟩ : ∃ z : Int32, z = f_156 0 15 := ⟨_, rfl⟩
          have q_170 : (-1) ≤ v_169.toInt ∧ v_169.toInt ≤ 120 := by rw [ev_169]; exact hI 0 15
          have q_171 : (f_156 0 15).toInt = v_169.toInt := (congrArg Int32.toInt (show f_156 0 15 = v_169 from ev_169.symm))
          have q_172 : (f_156 0 16).toInt = v_166.toInt := (congrArg Int32.toInt (show f_156 0 16 = v_166 from ev_166.symm))
          refine lv_istore_n (lv' := [(2, .int r_159), (1, .int r_92), (0, .ref (h 0))]) hx hb dX12_one_83 rfl hl (by decide) rfl (fun ls hl => ?_)
          refine lv_iload_n hx hb dX12_one_84 rfl (lv_at hl 1 rfl) ?_
          refine lv_bipush (v := 40) hx hb dX12_one_85 (by decide) ?_
          refine lv_icmp_ne (tgt := 104) hx hb dX12_one_87 (by decide) (fun c => ?_) (fun c => ?_)
          · skip
            have c_173 : r_92.toInt ≠ 40 := (by have z := bn_ne c; have k1 : (40 : Int32).toInt = 40 := (by decide); omega)
            refine lv_aload_n hx hb dX12_one_104 rfl (lv_at hl 2 rfl) ?_
            refine lv_dup hx hb dX12_one_105 rfl ?_
            refine sg_get (ci := 12) (v := .int v_166) (C := RX12) (T := TX12) (N := 55) hx hb hts (fun w h => List.mem_cons_of_mem _ (gx_12 w h)) hown hK hP 0 (by decide) rfl rfl 16 (by decide) (hts _ (List.mem_cons_of_mem _ mw_628)) (fun _ h9 => h9) (congrArg (fun z => some (Value.int z)) (show f_156 0 16 = v_166 from ev_166.symm)) dX12_one_106 ?_
            refine lv_iconst (v := 1) hx hb dX12_one_109 (by decide) ?_
            refine lv_isub hx hb dX12_one_110 ?_
            refine lv_topi (fun v_175 ev_175 => ?_)
            have q_176 : v_175.toInt = v_166.toInt - 1 := by rw [ev_175]; have k1 : (1 : Int32).toInt = 1 := (by decide); exact (bn_subI (by omega) (by omega)).trans (by omega)
            refine sg_put (ci := 12) (x := v_175) (ty := .int) (C := RX12) (T := TX12) (N := 55) hx hb hts (fun w h => List.mem_cons_of_mem _ (gx_12 w h)) tyX12 tyX12_ok nmX12 hown hh hA hK hP hS 0 (by decide) rfl rfl 16 (by decide) (hts _ (List.mem_cons_of_mem _ mw_628)) (fun _ h9 => h9) rfl rfl (by decide +kernel) rfl rfl (Nat.le_of_ble_eq_true rfl) dX12_one_111 (fun f_177 H locs ef_177 hP hS => ?_)
            have hI : sgI loM hiM f_177 := by rw [ef_177]; exact sgI.put hI 0 16 (show 0 ≤ (v_175 : Int32).toInt ∧ (v_175 : Int32).toInt ≤ 6 from by omega)
            have hF : sgK WkX12_one_1 f f_177 := sgK.put hF ef_177 (by rfl)
            refine lv_iload_n hx hb dX12_one_114 rfl (lv_at hl 1 rfl) ?_
            refine lv_bipush (v := 40) hx hb dX12_one_115 (by decide) ?_
            refine lv_icmp_ne (tgt := 124) hx hb dX12_one_117 (by decide) (fun c => ?_) (fun c => ?_)
            · skip
              have c_178 : r_92.toInt ≠ 40 := (by have z := bn_ne c; have k1 : (40 : Int32).toInt = 40 := (by decide); omega)
              refine lv_iload_n hx hb dX12_one_124 rfl (lv_at hl 1 rfl) ?_
              refine lv_bipush (v := 45) hx hb dX12_one_125 (by decide) ?_
              refine lv_icmp_ne (tgt := 135) hx hb dX12_one_127 (by decide) (fun c => ?_) (fun c => ?_)
              · skip
                exfalso; have c_180 : r_92.toInt ≠ 45 := (by have z := bn_ne c; have k1 : (45 : Int32).toInt = 45 := (by decide); omega); omega
              · skip
                have c_181 : r_92.toInt = 45 := (by have z := Int32.toInt_inj.mpr c; have k1 : (45 : Int32).toInt = 45 := (by decide); omega)
                refine lv_iload_n hx hb dX12_one_130 rfl (lv_at hl 0 rfl) ?_
                refine lv_ineg hx hb dX12_one_131 ?_
                refine lv_topi (fun v_182 ev_182 => ?_)
                refine lv_goto (tgt := 144) hx hb dX12_one_132 (by decide) ?_
                have q_183 : (f_177 0 13).toInt = v_163.toInt := (congrArg Int32.toInt (show f_177 0 13 = v_163 from (by rw [ef_177, sg_up_s, sgu_n (by decide)]; exact ev_163.symm)))
                have q_184 : (f_177 0 16).toInt = v_175.toInt := (congrArg Int32.toInt (show f_177 0 16 = v_175 from (by rw [ef_177, sg_up_s, sgu_s])))
                have q_185 : (f_177 0 15).toInt = v_169.toInt := (congrArg Int32.toInt (show f_177 0 15 = v_169 from (by rw [ef_177, sg_up_s, sgu_n (by decide)]; exact ev_169.symm)))
                have q_186 : (f_177 0 16).toInt = v_175.toInt := (congrArg Int32.toInt (show f_177 0 16 = v_175 from (by rw [ef_177, sg_up_s, sgu_s])))
                exact hret _ _ _ _ (v_182) f_177 L Q dX12_one_144 hP hS ⟨⟨hI, hF, rfl, rfl⟩, trivial, (by omega), (by omega), (by omega)⟩
            · skip
              exfalso; have c_179 : r_92.toInt = 40 := (by have z := Int32.toInt_inj.mpr c; have k1 : (40 : Int32).toInt = 40 := (by decide); omega); omega
          · skip
            exfalso; have c_174 : r_92.toInt = 40 := (by have z := Int32.toInt_inj.mpr c; have k1 : (40 : Int32).toInt = 40 := (by decide); omega); omega
        · skip
          exfalso; have c_151 : r_92.toInt = 40 := (by have z := Int32.toInt_inj.mpr c; have k1 : (40 : Int32).toInt = 40 := (by decide); omega); omega
      · skip
        have c_144 : r_92.toInt ≠ 45 := (by have z := bn_ne c; have k1 : (45 : Int32).toInt = 45 := (by decide); omega)
        refine lv_iload_n hx hb dX12_one_26 rfl (lv_at hl 0 rfl) ?_
        refine lv_bipush (v := 40) hx hb dX12_one_27 (by decide) ?_
        refine lv_icmp_ne (tgt := 145) hx hb dX12_one_29 (by decide) (fun c => ?_) (fun c => ?_)
        · skip
          have c_187 : r_92.toInt ≠ 40 := (by have z := bn_ne c; have k1 : (40 : Int32).toInt = 40 := (by decide); omega)
          refine lv_iload_n hx hb dX12_one_145 rfl (lv_at hl 0 rfl) ?_
          refine sg_calli (va_runS (As := [.int r_92]) (rest := []) ⟨hx, hb, hml, hown, hts⟩ (kX12_nameOf l D ca za h hh f L Q hI r_92 (by omega) H.size) (va_cwS 1 hts (gw_S (fun _ h => List.mem_cons_of_mem _ h) mw_869 mw_870 mw_619 mw_868) rfl rfl rfl (by decide +kernel) ⟨Nat.le_of_ble_eq_true rfl, Nat.le_of_ble_eq_true rfl⟩) (sg_preS hA hK hP hS hZ) rfl rfl hl.1 rfl (lv_room (Nat.le_of_ble_eq_true rfl)) dX12_one_146 ⟨Nat.le_refl _, Nat.le_refl _⟩) hA hS (fun r_192 f_189 L_190 Q_191 H locs hq hP hS => ?_)
          obtain ⟨⟨ef9, eL9, eQ9⟩, hq, p_193⟩ := hq
          rw [ef9, eL9, eQ9] at hP; clear ef9 eL9 eQ9
          refine lv_istore_n (lv' := [(2, .int r_192), (1, .int r_92), (0, .ref (h 0))]) hx hb dX12_one_149 rfl hl (by decide) rfl (fun ls hl => ?_)
          refine lv_iload_n hx hb dX12_one_150 rfl (lv_at hl 0 rfl) ?_
          refine lv_if_lt (tgt := 171) hx hb dX12_one_151 (by decide) (fun c => ?_) (fun c => ?_)
          · skip
            have c_194 : r_192.toInt < 0 := (by have z := bn_lt c; have k1 : (0 : Int32).toInt = 0 := (by decide); omega)
            refine lv_iconst (v := 0) hx hb dX12_one_171 (by decide) ?_
            refine lv_istore_n (lv' := [(3, .int 0), (2, .int r_192), (1, .int r_92), (0, .ref (h 0))]) hx hb dX12_one_172 rfl hl (by decide) rfl (fun ls hl => ?_)
            refine lv_iconst (v := 0) hx hb dX12_one_173 (by decide) ?_
            refine lv_istore (lv' := [(4, .int 0), (3, .int 0), (2, .int r_192), (1, .int r_92), (0, .ref (h 0))]) hx hb dX12_one_174 hl (by decide) rfl (fun ls hl => ?_)
            exact loop_176 5 0 0 f _ _ _ (by have kc0 : (0 : Int32).toInt = 0 := (by decide); have kc1 : (0 : Int32).toInt = 0 := (by decide); omega) (by have zz0_15 : (f 0 15).toInt = v_3.toInt := (congrArg Int32.toInt (show f 0 15 = v_3 from ev_3.symm)); omega) (by decide) (by have kc0 : (0 : Int32).toInt = 0 := (by decide); have kc1 : (0 : Int32).toInt = 0 := (by decide); have zz0_13 : (f 0 13).toInt = v_5.toInt := (congrArg Int32.toInt (show f 0 13 = v_5 from ev_5.symm)); omega) (by have kc0 : (0 : Int32).toInt = 0 := (by decide); have kc1 : (0 : Int32).toInt = 0 := (by decide); have zz0_16 : (f 0 16).toInt = v_1.toInt := (congrArg Int32.toInt (show f 0 16 = v_1 from ev_1.symm)); omega) (by have kc0 : (0 : Int32).toInt = 0 := (by decide); have kc1 : (0 : Int32).toInt = 0 := (by decide); have zz0_15 : (f 0 15).toInt = v_3.toInt := (congrArg Int32.toInt (show f 0 15 = v_3 from ev_3.symm)); have zz0_16 : (f 0 16).toInt = v_1.toInt := (congrArg Int32.toInt (show f 0 16 = v_1 from ev_1.symm)); omega) hI hF hP hS (lv_sub hl [4, 1, 0] rfl)
          · skip
            have c_195 : 0 ≤ r_192.toInt := (by have z := bn_nlt c; have k1 : (0 : Int32).toInt = 0 := (by decide); omega)
            refine lv_aload_n hx hb dX12_one_154 rfl (lv_at hl 2 rfl) ?_
            refine lv_dup hx hb dX12_one_155 rfl ?_
            refine sg_get (ci := 12) (v := .int v_5) (C := RX12) (T := TX12) (N := 55) hx hb hts (fun w h => List.mem_cons_of_mem _ (gx_12 w h)) hown hK hP 0 (by decide) rfl rfl 13 (by decide) (hts _ (List.mem_cons_of_mem _ mw_625)) (fun _ h9 => h9) (congrArg (fun z => some (Value.int z)) (show f 0 13 = v_5 from ev_5.symm)) dX12_one_156 ?_
            refine lv_iconst (v := 1) hx hb dX12_one_159 (by decide) ?_
            refine lv_iadd hx hb dX12_one_160 ?_
            refine lv_topi (fun v_196 ev_196 => ?_)
            have q_197 : v_196.toInt = v_5.toInt + 1 := by rw [ev_196]; have k1 : (1 : Int32).toInt = 1 := (by decide); exact (bn_addI (by omega) (by omega)).trans (by omega)
            refine sg_put (ci := 12) (x := v_196) (ty := .int) (C := RX12) (T := TX12) (N := 55) hx hb hts (fun w h => List.mem_cons_of_mem _ (gx_12 w h)) tyX12 tyX12_ok nmX12 hown hh hA hK hP hS 0 (by decide) rfl rfl 13 (by decide) (hts _ (List.mem_cons_of_mem _ mw_625)) (fun _ h9 => h9) rfl rfl (by decide +kernel) rfl rfl (Nat.le_of_ble_eq_true rfl) dX12_one_161 (fun f_198 H locs ef_198 hP hS => ?_)
            have hI : sgI loM hiM f_198 := by rw [ef_198]; exact sgI.put hI 0 13 (show 0 ≤ (v_196 : Int32).toInt ∧ (v_196 : Int32).toInt ≤ 120 from by omega)
            have hF : sgK WkX12_one_1 f f_198 := sgK.put hF ef_198 (by rfl)
            refine lv_aload_n hx hb dX12_one_164 rfl (lv_at hl 2 rfl) ?_
            refine sg_get (ci := 12) (v := .ref (h 8)) (C := RX12) (T := TX12) (N := 55) hx hb hts (fun w h => List.mem_cons_of_mem _ (gx_12 w h)) hown hK hP 0 (by decide) rfl rfl 17 (by decide) (hts _ (List.mem_cons_of_mem _ mw_871)) (fun _ h9 => h9) rfl dX12_one_165 ?_
            refine lv_iload_n hx hb dX12_one_168 rfl (lv_at hl 0 rfl) ?_
            refine sg_iald hx hb hK hP 8 (by decide) 0 rfl rfl (i := r_192) (vp_in_iff.mpr ⟨by omega, by omega⟩) dX12_one_169 ?_
            refine lv_topi (fun v_199 ev_199 => ?_)
            have q_200 : 0 ≤ v_199.toInt ∧ v_199.toInt ≤ 60 := by rw [ev_199]; exact hI 8 _
            have q_201 : (f_198 0 13).toInt = v_196.toInt := (congrArg Int32.toInt (show f_198 0 13 = v_196 from (by rw [ef_198, sg_up_s, sgu_s])))
            have q_202 : (f_198 0 16).toInt = v_1.toInt := (congrArg Int32.toInt (show f_198 0 16 = v_1 from (by rw [ef_198, sg_up_s, sgu_n (by decide)]; exact ev_1.symm)))
            have q_203 : (f_198 0 15).toInt = v_3.toInt := (congrArg Int32.toInt (show f_198 0 15 = v_3 from (by rw [ef_198, sg_up_s, sgu_n (by decide)]; exact ev_3.symm)))
            have q_204 : (f_198 0 16).toInt = v_1.toInt := (congrArg Int32.toInt (show f_198 0 16 = v_1 from (by rw [ef_198, sg_up_s, sgu_n (by decide)]; exact ev_1.symm)))
            exact hret _ _ _ _ (v_199) f_198 L Q dX12_one_170 hP hS ⟨⟨hI, hF, rfl, rfl⟩, trivial, (by omega), (by omega), (by omega)⟩
        · skip
          have c_188 : r_92.toInt = 40 := (by have z := Int32.toInt_inj.mpr c; have k1 : (40 : Int32).toInt = 40 := (by decide); omega)
          refine lv_aload_n hx hb dX12_one_32 rfl (lv_at hl 1 rfl) ?_
          have c_205 : v_1 = 1 := Int32.toInt_inj.mp (by have k9 : (1 : Int32).toInt = 1 := (by decide); omega)
          refine sg_get (ci := 12) (v := .int 1) (C := RX12) (T := TX12) (N := 55) hx hb hts (fun w h => List.mem_cons_of_mem _ (gx_12 w h)) hown hK hP 0 (by decide) rfl rfl 16 (by decide) (hts _ (List.mem_cons_of_mem _ mw_628)) (fun _ h9 => h9) (congrArg (fun z => some (Value.int z)) (show f 0 16 = 1 from (Eq.trans ev_1.symm c_205))) dX12_one_33 ?_
          refine lv_bipush (v := 6) hx hb dX12_one_36 (by decide) ?_
          refine lv_icmp_ne (tgt := 46) hx hb dX12_one_38 (by decide) (fun c => ?_) (fun c => absurd c (by decide))
          refine lv_aload_n hx hb dX12_one_46 rfl (lv_at hl 1 rfl) ?_
          refine lv_dup hx hb dX12_one_47 rfl ?_
          refine sg_get (ci := 12) (v := .int 1) (C := RX12) (T := TX12) (N := 55) hx hb hts (fun w h => List.mem_cons_of_mem _ (gx_12 w h)) hown hK hP 0 (by decide) rfl rfl 16 (by decide) (hts _ (List.mem_cons_of_mem _ mw_628)) (fun _ h9 => h9) (congrArg (fun z => some (Value.int z)) (show f 0 16 = 1 from (Eq.trans ev_1.symm c_205))) dX12_one_48 ?_
          refine lv_iconst (v := 1) hx hb dX12_one_51 (by decide) ?_
          refine lv_iadd hx hb dX12_one_52 ?_
          refine W.eq (g2 := F0 m 53 ls [.int 2, .ref (h 0)]) (by rw [show (1 + 1 : Int32) = 2 from by decide]) ?_
          refine sg_put (ci := 12) (x := 2) (ty := .int) (C := RX12) (T := TX12) (N := 55) hx hb hts (fun w h => List.mem_cons_of_mem _ (gx_12 w h)) tyX12 tyX12_ok nmX12 hown hh hA hK hP hS 0 (by decide) rfl rfl 16 (by decide) (hts _ (List.mem_cons_of_mem _ mw_628)) (fun _ h9 => h9) rfl rfl (by decide +kernel) rfl rfl (Nat.le_of_ble_eq_true rfl) dX12_one_53 (fun f_206 H locs ef_206 hP hS => ?_)
          have hI : sgI loM hiM f_206 := by rw [ef_206]; exact sgI.put hI 0 16 (show 0 ≤ (2 : Int32).toInt ∧ (2 : Int32).toInt ≤ 6 from by decide)
          have hF : sgK WkX12_one_1 f f_206 := sgK.put hF ef_206 (by rfl)
          refine lv_aload_n hx hb dX12_one_56 rfl (lv_at hl 1 rfl) ?_
          refine lv_dup hx hb dX12_one_57 rfl ?_
          refine sg_get (ci := 12) (v := .int v_5) (C := RX12) (T := TX12) (N := 55) hx hb hts (fun w h => List.mem_cons_of_mem _ (gx_12 w h)) hown hK hP 0 (by decide) rfl rfl 13 (by decide) (hts _ (List.mem_cons_of_mem _ mw_625)) (fun _ h9 => h9) (congrArg (fun z => some (Value.int z)) (show f_206 0 13 = v_5 from (by rw [ef_206, sg_up_s, sgu_n (by decide)]; exact ev_5.symm))) dX12_one_58 ?_
          refine lv_iconst (v := 1) hx hb dX12_one_61 (by decide) ?_
          refine lv_iadd hx hb dX12_one_62 ?_
          refine lv_topi (fun v_207 ev_207 => ?_)
          have q_208 : v_207.toInt = v_5.toInt + 1 := by rw [ev_207]; have k1 : (1 : Int32).toInt = 1 := (by decide); exact (bn_addI (by omega) (by omega)).trans (by omega)
          refine sg_put (ci := 12) (x := v_207) (ty := .int) (C := RX12) (T := TX12) (N := 55) hx hb hts (fun w h => List.mem_cons_of_mem _ (gx_12 w h)) tyX12 tyX12_ok nmX12 hown hh hA hK hP hS 0 (by decide) rfl rfl 13 (by decide) (hts _ (List.mem_cons_of_mem _ mw_625)) (fun _ h9 => h9) rfl rfl (by decide +kernel) rfl rfl (Nat.le_of_ble_eq_true rfl) dX12_one_63 (fun f_209 H locs ef_209 hP hS => ?_)
          have hI : sgI loM hiM f_209 := by rw [ef_209]; exact sgI.put hI 0 13 (show 0 ≤ (v_207 : Int32).toInt ∧ (v_207 : Int32).toInt ≤ 120 from by omega)
          have hF : sgK WkX12_one_1 f f_209 := sgK.put hF ef_209 (by rfl)
          refine lv_iload_n hx hb dX12_one_66 rfl (lv_at hl 0 rfl) ?_
          refine lv_bipush (v := 40) hx hb dX12_one_67 (by decide) ?_
          refine lv_icmp_ne (tgt := 79) hx hb dX12_one_69 (by decide) (fun c => ?_) (fun c => ?_)
          · skip
            exfalso; have c_210 : r_92.toInt ≠ 40 := (by have z := bn_ne c; have k1 : (40 : Int32).toInt = 40 := (by decide); omega); omega
          · skip
            have c_211 : r_92.toInt = 40 := (by have z := Int32.toInt_inj.mpr c; have k1 : (40 : Int32).toInt = 40 := (by decide); omega)
            refine lv_aload_n hx hb dX12_one_72 rfl (lv_at hl 1 rfl) ?_
            have q_212 : (f_209 0 16).toInt = 2 := (congrArg Int32.toInt (show f_209 0 16 = 2 from (by rw [ef_209, sg_up_s, sgu_n (by decide)]; exact (by rw [ef_206, sg_up_s, sgu_s])))).trans (by decide)
            have q_213 : (f_209 0 15).toInt = v_3.toInt := (congrArg Int32.toInt (show f_209 0 15 = v_3 from (by rw [ef_209, sg_up_s, sgu_n (by decide)]; exact (by rw [ef_206, sg_up_s, sgu_n (by decide)]; exact ev_3.symm))))
            have q_214 : (f_209 0 16).toInt = 2 := (congrArg Int32.toInt (show f_209 0 16 = 2 from (by rw [ef_209, sg_up_s, sgu_n (by decide)]; exact (by rw [ef_206, sg_up_s, sgu_s])))).trans (by decide)
            have q_215 : (f_209 0 13).toInt = v_207.toInt := (congrArg Int32.toInt (show f_209 0 13 = v_207 from (by rw [ef_209, sg_up_s, sgu_s])))
            refine sg_calli (va_runV (As := []) (rest := []) ⟨hx, hb, hml, hown, hts⟩ (kX12_either_2 l D ca za h hh f_209 L Q hI (by omega) (by omega) H.size) (cwV 0 hts (gw_V (fun _ h => List.mem_cons_of_mem _ h) mw_893 mw_894 mw_895 mw_619 mw_892) rfl rfl rfl (by decide +kernel) ⟨Nat.le_of_ble_eq_true rfl, Nat.le_of_ble_eq_true rfl⟩) (sg_preV (ci := 12) (C := RX12) (T := TX12) (N := 55) hA hK hP hS hZ 0 (by decide) rfl rfl) rfl rfl hl.1 rfl (lv_room (Nat.le_of_ble_eq_true rfl)) dX12_one_73 ⟨Nat.le_refl _, Nat.le_refl _⟩) hA hS (fun r_219 f_216 L_217 Q_218 H locs hq hP hS => ?_)
            obtain ⟨⟨hI, hk_f_216, eL9, eQ9⟩, hq, p_220, p_221, p_222⟩ := hq
            rw [eL9, eQ9] at hP; clear eL9 eQ9
            have hF : sgK WkX12_one_1 f f_216 := sgK.tr hF hk_f_216 (by decide)
            obtain ⟨v_223, ev_223⟩ : ∃ z : Int32, z = f_216 0 13 := ⟨_, rfl⟩
            have q_224 : 0 ≤ v_223.toInt ∧ v_223.toInt ≤ 120 := by rw [ev_223]; exact hI 0 13
            have q_225 : (f_216 0 13).toInt = v_223.toInt := (congrArg Int32.toInt (show f_216 0 13 = v_223 from ev_223.symm))
            obtain ⟨v_226, ev_226⟩ : ∃ z : Int32, z = f_216 0 16 := ⟨_, rfl⟩
            have q_227 : 0 ≤ v_226.toInt ∧ v_226.toInt ≤ 6 := by rw [ev_226]; exact hI 0 16
            have q_228 : (f_216 0 16).toInt = v_226.toInt := (congrArg Int32.toInt (show f_216 0 16 = v_226 from ev_226.symm))
            obtain ⟨v_229, ev_229⟩ : ∃ z : Int32, z = f_216 0 15 := ⟨_, rfl⟩
            have q_230 : (-1) ≤ v_229.toInt ∧ v_229.toInt ≤ 120 := by rw [ev_229]; exact hI 0 15
            have q_231 : (f_216 0 15).toInt = v_229.toInt := (congrArg Int32.toInt (show f_216 0 15 = v_229 from ev_229.symm))
            have q_232 : (f_216 0 16).toInt = v_226.toInt := (congrArg Int32.toInt (show f_216 0 16 = v_226 from ev_226.symm))
            refine lv_goto (tgt := 83) hx hb dX12_one_76 (by decide) ?_
            refine lv_istore_n (lv' := [(2, .int r_219), (1, .int r_92), (0, .ref (h 0))]) hx hb dX12_one_83 rfl hl (by decide) rfl (fun ls hl => ?_)
            refine lv_iload_n hx hb dX12_one_84 rfl (lv_at hl 1 rfl) ?_
            refine lv_bipush (v := 40) hx hb dX12_one_85 (by decide) ?_
            refine lv_icmp_ne (tgt := 104) hx hb dX12_one_87 (by decide) (fun c => ?_) (fun c => ?_)
            · skip
              exfalso; have c_233 : r_92.toInt ≠ 40 := (by have z := bn_ne c; have k1 : (40 : Int32).toInt = 40 := (by decide); omega); omega
            · skip
              have c_234 : r_92.toInt = 40 := (by have z := Int32.toInt_inj.mpr c; have k1 : (40 : Int32).toInt = 40 := (by decide); omega)
              refine lv_aload_n hx hb dX12_one_90 rfl (lv_at hl 2 rfl) ?_
              refine lv_bipush (v := 41) hx hb dX12_one_91 (by decide) ?_
              have q_235 : (f_216 0 15).toInt = v_229.toInt := (congrArg Int32.toInt (show f_216 0 15 = v_229 from ev_229.symm))
              have q_236 : (f_216 0 13).toInt = v_223.toInt := (congrArg Int32.toInt (show f_216 0 13 = v_223 from ev_223.symm))
              have q_237 : (f_216 0 14).toInt = v_86.toInt := (congrArg Int32.toInt (show f_216 0 14 = v_86 from ((hk_f_216 0 14 (by decide)).trans (by rw [ef_209, sg_up_s, sgu_n (by decide)]; exact (by rw [ef_206, sg_up_s, sgu_n (by decide)]; exact ev_86.symm)))))
              have q_238 : (f_216 0 13).toInt = v_223.toInt := (congrArg Int32.toInt (show f_216 0 13 = v_223 from ev_223.symm))
              have q_239 : (f_216 0 13).toInt = v_223.toInt := (congrArg Int32.toInt (show f_216 0 13 = v_223 from ev_223.symm))
              refine sg_calli (va_runV (As := [.int 41]) (rest := []) ⟨hx, hb, hml, hown, hts⟩ (kX12_takes_41 l D ca za h hh f_216 L Q hI H.size) (cwV 1 hts (gw_V (fun _ h => List.mem_cons_of_mem _ h) mw_877 mw_878 mw_879 mw_619 mw_876) rfl rfl rfl (by decide +kernel) ⟨Nat.le_of_ble_eq_true rfl, Nat.le_of_ble_eq_true rfl⟩) (sg_preV (ci := 12) (C := RX12) (T := TX12) (N := 55) hA hK hP hS hZ 0 (by decide) rfl rfl) rfl rfl hl.1 rfl (lv_room (Nat.le_of_ble_eq_true rfl)) dX12_one_93 ⟨Nat.le_refl _, Nat.le_refl _⟩) hA hS (fun r_243 f_240 L_241 Q_242 H locs hq hP hS => ?_)
              obtain ⟨⟨hI, hk_f_240, eL9, eQ9⟩, hq⟩ := hq
              rw [eL9, eQ9] at hP; clear eL9 eQ9
              have hF : sgK WkX12_one_1 f f_240 := sgK.tr hF hk_f_240 (by decide)
              obtain ⟨v_244, ev_244⟩ : ∃ z : Int32, z = f_240 0 13 := ⟨_, rfl⟩
              have q_245 : 0 ≤ v_244.toInt ∧ v_244.toInt ≤ 120 := by rw [ev_244]; exact hI 0 13
              have q_246 : (f_240 0 13).toInt = v_244.toInt := (congrArg Int32.toInt (show f_240 0 13 = v_244 from ev_244.symm))
              have q_247 : (f_240 0 13).toInt = v_244.toInt := (congrArg Int32.toInt (show f_240 0 13 = v_244 from ev_244.symm))
              have k_248 : (41 : Int32).toInt = 41 := by decide
              rcases hq with ⟨rfl, hq⟩ | ⟨rfl, hq⟩
              · skip
                have q_249 := hq
                refine lv_if_ne (tgt := 104) hx hb dX12_one_96 (by decide) (fun c => ?_) (fun c => absurd c (by decide))
                refine lv_aload_n hx hb dX12_one_104 rfl (lv_at hl 2 rfl) ?_
                refine lv_dup hx hb dX12_one_105 rfl ?_
                refine sg_get (ci := 12) (v := .int v_226) (C := RX12) (T := TX12) (N := 55) hx hb hts (fun w h => List.mem_cons_of_mem _ (gx_12 w h)) hown hK hP 0 (by decide) rfl rfl 16 (by decide) (hts _ (List.mem_cons_of_mem _ mw_628)) (fun _ h9 => h9) (congrArg (fun z => some (Value.int z)) (show f_240 0 16 = v_226 from ((hk_f_240 0 16 (by decide)).trans ev_226.symm))) dX12_one_106 ?_
                refine lv_iconst (v := 1) hx hb dX12_one_109 (by decide) ?_
                refine lv_isub hx hb dX12_one_110 ?_
                refine lv_topi (fun v_250 ev_250 => ?_)
                have q_251 : v_250.toInt = v_226.toInt - 1 := by rw [ev_250]; have k1 : (1 : Int32).toInt = 1 := (by decide); exact (bn_subI (by omega) (by omega)).trans (by omega)
                refine sg_put (ci := 12) (x := v_250) (ty := .int) (C := RX12) (T := TX12) (N := 55) hx hb hts (fun w h => List.mem_cons_of_mem _ (gx_12 w h)) tyX12 tyX12_ok nmX12 hown hh hA hK hP hS 0 (by decide) rfl rfl 16 (by decide) (hts _ (List.mem_cons_of_mem _ mw_628)) (fun _ h9 => h9) rfl rfl (by decide +kernel) rfl rfl (Nat.le_of_ble_eq_true rfl) dX12_one_111 (fun f_252 H locs ef_252 hP hS => ?_)
                have hI : sgI loM hiM f_252 := by rw [ef_252]; exact sgI.put hI 0 16 (show 0 ≤ (v_250 : Int32).toInt ∧ (v_250 : Int32).toInt ≤ 6 from by omega)
                have hF : sgK WkX12_one_1 f f_252 := sgK.put hF ef_252 (by rfl)
                refine lv_iload_n hx hb dX12_one_114 rfl (lv_at hl 1 rfl) ?_
                refine lv_bipush (v := 40) hx hb dX12_one_115 (by decide) ?_
                refine lv_icmp_ne (tgt := 124) hx hb dX12_one_117 (by decide) (fun c => ?_) (fun c => ?_)
                · skip
                  exfalso; have c_253 : r_92.toInt ≠ 40 := (by have z := bn_ne c; have k1 : (40 : Int32).toInt = 40 := (by decide); omega); omega
                · skip
                  have c_254 : r_92.toInt = 40 := (by have z := Int32.toInt_inj.mpr c; have k1 : (40 : Int32).toInt = 40 := (by decide); omega)
                  refine lv_iload_n hx hb dX12_one_120 rfl (lv_at hl 0 rfl) ?_
                  refine lv_goto (tgt := 144) hx hb dX12_one_121 (by decide) ?_
                  have q_255 : (f_252 0 13).toInt = v_244.toInt := (congrArg Int32.toInt (show f_252 0 13 = v_244 from (by rw [ef_252, sg_up_s, sgu_n (by decide)]; exact ev_244.symm)))
                  have q_256 : (f_252 0 16).toInt = v_250.toInt := (congrArg Int32.toInt (show f_252 0 16 = v_250 from (by rw [ef_252, sg_up_s, sgu_s])))
                  have q_257 : (f_252 0 15).toInt = v_229.toInt := (congrArg Int32.toInt (show f_252 0 15 = v_229 from (by rw [ef_252, sg_up_s, sgu_n (by decide)]; exact ((hk_f_240 0 15 (by decide)).trans ev_229.symm))))
                  have q_258 : (f_252 0 16).toInt = v_250.toInt := (congrArg Int32.toInt (show f_252 0 16 = v_250 from (by rw [ef_252, sg_up_s, sgu_s])))
                  exact hret _ _ _ _ (r_219) f_252 L Q dX12_one_144 hP hS ⟨⟨hI, hF, rfl, rfl⟩, trivial, (by omega), (by omega), (by omega)⟩
              · skip
                have q_259 := hq
                refine lv_if_ne (tgt := 104) hx hb dX12_one_96 (by decide) (fun c => absurd c (by decide)) (fun c => ?_)
                refine lv_aload_n hx hb dX12_one_99 rfl (lv_at hl 2 rfl) ?_
                refine sg_calli (va_runV (As := []) (rest := []) ⟨hx, hb, hml, hown, hts⟩ (kX12_wrong l D ca za h hh f_240 L Q hI H.size) (cwV 0 hts (gw_V (fun _ h => List.mem_cons_of_mem _ h) mw_889 mw_890 mw_891 mw_619 mw_888) rfl rfl rfl (by decide +kernel) ⟨Nat.le_of_ble_eq_true rfl, Nat.le_of_ble_eq_true rfl⟩) (sg_preV (ci := 12) (C := RX12) (T := TX12) (N := 55) hA hK hP hS hZ 0 (by decide) rfl rfl) rfl rfl hl.1 rfl (lv_room (Nat.le_of_ble_eq_true rfl)) dX12_one_100 ⟨Nat.le_refl _, Nat.le_refl _⟩) hA hS (fun r_263 f_260 L_261 Q_262 H locs hq hP hS => ?_)
                obtain ⟨⟨hI, hk_f_260, eL9, eQ9⟩, hq, p_264⟩ := hq
                rw [eL9, eQ9] at hP; clear eL9 eQ9
                have hF : sgK WkX12_one_1 f f_260 := sgK.tr hF hk_f_260 (by decide)
                obtain ⟨v_265, ev_265⟩ : ∃ z : Int32, z = f_260 0 15 := ⟨_, rfl⟩
                have q_266 : (-1) ≤ v_265.toInt ∧ v_265.toInt ≤ 120 := by rw [ev_265]; exact hI 0 15
                have q_267 : (f_260 0 15).toInt = v_265.toInt := (congrArg Int32.toInt (show f_260 0 15 = v_265 from ev_265.symm))
                obtain rfl : r_263 = 0 := Int32.toInt_inj.mp (by have k9 : (0 : Int32).toInt = 0 := (by decide); omega)
                have q_268 : (f_260 0 13).toInt = v_244.toInt := (congrArg Int32.toInt (show f_260 0 13 = v_244 from ((hk_f_260 0 13 (by decide)).trans ev_244.symm)))
                have q_269 : (f_260 0 16).toInt = v_226.toInt := (congrArg Int32.toInt (show f_260 0 16 = v_226 from ((hk_f_260 0 16 (by decide)).trans ((hk_f_240 0 16 (by decide)).trans ev_226.symm))))
                have q_270 : (f_260 0 15).toInt = v_265.toInt := (congrArg Int32.toInt (show f_260 0 15 = v_265 from ev_265.symm))
                have q_271 : (f_260 0 16).toInt = v_226.toInt := (congrArg Int32.toInt (show f_260 0 16 = v_226 from ((hk_f_260 0 16 (by decide)).trans ((hk_f_240 0 16 (by decide)).trans ev_226.symm))))
                have k99 : (0 : Int32).toInt = 0 := (by decide)
                exact hret _ _ _ _ (0) f_260 L Q dX12_one_103 hP hS ⟨⟨hI, hF, rfl, rfl⟩, trivial, (by omega), (by omega), (by omega)⟩
  · skip
    have c_84 : 0 ≤ v_3.toInt := (by have z := bn_nlt c; have k1 : (0 : Int32).toInt = 0 := (by decide); omega)
    refine lv_iconst (v := 0) hx hb dX12_one_7 (by decide) ?_
    have q_272 : (f 0 13).toInt = v_5.toInt := (congrArg Int32.toInt (show f 0 13 = v_5 from ev_5.symm))
    have q_273 : (f 0 16).toInt = v_1.toInt := (congrArg Int32.toInt (show f 0 16 = v_1 from ev_1.symm))
    have q_274 : (f 0 15).toInt = v_3.toInt := (congrArg Int32.toInt (show f 0 15 = v_3 from ev_3.symm))
    have q_275 : (f 0 16).toInt = v_1.toInt := (congrArg Int32.toInt (show f 0 16 = v_1 from ev_1.symm))
    have k99 : (0 : Int32).toInt = 0 := (by decide)
    exact hret _ _ _ _ (0) f L Q dX12_one_8 hP hS ⟨⟨hI, hF, rfl, rfl⟩, trivial, (by omega), (by omega), (by omega)⟩

abbrev WkX12_product_1 : List (Nat × Nat × Option Nat) := [(0, 0, some 13), (0, 0, some 15), (0, 0, some 16)]
set_option maxHeartbeats 4000000 in
set_option maxRecDepth 100000 in
theorem kX12_product_1 (l : Launch) (D : va_G) (ca : Nat → ClassId) (za h : Nat → Nat) (hh : sgH 26 h) (f : sg_F) (L : sg_L) (Q : sg_Q) (hI : sgI loM hiM f) (p0 : 1 ≤ (f 0 16).toInt) (p1 : 0 ≤ (f 0 15).toInt ∨ (f 0 16).toInt = 1) (sz : Nat) : Met l yX12_product gwX12_product { frames := 32, cells := 0, slots := 0, locals := 729 } (sgP D vwCl (tyX ca) 26 h (eM ca h) zcM za f L Q sz [.ref (h 0)]) (sgQi D vwCl 26 h (eM ca h) sz (fun r f1 L1 Q1 => ((sgI loM hiM f1 ∧ sgK WkX12_product_1 f f1 ∧ L1 = L ∧ Q1 = Q) ∧ True ∧ ((f 0 13).toInt ≤ (f1 0 13).toInt) ∧ (1 ≤ (f1 0 16).toInt) ∧ (0 ≤ (f1 0 15).toInt ∨ (f1 0 16).toInt = 1)))) 0 0 (sgA 26 h sz) := by
  refine sg_ofWi (cc := cX12_product) (maxL := 4) RX12 (by decide) rfl rfl (Nat.le_of_ble_eq_true rfl) ?_
  intro p e s m below meth cd Qz ls hx hb hml hown hts hK hZ hP hS hl hret
  have hA := sgY.self (n := 26) (h := h) (sz := s.heap.size)
  have hl : lv_has ls 4 [(0, .ref (h 0))] := hl
  obtain ⟨H, hH⟩ : ∃ z : Heap, z = s.heap := ⟨_, rfl⟩
  obtain ⟨locs, hlo⟩ : ∃ z : List Loc, z = [] := ⟨_, rfl⟩
  have hP : va_P D vwCl (sgw 26 h (eM ca h) f L Q) H := by rw [hH]; exact hP
  have hS : va_S (sgA 26 h s.heap.size) s.heap H locs := by rw [hH, hlo]; exact hS
  suffices hgo : W p l e ({ frames := 32, cells := 0, slots := 0, locals := 729 }) s m ([.ref (h 0)] : List Value).toArray below meth cd H locs 0 0 Qz (F0 m 0 ls []) by rw [hH, hlo] at hgo; exact hgo
  clear hH hlo
  obtain ⟨v_1, ev_1⟩ : ∃ z : Int32, z = f 0 16 := ⟨_, rfl⟩
  have q_2 : 0 ≤ v_1.toInt ∧ v_1.toInt ≤ 6 := by rw [ev_1]; exact hI 0 16
  obtain ⟨v_3, ev_3⟩ : ∃ z : Int32, z = f 0 15 := ⟨_, rfl⟩
  have q_4 : (-1) ≤ v_3.toInt ∧ v_3.toInt ≤ 120 := by rw [ev_3]; exact hI 0 15
  obtain ⟨v_5, ev_5⟩ : ∃ z : Int32, z = f 0 13 := ⟨_, rfl⟩
  have q_6 : 0 ≤ v_5.toInt ∧ v_5.toInt ≤ 120 := by rw [ev_5]; exact hI 0 13
  obtain ⟨v_7, ev_7⟩ : ∃ z : Int32, z = f 0 14 := ⟨_, rfl⟩
  have q_8 : 0 ≤ v_7.toInt ∧ v_7.toInt ≤ 120 := by rw [ev_7]; exact hI 0 14
  have o_9 : (f 0 16).toInt = v_1.toInt := (congrArg Int32.toInt (show f 0 16 = v_1 from ev_1.symm))
  have o_10 : (f 0 15).toInt = v_3.toInt := (congrArg Int32.toInt (show f 0 15 = v_3 from ev_3.symm))
  have o_11 : (f 0 13).toInt = v_5.toInt := (congrArg Int32.toInt (show f 0 13 = v_5 from ev_5.symm))
  have o_12 : (f 0 14).toInt = v_7.toInt := (congrArg Int32.toInt (show f 0 14 = v_7 from ev_7.symm))
  have hF : sgK WkX12_product_1 f f := sgK.rf
  have loop_10 : ∀ (n_10 : Nat) (y1_10 : Int32) (y2_10 : Int32) (fp_10 : sg_F) (H : Heap) (locs : List Loc) (ls : Array Slot), 120 - (fp_10 0 13).toInt < (n_10 : Int) → 0 ≤ y2_10.toInt ∧ y2_10.toInt ≤ 255 → (f 0 13).toInt ≤ (fp_10 0 13).toInt → 1 ≤ (fp_10 0 16).toInt → 0 ≤ (fp_10 0 15).toInt ∨ (fp_10 0 16).toInt = 1 → y2_10.toInt = 0 ∨ (fp_10 0 13).toInt < (fp_10 0 14).toInt → sgI loM hiM fp_10 → sgK WkX12_product_1 f fp_10 → va_P D vwCl (sgw 26 h (eM ca h) fp_10 L Q) H → va_S (sgA 26 h s.heap.size) s.heap H locs → lv_has ls 4 [(0, .ref (h 0)), (1, .int y1_10), (2, .int y2_10)] → W p l e ({ frames := 32, cells := 0, slots := 0, locals := 729 }) s m ([.ref (h 0)] : List Value).toArray below meth cd H locs 0 0 Qz (F0 m 10 ls []) := by
    intro n_10
    induction n_10 with
    | zero => intro y1_10 y2_10 fp_10 H locs ls hm_10 hy0_10 hg0_10 hg1_10 hg2_10 hg3_10 hI hF hP hS hl; have zb := (show 0 ≤ (fp_10 0 13).toInt ∧ (fp_10 0 13).toInt ≤ 120 from hI 0 13); exact absurd hm_10 (by omega)
    | succ n_10 ih_10 =>
      intro y1_10 y2_10 fp_10 H locs ls hm_10 hy0_10 hg0_10 hg1_10 hg2_10 hg3_10 hI hF hP hS hl
      obtain ⟨v_13, ev_13⟩ : ∃ z : Int32, z = fp_10 0 13 := ⟨_, rfl⟩
      have q_14 : 0 ≤ v_13.toInt ∧ v_13.toInt ≤ 120 := by rw [ev_13]; exact hI 0 13
      have q_15 : (fp_10 0 13).toInt = v_13.toInt := by rw [ev_13]
      obtain ⟨v_16, ev_16⟩ : ∃ z : Int32, z = fp_10 0 16 := ⟨_, rfl⟩
      have q_17 : 0 ≤ v_16.toInt ∧ v_16.toInt ≤ 6 := by rw [ev_16]; exact hI 0 16
      have q_18 : (fp_10 0 16).toInt = v_16.toInt := by rw [ev_16]
      obtain ⟨v_19, ev_19⟩ : ∃ z : Int32, z = fp_10 0 15 := ⟨_, rfl⟩
      have q_20 : (-1) ≤ v_19.toInt ∧ v_19.toInt ≤ 120 := by rw [ev_19]; exact hI 0 15
      have q_21 : (fp_10 0 15).toInt = v_19.toInt := by rw [ev_19]
      obtain ⟨v_22, ev_22⟩ : ∃ z : Int32, z = fp_10 0 14 := ⟨_, rfl⟩
      have q_23 : 0 ≤ v_22.toInt ∧ v_22.toInt ≤ 120 := by rw [ev_22]; exact hI 0 14
      have q_24 : (fp_10 0 14).toInt = v_22.toInt := by rw [ev_22]
      refine lv_aload_n hx hb dX12_product_10 rfl (lv_at hl 0 rfl) ?_
      refine sg_get (ci := 12) (v := .int v_19) (C := RX12) (T := TX12) (N := 55) hx hb hts (fun w h => List.mem_cons_of_mem _ (gx_12 w h)) hown hK hP 0 (by decide) rfl rfl 15 (by decide) (hts _ (List.mem_cons_of_mem _ mw_627)) (fun _ h9 => h9) (congrArg (fun z => some (Value.int z)) (show fp_10 0 15 = v_19 from ev_19.symm)) dX12_product_11 ?_
      refine lv_if_ge (tgt := 94) hx hb dX12_product_14 (by decide) (fun c => ?_) (fun c => ?_)
      · skip
        have c_25 : 0 ≤ v_19.toInt := (by have z := bn_le c; have k1 : (0 : Int32).toInt = 0 := (by decide); omega)
        refine lv_iload_n hx hb dX12_product_94 rfl (lv_at hl 1 rfl) ?_
        have q_27 : (fp_10 0 13).toInt = v_13.toInt := (congrArg Int32.toInt (show fp_10 0 13 = v_13 from ev_13.symm))
        have q_28 : (fp_10 0 16).toInt = v_16.toInt := (congrArg Int32.toInt (show fp_10 0 16 = v_16 from ev_16.symm))
        have q_29 : (fp_10 0 15).toInt = v_19.toInt := (congrArg Int32.toInt (show fp_10 0 15 = v_19 from ev_19.symm))
        have q_30 : (fp_10 0 16).toInt = v_16.toInt := (congrArg Int32.toInt (show fp_10 0 16 = v_16 from ev_16.symm))
        exact hret _ _ _ _ (y1_10) fp_10 L Q dX12_product_95 hP hS ⟨⟨hI, hF, rfl, rfl⟩, trivial, (by omega), (by omega), (by omega)⟩
      · skip
        have c_26 : v_19.toInt < 0 := (by have z := bn_nle c; have k1 : (0 : Int32).toInt = 0 := (by decide); omega)
        refine lv_iload_n hx hb dX12_product_17 rfl (lv_at hl 2 rfl) ?_
        refine lv_bipush (v := 42) hx hb dX12_product_18 (by decide) ?_
        refine lv_icmp_eq (tgt := 35) hx hb dX12_product_20 (by decide) (fun c => ?_) (fun c => ?_)
        · skip
          have c_31 : y2_10.toInt = 42 := (by have z := Int32.toInt_inj.mpr c; have k1 : (42 : Int32).toInt = 42 := (by decide); omega)
          refine lv_aload_n hx hb dX12_product_35 rfl (lv_at hl 0 rfl) ?_
          refine lv_dup hx hb dX12_product_36 rfl ?_
          refine sg_get (ci := 12) (v := .int v_13) (C := RX12) (T := TX12) (N := 55) hx hb hts (fun w h => List.mem_cons_of_mem _ (gx_12 w h)) hown hK hP 0 (by decide) rfl rfl 13 (by decide) (hts _ (List.mem_cons_of_mem _ mw_625)) (fun _ h9 => h9) (congrArg (fun z => some (Value.int z)) (show fp_10 0 13 = v_13 from ev_13.symm)) dX12_product_37 ?_
          refine lv_iconst (v := 1) hx hb dX12_product_40 (by decide) ?_
          refine lv_iadd hx hb dX12_product_41 ?_
          refine lv_topi (fun v_33 ev_33 => ?_)
          have q_34 : v_33.toInt = v_13.toInt + 1 := by rw [ev_33]; have k1 : (1 : Int32).toInt = 1 := (by decide); exact (bn_addI (by omega) (by omega)).trans (by omega)
          refine sg_put (ci := 12) (x := v_33) (ty := .int) (C := RX12) (T := TX12) (N := 55) hx hb hts (fun w h => List.mem_cons_of_mem _ (gx_12 w h)) tyX12 tyX12_ok nmX12 hown hh hA hK hP hS 0 (by decide) rfl rfl 13 (by decide) (hts _ (List.mem_cons_of_mem _ mw_625)) (fun _ h9 => h9) rfl rfl (by decide +kernel) rfl rfl (Nat.le_of_ble_eq_true rfl) dX12_product_42 (fun f_35 H locs ef_35 hP hS => ?_)
          have hI : sgI loM hiM f_35 := by rw [ef_35]; exact sgI.put hI 0 13 (show 0 ≤ (v_33 : Int32).toInt ∧ (v_33 : Int32).toInt ≤ 120 from by omega)
          have hF : sgK WkX12_product_1 f f_35 := sgK.put hF ef_35 (by rfl)
          refine lv_aload_n hx hb dX12_product_45 rfl (lv_at hl 0 rfl) ?_
          have q_36 : (f_35 0 16).toInt = v_16.toInt := (congrArg Int32.toInt (show f_35 0 16 = v_16 from (by rw [ef_35, sg_up_s, sgu_n (by decide)]; exact ev_16.symm)))
          have q_37 : (f_35 0 15).toInt = v_19.toInt := (congrArg Int32.toInt (show f_35 0 15 = v_19 from (by rw [ef_35, sg_up_s, sgu_n (by decide)]; exact ev_19.symm)))
          have q_38 : (f_35 0 16).toInt = v_16.toInt := (congrArg Int32.toInt (show f_35 0 16 = v_16 from (by rw [ef_35, sg_up_s, sgu_n (by decide)]; exact ev_16.symm)))
          have q_39 : (f_35 0 13).toInt = v_33.toInt := (congrArg Int32.toInt (show f_35 0 13 = v_33 from (by rw [ef_35, sg_up_s, sgu_s])))
          refine sg_calli (va_runV (As := []) (rest := []) ⟨hx, hb, hml, hown, hts⟩ (kX12_one_1 l D ca za h hh f_35 L Q hI (by omega) (by omega) H.size) (cwV 0 hts (gw_V (fun _ h => List.mem_cons_of_mem _ h) mw_789 mw_790 mw_791 mw_619 mw_788) rfl rfl rfl (by decide +kernel) ⟨Nat.le_of_ble_eq_true rfl, Nat.le_of_ble_eq_true rfl⟩) (sg_preV (ci := 12) (C := RX12) (T := TX12) (N := 55) hA hK hP hS hZ 0 (by decide) rfl rfl) rfl rfl hl.1 rfl (lv_room (Nat.le_of_ble_eq_true rfl)) dX12_product_46 ⟨Nat.le_refl _, Nat.le_refl _⟩) hA hS (fun r_43 f_40 L_41 Q_42 H locs hq hP hS => ?_)
          obtain ⟨⟨hI, hk_f_40, eL9, eQ9⟩, hq, p_44, p_45, p_46⟩ := hq
          rw [eL9, eQ9] at hP; clear eL9 eQ9
          have hF : sgK WkX12_product_1 f f_40 := sgK.tr hF hk_f_40 (by decide)
          obtain ⟨v_47, ev_47⟩ : ∃ z : Int32, z = f_40 0 13 := ⟨_, rfl⟩
          have q_48 : 0 ≤ v_47.toInt ∧ v_47.toInt ≤ 120 := by rw [ev_47]; exact hI 0 13
          have q_49 : (f_40 0 13).toInt = v_47.toInt := (congrArg Int32.toInt (show f_40 0 13 = v_47 from ev_47.symm))
          obtain ⟨v_50, ev_50⟩ : ∃ z : Int32, z = f_40 0 16 := ⟨_, rfl⟩
          have q_51 : 0 ≤ v_50.toInt ∧ v_50.toInt ≤ 6 := by rw [ev_50]; exact hI 0 16
          have q_52 : (f_40 0 16).toInt = v_50.toInt := (congrArg Int32.toInt (show f_40 0 16 = v_50 from ev_50.symm))
          obtain ⟨v_53, ev_53⟩ : ∃ z : Int32, z = f_40 0 15 := ⟨_, rfl⟩
          have q_54 : (-1) ≤ v_53.toInt ∧ v_53.toInt ≤ 120 := by rw [ev_53]; exact hI 0 15
          have q_55 : (f_40 0 15).toInt = v_53.toInt := (congrArg Int32.toInt (show f_40 0 15 = v_53 from ev_53.symm))
          have q_56 : (f_40 0 16).toInt = v_50.toInt := (congrArg Int32.toInt (show f_40 0 16 = v_50 from ev_50.symm))
          refine lv_istore_n (lv' := [(3, .int r_43), (0, .ref (h 0)), (1, .int y1_10), (2, .int y2_10)]) hx hb dX12_product_49 rfl hl (by decide) rfl (fun ls hl => ?_)
          refine lv_iload_n hx hb dX12_product_50 rfl (lv_at hl 3 rfl) ?_
          refine lv_bipush (v := 42) hx hb dX12_product_51 (by decide) ?_
          refine lv_icmp_ne (tgt := 62) hx hb dX12_product_53 (by decide) (fun c => ?_) (fun c => ?_)
          · skip
            exfalso; have c_57 : y2_10.toInt ≠ 42 := (by have z := bn_ne c; have k1 : (42 : Int32).toInt = 42 := (by decide); omega); omega
          · skip
            have c_58 : y2_10.toInt = 42 := (by have z := Int32.toInt_inj.mpr c; have k1 : (42 : Int32).toInt = 42 := (by decide); omega)
            refine lv_iload_n hx hb dX12_product_56 rfl (lv_at hl 2 rfl) ?_
            refine lv_iload_n hx hb dX12_product_57 rfl (lv_at hl 0 rfl) ?_
            refine lv_imul hx hb dX12_product_58 ?_
            refine lv_topi (fun v_59 ev_59 => ?_)
            refine lv_goto (tgt := 85) hx hb dX12_product_59 (by decide) ?_
            refine lv_istore_n (lv' := [(1, .int v_59), (3, .int r_43), (0, .ref (h 0)), (2, .int y2_10)]) hx hb dX12_product_85 rfl hl (by decide) rfl (fun ls hl => ?_)
            refine lv_aload_n hx hb dX12_product_86 rfl (lv_at hl 2 rfl) ?_
            have q_60 : (f_40 0 13).toInt = v_47.toInt := (congrArg Int32.toInt (show f_40 0 13 = v_47 from ev_47.symm))
            have q_61 : (f_40 0 14).toInt = v_22.toInt := (congrArg Int32.toInt (show f_40 0 14 = v_22 from ((hk_f_40 0 14 (by decide)).trans (by rw [ef_35, sg_up_s, sgu_n (by decide)]; exact ev_22.symm))))
            refine sg_calli (va_runV (As := []) (rest := []) ⟨hx, hb, hml, hown, hts⟩ (kX12_byteAt l D ca za h hh f_40 L Q hI H.size) (cwV 0 hts (gw_V (fun _ h => List.mem_cons_of_mem _ h) mw_840 mw_841 mw_842 mw_619 mw_839) rfl rfl rfl (by decide +kernel) ⟨Nat.le_of_ble_eq_true rfl, Nat.le_of_ble_eq_true rfl⟩) (sg_preV (ci := 12) (C := RX12) (T := TX12) (N := 55) hA hK hP hS hZ 0 (by decide) rfl rfl) rfl rfl hl.1 rfl (lv_room (Nat.le_of_ble_eq_true rfl)) dX12_product_87 ⟨Nat.le_refl _, Nat.le_refl _⟩) hA hS (fun r_65 f_62 L_63 Q_64 H locs hq hP hS => ?_)
            obtain ⟨⟨ef9, eL9, eQ9⟩, hq, p_66⟩ := hq
            rw [ef9, eL9, eQ9] at hP; clear ef9 eL9 eQ9
            refine lv_istore_n (lv' := [(2, .int r_65), (1, .int v_59), (3, .int r_43), (0, .ref (h 0))]) hx hb dX12_product_90 rfl hl (by decide) rfl (fun ls hl => ?_)
            refine lv_goto (tgt := 10) hx hb dX12_product_91 (by decide) ?_
            exact ih_10 v_59 r_65 f_40 _ _ _ (by have zz0_13 : (f_40 0 13).toInt = v_47.toInt := (congrArg Int32.toInt (show f_40 0 13 = v_47 from ev_47.symm)); omega) (by omega) (by have zz0_13 : (f_40 0 13).toInt = v_47.toInt := (congrArg Int32.toInt (show f_40 0 13 = v_47 from ev_47.symm)); omega) (by have zz0_16 : (f_40 0 16).toInt = v_50.toInt := (congrArg Int32.toInt (show f_40 0 16 = v_50 from ev_50.symm)); omega) (by have zz0_15 : (f_40 0 15).toInt = v_53.toInt := (congrArg Int32.toInt (show f_40 0 15 = v_53 from ev_53.symm)); have zz0_16 : (f_40 0 16).toInt = v_50.toInt := (congrArg Int32.toInt (show f_40 0 16 = v_50 from ev_50.symm)); omega) (by have zz0_13 : (f_40 0 13).toInt = v_47.toInt := (congrArg Int32.toInt (show f_40 0 13 = v_47 from ev_47.symm)); have zz0_14 : (f_40 0 14).toInt = v_22.toInt := (congrArg Int32.toInt (show f_40 0 14 = v_22 from ((hk_f_40 0 14 (by decide)).trans (by rw [ef_35, sg_up_s, sgu_n (by decide)]; exact ev_22.symm)))); omega) hI hF hP hS (lv_sub hl [3, 1, 0] rfl)
        · skip
          have c_32 : y2_10.toInt ≠ 42 := (by have z := bn_ne c; have k1 : (42 : Int32).toInt = 42 := (by decide); omega)
          refine lv_iload_n hx hb dX12_product_23 rfl (lv_at hl 2 rfl) ?_
          refine lv_bipush (v := 47) hx hb dX12_product_24 (by decide) ?_
          refine lv_icmp_eq (tgt := 35) hx hb dX12_product_26 (by decide) (fun c => ?_) (fun c => ?_)
          · skip
            have c_67 : y2_10.toInt = 47 := (by have z := Int32.toInt_inj.mpr c; have k1 : (47 : Int32).toInt = 47 := (by decide); omega)
            refine lv_aload_n hx hb dX12_product_35 rfl (lv_at hl 0 rfl) ?_
            refine lv_dup hx hb dX12_product_36 rfl ?_
            refine sg_get (ci := 12) (v := .int v_13) (C := RX12) (T := TX12) (N := 55) hx hb hts (fun w h => List.mem_cons_of_mem _ (gx_12 w h)) hown hK hP 0 (by decide) rfl rfl 13 (by decide) (hts _ (List.mem_cons_of_mem _ mw_625)) (fun _ h9 => h9) (congrArg (fun z => some (Value.int z)) (show fp_10 0 13 = v_13 from ev_13.symm)) dX12_product_37 ?_
            refine lv_iconst (v := 1) hx hb dX12_product_40 (by decide) ?_
            refine lv_iadd hx hb dX12_product_41 ?_
            refine lv_topi (fun v_69 ev_69 => ?_)
            have q_70 : v_69.toInt = v_13.toInt + 1 := by rw [ev_69]; have k1 : (1 : Int32).toInt = 1 := (by decide); exact (bn_addI (by omega) (by omega)).trans (by omega)
            refine sg_put (ci := 12) (x := v_69) (ty := .int) (C := RX12) (T := TX12) (N := 55) hx hb hts (fun w h => List.mem_cons_of_mem _ (gx_12 w h)) tyX12 tyX12_ok nmX12 hown hh hA hK hP hS 0 (by decide) rfl rfl 13 (by decide) (hts _ (List.mem_cons_of_mem _ mw_625)) (fun _ h9 => h9) rfl rfl (by decide +kernel) rfl rfl (Nat.le_of_ble_eq_true rfl) dX12_product_42 (fun f_71 H locs ef_71 hP hS => ?_)
            have hI : sgI loM hiM f_71 := by rw [ef_71]; exact sgI.put hI 0 13 (show 0 ≤ (v_69 : Int32).toInt ∧ (v_69 : Int32).toInt ≤ 120 from by omega)
            have hF : sgK WkX12_product_1 f f_71 := sgK.put hF ef_71 (by rfl)
            refine lv_aload_n hx hb dX12_product_45 rfl (lv_at hl 0 rfl) ?_
            have q_72 : (f_71 0 16).toInt = v_16.toInt := (congrArg Int32.toInt (show f_71 0 16 = v_16 from (by rw [ef_71, sg_up_s, sgu_n (by decide)]; exact ev_16.symm)))
            have q_73 : (f_71 0 15).toInt = v_19.toInt := (congrArg Int32.toInt (show f_71 0 15 = v_19 from (by rw [ef_71, sg_up_s, sgu_n (by decide)]; exact ev_19.symm)))
            have q_74 : (f_71 0 16).toInt = v_16.toInt := (congrArg Int32.toInt (show f_71 0 16 = v_16 from (by rw [ef_71, sg_up_s, sgu_n (by decide)]; exact ev_16.symm)))
            have q_75 : (f_71 0 13).toInt = v_69.toInt := (congrArg Int32.toInt (show f_71 0 13 = v_69 from (by rw [ef_71, sg_up_s, sgu_s])))
            refine sg_calli (va_runV (As := []) (rest := []) ⟨hx, hb, hml, hown, hts⟩ (kX12_one_1 l D ca za h hh f_71 L Q hI (by omega) (by omega) H.size) (cwV 0 hts (gw_V (fun _ h => List.mem_cons_of_mem _ h) mw_789 mw_790 mw_791 mw_619 mw_788) rfl rfl rfl (by decide +kernel) ⟨Nat.le_of_ble_eq_true rfl, Nat.le_of_ble_eq_true rfl⟩) (sg_preV (ci := 12) (C := RX12) (T := TX12) (N := 55) hA hK hP hS hZ 0 (by decide) rfl rfl) rfl rfl hl.1 rfl (lv_room (Nat.le_of_ble_eq_true rfl)) dX12_product_46 ⟨Nat.le_refl _, Nat.le_refl _⟩) hA hS (fun r_79 f_76 L_77 Q_78 H locs hq hP hS => ?_)
            obtain ⟨⟨hI, hk_f_76, eL9, eQ9⟩, hq, p_80, p_81, p_82⟩ := hq
            rw [eL9, eQ9] at hP; clear eL9 eQ9
            have hF : sgK WkX12_product_1 f f_76 := sgK.tr hF hk_f_76 (by decide)
            obtain ⟨v_83, ev_83⟩ : ∃ z : Int32, z = f_76 0 13 := ⟨_, rfl⟩
            have q_84 : 0 ≤ v_83.toInt ∧ v_83.toInt ≤ 120 := by rw [ev_83]; exact hI 0 13
            have q_85 : (f_76 0 13).toInt = v_83.toInt := (congrArg Int32.toInt (show f_76 0 13 = v_83 from ev_83.symm))
            obtain ⟨v_86, ev_86⟩ : ∃ z : Int32, z = f_76 0 16 := ⟨_, rfl⟩
            have q_87 : 0 ≤ v_86.toInt ∧ v_86.toInt ≤ 6 := by rw [ev_86]; exact hI 0 16
            have q_88 : (f_76 0 16).toInt = v_86.toInt := (congrArg Int32.toInt (show f_76 0 16 = v_86 from ev_86.symm))
            obtain ⟨v_89, ev_89⟩ : ∃ z : Int32, z = f_76 0 15 := ⟨_, rfl⟩
            have q_90 : (-1) ≤ v_89.toInt ∧ v_89.toInt ≤ 120 := by rw [ev_89]; exact hI 0 15
            have q_91 : (f_76 0 15).toInt = v_89.toInt := (congrArg Int32.toInt (show f_76 0 15 = v_89 from ev_89.symm))
            have q_92 : (f_76 0 16).toInt = v_86.toInt := (congrArg Int32.toInt (show f_76 0 16 = v_86 from ev_86.symm))
            refine lv_istore_n (lv' := [(3, .int r_79), (0, .ref (h 0)), (1, .int y1_10), (2, .int y2_10)]) hx hb dX12_product_49 rfl hl (by decide) rfl (fun ls hl => ?_)
            refine lv_iload_n hx hb dX12_product_50 rfl (lv_at hl 3 rfl) ?_
            refine lv_bipush (v := 42) hx hb dX12_product_51 (by decide) ?_
            refine lv_icmp_ne (tgt := 62) hx hb dX12_product_53 (by decide) (fun c => ?_) (fun c => ?_)
            · skip
              have c_93 : y2_10.toInt ≠ 42 := (by have z := bn_ne c; have k1 : (42 : Int32).toInt = 42 := (by decide); omega)
              refine lv_iload_n hx hb dX12_product_62 rfl (lv_at hl 0 rfl) ?_
              refine lv_if_ne (tgt := 70) hx hb dX12_product_63 (by decide) (fun c => ?_) (fun c => ?_)
              · skip
                have c_95 : r_79.toInt ≠ 0 := (by have z := bn_ne c; have k1 : (0 : Int32).toInt = 0 := (by decide); omega)
                refine lv_iload_n hx hb dX12_product_70 rfl (lv_at hl 3 rfl) ?_
                refine lv_bipush (v := 47) hx hb dX12_product_71 (by decide) ?_
                refine lv_icmp_ne (tgt := 82) hx hb dX12_product_73 (by decide) (fun c => ?_) (fun c => ?_)
                · skip
                  exfalso; have c_97 : y2_10.toInt ≠ 47 := (by have z := bn_ne c; have k1 : (47 : Int32).toInt = 47 := (by decide); omega); omega
                · skip
                  have c_98 : y2_10.toInt = 47 := (by have z := Int32.toInt_inj.mpr c; have k1 : (47 : Int32).toInt = 47 := (by decide); omega)
                  refine lv_iload_n hx hb dX12_product_76 rfl (lv_at hl 2 rfl) ?_
                  refine lv_iload_n hx hb dX12_product_77 rfl (lv_at hl 0 rfl) ?_
                  refine lv_idiv hx hb dX12_product_78 (bn_nz (by omega)) ?_
                  refine lv_topi (fun v_99 ev_99 => ?_)
                  refine lv_goto (tgt := 85) hx hb dX12_product_79 (by decide) ?_
                  refine lv_istore_n (lv' := [(1, .int v_99), (3, .int r_79), (0, .ref (h 0)), (2, .int y2_10)]) hx hb dX12_product_85 rfl hl (by decide) rfl (fun ls hl => ?_)
                  refine lv_aload_n hx hb dX12_product_86 rfl (lv_at hl 2 rfl) ?_
                  have q_100 : (f_76 0 13).toInt = v_83.toInt := (congrArg Int32.toInt (show f_76 0 13 = v_83 from ev_83.symm))
                  have q_101 : (f_76 0 14).toInt = v_22.toInt := (congrArg Int32.toInt (show f_76 0 14 = v_22 from ((hk_f_76 0 14 (by decide)).trans (by rw [ef_71, sg_up_s, sgu_n (by decide)]; exact ev_22.symm))))
                  refine sg_calli (va_runV (As := []) (rest := []) ⟨hx, hb, hml, hown, hts⟩ (kX12_byteAt l D ca za h hh f_76 L Q hI H.size) (cwV 0 hts (gw_V (fun _ h => List.mem_cons_of_mem _ h) mw_840 mw_841 mw_842 mw_619 mw_839) rfl rfl rfl (by decide +kernel) ⟨Nat.le_of_ble_eq_true rfl, Nat.le_of_ble_eq_true rfl⟩) (sg_preV (ci := 12) (C := RX12) (T := TX12) (N := 55) hA hK hP hS hZ 0 (by decide) rfl rfl) rfl rfl hl.1 rfl (lv_room (Nat.le_of_ble_eq_true rfl)) dX12_product_87 ⟨Nat.le_refl _, Nat.le_refl _⟩) hA hS (fun r_105 f_102 L_103 Q_104 H locs hq hP hS => ?_)
                  obtain ⟨⟨ef9, eL9, eQ9⟩, hq, p_106⟩ := hq
                  rw [ef9, eL9, eQ9] at hP; clear ef9 eL9 eQ9
                  refine lv_istore_n (lv' := [(2, .int r_105), (1, .int v_99), (3, .int r_79), (0, .ref (h 0))]) hx hb dX12_product_90 rfl hl (by decide) rfl (fun ls hl => ?_)
                  refine lv_goto (tgt := 10) hx hb dX12_product_91 (by decide) ?_
                  exact ih_10 v_99 r_105 f_76 _ _ _ (by have zz0_13 : (f_76 0 13).toInt = v_83.toInt := (congrArg Int32.toInt (show f_76 0 13 = v_83 from ev_83.symm)); omega) (by omega) (by have zz0_13 : (f_76 0 13).toInt = v_83.toInt := (congrArg Int32.toInt (show f_76 0 13 = v_83 from ev_83.symm)); omega) (by have zz0_16 : (f_76 0 16).toInt = v_86.toInt := (congrArg Int32.toInt (show f_76 0 16 = v_86 from ev_86.symm)); omega) (by have zz0_15 : (f_76 0 15).toInt = v_89.toInt := (congrArg Int32.toInt (show f_76 0 15 = v_89 from ev_89.symm)); have zz0_16 : (f_76 0 16).toInt = v_86.toInt := (congrArg Int32.toInt (show f_76 0 16 = v_86 from ev_86.symm)); omega) (by have zz0_13 : (f_76 0 13).toInt = v_83.toInt := (congrArg Int32.toInt (show f_76 0 13 = v_83 from ev_83.symm)); have zz0_14 : (f_76 0 14).toInt = v_22.toInt := (congrArg Int32.toInt (show f_76 0 14 = v_22 from ((hk_f_76 0 14 (by decide)).trans (by rw [ef_71, sg_up_s, sgu_n (by decide)]; exact ev_22.symm)))); omega) hI hF hP hS (lv_sub hl [3, 1, 0] rfl)
              · skip
                have c_96 : r_79.toInt = 0 := (by have z := Int32.toInt_inj.mpr c; have k1 : (0 : Int32).toInt = 0 := (by decide); omega)
                refine lv_iconst (v := 0) hx hb dX12_product_66 (by decide) ?_
                refine lv_goto (tgt := 85) hx hb dX12_product_67 (by decide) ?_
                refine lv_istore_n (lv' := [(1, .int 0), (3, .int r_79), (0, .ref (h 0)), (2, .int y2_10)]) hx hb dX12_product_85 rfl hl (by decide) rfl (fun ls hl => ?_)
                refine lv_aload_n hx hb dX12_product_86 rfl (lv_at hl 2 rfl) ?_
                have q_107 : (f_76 0 13).toInt = v_83.toInt := (congrArg Int32.toInt (show f_76 0 13 = v_83 from ev_83.symm))
                have q_108 : (f_76 0 14).toInt = v_22.toInt := (congrArg Int32.toInt (show f_76 0 14 = v_22 from ((hk_f_76 0 14 (by decide)).trans (by rw [ef_71, sg_up_s, sgu_n (by decide)]; exact ev_22.symm))))
                refine sg_calli (va_runV (As := []) (rest := []) ⟨hx, hb, hml, hown, hts⟩ (kX12_byteAt l D ca za h hh f_76 L Q hI H.size) (cwV 0 hts (gw_V (fun _ h => List.mem_cons_of_mem _ h) mw_840 mw_841 mw_842 mw_619 mw_839) rfl rfl rfl (by decide +kernel) ⟨Nat.le_of_ble_eq_true rfl, Nat.le_of_ble_eq_true rfl⟩) (sg_preV (ci := 12) (C := RX12) (T := TX12) (N := 55) hA hK hP hS hZ 0 (by decide) rfl rfl) rfl rfl hl.1 rfl (lv_room (Nat.le_of_ble_eq_true rfl)) dX12_product_87 ⟨Nat.le_refl _, Nat.le_refl _⟩) hA hS (fun r_112 f_109 L_110 Q_111 H locs hq hP hS => ?_)
                obtain ⟨⟨ef9, eL9, eQ9⟩, hq, p_113⟩ := hq
                rw [ef9, eL9, eQ9] at hP; clear ef9 eL9 eQ9
                refine lv_istore_n (lv' := [(2, .int r_112), (1, .int 0), (3, .int r_79), (0, .ref (h 0))]) hx hb dX12_product_90 rfl hl (by decide) rfl (fun ls hl => ?_)
                refine lv_goto (tgt := 10) hx hb dX12_product_91 (by decide) ?_
                exact ih_10 0 r_112 f_76 _ _ _ (by have kc0 : (0 : Int32).toInt = 0 := (by decide); have zz0_13 : (f_76 0 13).toInt = v_83.toInt := (congrArg Int32.toInt (show f_76 0 13 = v_83 from ev_83.symm)); omega) (by omega) (by have kc0 : (0 : Int32).toInt = 0 := (by decide); have zz0_13 : (f_76 0 13).toInt = v_83.toInt := (congrArg Int32.toInt (show f_76 0 13 = v_83 from ev_83.symm)); omega) (by have kc0 : (0 : Int32).toInt = 0 := (by decide); have zz0_16 : (f_76 0 16).toInt = v_86.toInt := (congrArg Int32.toInt (show f_76 0 16 = v_86 from ev_86.symm)); omega) (by have kc0 : (0 : Int32).toInt = 0 := (by decide); have zz0_15 : (f_76 0 15).toInt = v_89.toInt := (congrArg Int32.toInt (show f_76 0 15 = v_89 from ev_89.symm)); have zz0_16 : (f_76 0 16).toInt = v_86.toInt := (congrArg Int32.toInt (show f_76 0 16 = v_86 from ev_86.symm)); omega) (by have kc0 : (0 : Int32).toInt = 0 := (by decide); have zz0_13 : (f_76 0 13).toInt = v_83.toInt := (congrArg Int32.toInt (show f_76 0 13 = v_83 from ev_83.symm)); have zz0_14 : (f_76 0 14).toInt = v_22.toInt := (congrArg Int32.toInt (show f_76 0 14 = v_22 from ((hk_f_76 0 14 (by decide)).trans (by rw [ef_71, sg_up_s, sgu_n (by decide)]; exact ev_22.symm)))); omega) hI hF hP hS (lv_sub hl [3, 1, 0] rfl)
            · skip
              exfalso; have c_94 : y2_10.toInt = 42 := (by have z := Int32.toInt_inj.mpr c; have k1 : (42 : Int32).toInt = 42 := (by decide); omega); omega
          · skip
            have c_68 : y2_10.toInt ≠ 47 := (by have z := bn_ne c; have k1 : (47 : Int32).toInt = 47 := (by decide); omega)
            refine lv_iload_n hx hb dX12_product_29 rfl (lv_at hl 2 rfl) ?_
            refine lv_bipush (v := 37) hx hb dX12_product_30 (by decide) ?_
            refine lv_icmp_ne (tgt := 94) hx hb dX12_product_32 (by decide) (fun c => ?_) (fun c => ?_)
            · skip
              have c_114 : y2_10.toInt ≠ 37 := (by have z := bn_ne c; have k1 : (37 : Int32).toInt = 37 := (by decide); omega)
              refine lv_iload_n hx hb dX12_product_94 rfl (lv_at hl 1 rfl) ?_
              have q_116 : (fp_10 0 13).toInt = v_13.toInt := (congrArg Int32.toInt (show fp_10 0 13 = v_13 from ev_13.symm))
              have q_117 : (fp_10 0 16).toInt = v_16.toInt := (congrArg Int32.toInt (show fp_10 0 16 = v_16 from ev_16.symm))
              have q_118 : (fp_10 0 15).toInt = v_19.toInt := (congrArg Int32.toInt (show fp_10 0 15 = v_19 from ev_19.symm))
              have q_119 : (fp_10 0 16).toInt = v_16.toInt := (congrArg Int32.toInt (show fp_10 0 16 = v_16 from ev_16.symm))
              exact hret _ _ _ _ (y1_10) fp_10 L Q dX12_product_95 hP hS ⟨⟨hI, hF, rfl, rfl⟩, trivial, (by omega), (by omega), (by omega)⟩
            · skip
              have c_115 : y2_10.toInt = 37 := (by have z := Int32.toInt_inj.mpr c; have k1 : (37 : Int32).toInt = 37 := (by decide); omega)
              refine lv_aload_n hx hb dX12_product_35 rfl (lv_at hl 0 rfl) ?_
              refine lv_dup hx hb dX12_product_36 rfl ?_
              refine sg_get (ci := 12) (v := .int v_13) (C := RX12) (T := TX12) (N := 55) hx hb hts (fun w h => List.mem_cons_of_mem _ (gx_12 w h)) hown hK hP 0 (by decide) rfl rfl 13 (by decide) (hts _ (List.mem_cons_of_mem _ mw_625)) (fun _ h9 => h9) (congrArg (fun z => some (Value.int z)) (show fp_10 0 13 = v_13 from ev_13.symm)) dX12_product_37 ?_
              refine lv_iconst (v := 1) hx hb dX12_product_40 (by decide) ?_
              refine lv_iadd hx hb dX12_product_41 ?_
              refine lv_topi (fun v_120 ev_120 => ?_)
              have q_121 : v_120.toInt = v_13.toInt + 1 := by rw [ev_120]; have k1 : (1 : Int32).toInt = 1 := (by decide); exact (bn_addI (by omega) (by omega)).trans (by omega)
              refine sg_put (ci := 12) (x := v_120) (ty := .int) (C := RX12) (T := TX12) (N := 55) hx hb hts (fun w h => List.mem_cons_of_mem _ (gx_12 w h)) tyX12 tyX12_ok nmX12 hown hh hA hK hP hS 0 (by decide) rfl rfl 13 (by decide) (hts _ (List.mem_cons_of_mem _ mw_625)) (fun _ h9 => h9) rfl rfl (by decide +kernel) rfl rfl (Nat.le_of_ble_eq_true rfl) dX12_product_42 (fun f_122 H locs ef_122 hP hS => ?_)
              have hI : sgI loM hiM f_122 := by rw [ef_122]; exact sgI.put hI 0 13 (show 0 ≤ (v_120 : Int32).toInt ∧ (v_120 : Int32).toInt ≤ 120 from by omega)
              have hF : sgK WkX12_product_1 f f_122 := sgK.put hF ef_122 (by rfl)
              refine lv_aload_n hx hb dX12_product_45 rfl (lv_at hl 0 rfl) ?_
              have q_123 : (f_122 0 16).toInt = v_16.toInt := (congrArg Int32.toInt (show f_122 0 16 = v_16 from (by rw [ef_122, sg_up_s, sgu_n (by decide)]; exact ev_16.symm)))
              have q_124 : (f_122 0 15).toInt = v_19.toInt := (congrArg Int32.toInt (show f_122 0 15 = v_19 from (by rw [ef_122, sg_up_s, sgu_n (by decide)]; exact ev_19.symm)))
              have q_125 : (f_122 0 16).toInt = v_16.toInt := (congrArg Int32.toInt (show f_122 0 16 = v_16 from (by rw [ef_122, sg_up_s, sgu_n (by decide)]; exact ev_16.symm)))
              have q_126 : (f_122 0 13).toInt = v_120.toInt := (congrArg Int32.toInt (show f_122 0 13 = v_120 from (by rw [ef_122, sg_up_s, sgu_s])))
              refine sg_calli (va_runV (As := []) (rest := []) ⟨hx, hb, hml, hown, hts⟩ (kX12_one_1 l D ca za h hh f_122 L Q hI (by omega) (by omega) H.size) (cwV 0 hts (gw_V (fun _ h => List.mem_cons_of_mem _ h) mw_789 mw_790 mw_791 mw_619 mw_788) rfl rfl rfl (by decide +kernel) ⟨Nat.le_of_ble_eq_true rfl, Nat.le_of_ble_eq_true rfl⟩) (sg_preV (ci := 12) (C := RX12) (T := TX12) (N := 55) hA hK hP hS hZ 0 (by decide) rfl rfl) rfl rfl hl.1 rfl (lv_room (Nat.le_of_ble_eq_true rfl)) dX12_product_46 ⟨Nat.le_refl _, Nat.le_refl _⟩) hA hS (fun r_130 f_127 L_128 Q_129 H locs hq hP hS => ?_)
              obtain ⟨⟨hI, hk_f_127, eL9, eQ9⟩, hq, p_131, p_132, p_133⟩ := hq
              rw [eL9, eQ9] at hP; clear eL9 eQ9
              have hF : sgK WkX12_product_1 f f_127 := sgK.tr hF hk_f_127 (by decide)
              obtain ⟨v_134, ev_134⟩ : ∃ z : Int32, z = f_127 0 13 := ⟨_, rfl⟩
              have q_135 : 0 ≤ v_134.toInt ∧ v_134.toInt ≤ 120 := by rw [ev_134]; exact hI 0 13
              have q_136 : (f_127 0 13).toInt = v_134.toInt := (congrArg Int32.toInt (show f_127 0 13 = v_134 from ev_134.symm))
              obtain ⟨v_137, ev_137⟩ : ∃ z : Int32, z = f_127 0 16 := ⟨_, rfl⟩
              have q_138 : 0 ≤ v_137.toInt ∧ v_137.toInt ≤ 6 := by rw [ev_137]; exact hI 0 16
              have q_139 : (f_127 0 16).toInt = v_137.toInt := (congrArg Int32.toInt (show f_127 0 16 = v_137 from ev_137.symm))
              obtain ⟨v_140, ev_140⟩ : ∃ z : Int32, z = f_127 0 15 := ⟨_, rfl⟩
              have q_141 : (-1) ≤ v_140.toInt ∧ v_140.toInt ≤ 120 := by rw [ev_140]; exact hI 0 15
              have q_142 : (f_127 0 15).toInt = v_140.toInt := (congrArg Int32.toInt (show f_127 0 15 = v_140 from ev_140.symm))
              have q_143 : (f_127 0 16).toInt = v_137.toInt := (congrArg Int32.toInt (show f_127 0 16 = v_137 from ev_137.symm))
              refine lv_istore_n (lv' := [(3, .int r_130), (0, .ref (h 0)), (1, .int y1_10), (2, .int y2_10)]) hx hb dX12_product_49 rfl hl (by decide) rfl (fun ls hl => ?_)
              refine lv_iload_n hx hb dX12_product_50 rfl (lv_at hl 3 rfl) ?_
              refine lv_bipush (v := 42) hx hb dX12_product_51 (by decide) ?_
              refine lv_icmp_ne (tgt := 62) hx hb dX12_product_53 (by decide) (fun c => ?_) (fun c => ?_)
              · skip
                have c_144 : y2_10.toInt ≠ 42 := (by have z := bn_ne c; have k1 : (42 : Int32).toInt = 42 := (by decide); omega)
                refine lv_iload_n hx hb dX12_product_62 rfl (lv_at hl 0 rfl) ?_
                refine lv_if_ne (tgt := 70) hx hb dX12_product_63 (by decide) (fun c => ?_) (fun c => ?_)
                · skip
                  have c_146 : r_130.toInt ≠ 0 := (by have z := bn_ne c; have k1 : (0 : Int32).toInt = 0 := (by decide); omega)
                  refine lv_iload_n hx hb dX12_product_70 rfl (lv_at hl 3 rfl) ?_
                  refine lv_bipush (v := 47) hx hb dX12_product_71 (by decide) ?_
                  refine lv_icmp_ne (tgt := 82) hx hb dX12_product_73 (by decide) (fun c => ?_) (fun c => ?_)
                  · skip
                    have c_148 : y2_10.toInt ≠ 47 := (by have z := bn_ne c; have k1 : (47 : Int32).toInt = 47 := (by decide); omega)
                    refine lv_iload_n hx hb dX12_product_82 rfl (lv_at hl 2 rfl) ?_
                    refine lv_iload_n hx hb dX12_product_83 rfl (lv_at hl 0 rfl) ?_
                    refine lv_irem hx hb dX12_product_84 (bn_nz (by omega)) ?_
                    refine lv_topi (fun v_150 ev_150 => ?_)
                    refine lv_istore_n (lv' := [(1, .int v_150), (3, .int r_130), (0, .ref (h 0)), (2, .int y2_10)]) hx hb dX12_product_85 rfl hl (by decide) rfl (fun ls hl => ?_)
                    refine lv_aload_n hx hb dX12_product_86 rfl (lv_at hl 2 rfl) ?_
                    have q_151 : (f_127 0 13).toInt = v_134.toInt := (congrArg Int32.toInt (show f_127 0 13 = v_134 from ev_134.symm))
                    have q_152 : (f_127 0 14).toInt = v_22.toInt := (congrArg Int32.toInt (show f_127 0 14 = v_22 from ((hk_f_127 0 14 (by decide)).trans (by rw [ef_122, sg_up_s, sgu_n (by decide)]; exact ev_22.symm))))
                    refine sg_calli (va_runV (As := []) (rest := []) ⟨hx, hb, hml, hown, hts⟩ (kX12_byteAt l D ca za h hh f_127 L Q hI H.size) (cwV 0 hts (gw_V (fun _ h => List.mem_cons_of_mem _ h) mw_840 mw_841 mw_842 mw_619 mw_839) rfl rfl rfl (by decide +kernel) ⟨Nat.le_of_ble_eq_true rfl, Nat.le_of_ble_eq_true rfl⟩) (sg_preV (ci := 12) (C := RX12) (T := TX12) (N := 55) hA hK hP hS hZ 0 (by decide) rfl rfl) rfl rfl hl.1 rfl (lv_room (Nat.le_of_ble_eq_true rfl)) dX12_product_87 ⟨Nat.le_refl _, Nat.le_refl _⟩) hA hS (fun r_156 f_153 L_154 Q_155 H locs hq hP hS => ?_)
                    obtain ⟨⟨ef9, eL9, eQ9⟩, hq, p_157⟩ := hq
                    rw [ef9, eL9, eQ9] at hP; clear ef9 eL9 eQ9
                    refine lv_istore_n (lv' := [(2, .int r_156), (1, .int v_150), (3, .int r_130), (0, .ref (h 0))]) hx hb dX12_product_90 rfl hl (by decide) rfl (fun ls hl => ?_)
                    refine lv_goto (tgt := 10) hx hb dX12_product_91 (by decide) ?_
                    exact ih_10 v_150 r_156 f_127 _ _ _ (by have zz0_13 : (f_127 0 13).toInt = v_134.toInt := (congrArg Int32.toInt (show f_127 0 13 = v_134 from ev_134.symm)); omega) (by omega) (by have zz0_13 : (f_127 0 13).toInt = v_134.toInt := (congrArg Int32.toInt (show f_127 0 13 = v_134 from ev_134.symm)); omega) (by have zz0_16 : (f_127 0 16).toInt = v_137.toInt := (congrArg Int32.toInt (show f_127 0 16 = v_137 from ev_137.symm)); omega) (by have zz0_15 : (f_127 0 15).toInt = v_140.toInt := (congrArg Int32.toInt (show f_127 0 15 = v_140 from ev_140.symm)); have zz0_16 : (f_127 0 16).toInt = v_137.toInt := (congrArg Int32.toInt (show f_127 0 16 = v_137 from ev_137.symm)); omega) (by have zz0_13 : (f_127 0 13).toInt = v_134.toInt := (congrArg Int32.toInt (show f_127 0 13 = v_134 from ev_134.symm)); have zz0_14 : (f_127 0 14).toInt = v_22.toInt := (congrArg Int32.toInt (show f_127 0 14 = v_22 from ((hk_f_127 0 14 (by decide)).trans (by rw [ef_122, sg_up_s, sgu_n (by decide)]; exact ev_22.symm)))); omega) hI hF hP hS (lv_sub hl [3, 1, 0] rfl)
                  · skip
                    exfalso; have c_149 : y2_10.toInt = 47 := (by have z := Int32.toInt_inj.mpr c; have k1 : (47 : Int32).toInt = 47 := (by decide); omega); omega
                · skip
                  have c_147 : r_130.toInt = 0 := (by have z := Int32.toInt_inj.mpr c; have k1 : (0 : Int32).toInt = 0 := (by decide); omega)
                  refine lv_iconst (v := 0) hx hb dX12_product_66 (by decide) ?_
                  refine lv_goto (tgt := 85) hx hb dX12_product_67 (by decide) ?_
                  refine lv_istore_n (lv' := [(1, .int 0), (3, .int r_130), (0, .ref (h 0)), (2, .int y2_10)]) hx hb dX12_product_85 rfl hl (by decide) rfl (fun ls hl => ?_)
                  refine lv_aload_n hx hb dX12_product_86 rfl (lv_at hl 2 rfl) ?_
                  have q_158 : (f_127 0 13).toInt = v_134.toInt := (congrArg Int32.toInt (show f_127 0 13 = v_134 from ev_134.symm))
                  have q_159 : (f_127 0 14).toInt = v_22.toInt := (congrArg Int32.toInt (show f_127 0 14 = v_22 from ((hk_f_127 0 14 (by decide)).trans (by rw [ef_122, sg_up_s, sgu_n (by decide)]; exact ev_22.symm))))
                  refine sg_calli (va_runV (As := []) (rest := []) ⟨hx, hb, hml, hown, hts⟩ (kX12_byteAt l D ca za h hh f_127 L Q hI H.size) (cwV 0 hts (gw_V (fun _ h => List.mem_cons_of_mem _ h) mw_840 mw_841 mw_842 mw_619 mw_839) rfl rfl rfl (by decide +kernel) ⟨Nat.le_of_ble_eq_true rfl, Nat.le_of_ble_eq_true rfl⟩) (sg_preV (ci := 12) (C := RX12) (T := TX12) (N := 55) hA hK hP hS hZ 0 (by decide) rfl rfl) rfl rfl hl.1 rfl (lv_room (Nat.le_of_ble_eq_true rfl)) dX12_product_87 ⟨Nat.le_refl _, Nat.le_refl _⟩) hA hS (fun r_163 f_160 L_161 Q_162 H locs hq hP hS => ?_)
                  obtain ⟨⟨ef9, eL9, eQ9⟩, hq, p_164⟩ := hq
                  rw [ef9, eL9, eQ9] at hP; clear ef9 eL9 eQ9
                  refine lv_istore_n (lv' := [(2, .int r_163), (1, .int 0), (3, .int r_130), (0, .ref (h 0))]) hx hb dX12_product_90 rfl hl (by decide) rfl (fun ls hl => ?_)
                  refine lv_goto (tgt := 10) hx hb dX12_product_91 (by decide) ?_
                  exact ih_10 0 r_163 f_127 _ _ _ (by have kc0 : (0 : Int32).toInt = 0 := (by decide); have zz0_13 : (f_127 0 13).toInt = v_134.toInt := (congrArg Int32.toInt (show f_127 0 13 = v_134 from ev_134.symm)); omega) (by omega) (by have kc0 : (0 : Int32).toInt = 0 := (by decide); have zz0_13 : (f_127 0 13).toInt = v_134.toInt := (congrArg Int32.toInt (show f_127 0 13 = v_134 from ev_134.symm)); omega) (by have kc0 : (0 : Int32).toInt = 0 := (by decide); have zz0_16 : (f_127 0 16).toInt = v_137.toInt := (congrArg Int32.toInt (show f_127 0 16 = v_137 from ev_137.symm)); omega) (by have kc0 : (0 : Int32).toInt = 0 := (by decide); have zz0_15 : (f_127 0 15).toInt = v_140.toInt := (congrArg Int32.toInt (show f_127 0 15 = v_140 from ev_140.symm)); have zz0_16 : (f_127 0 16).toInt = v_137.toInt := (congrArg Int32.toInt (show f_127 0 16 = v_137 from ev_137.symm)); omega) (by have kc0 : (0 : Int32).toInt = 0 := (by decide); have zz0_13 : (f_127 0 13).toInt = v_134.toInt := (congrArg Int32.toInt (show f_127 0 13 = v_134 from ev_134.symm)); have zz0_14 : (f_127 0 14).toInt = v_22.toInt := (congrArg Int32.toInt (show f_127 0 14 = v_22 from ((hk_f_127 0 14 (by decide)).trans (by rw [ef_122, sg_up_s, sgu_n (by decide)]; exact ev_22.symm)))); omega) hI hF hP hS (lv_sub hl [3, 1, 0] rfl)
              · skip
                exfalso; have c_145 : y2_10.toInt = 42 := (by have z := Int32.toInt_inj.mpr c; have k1 : (42 : Int32).toInt = 42 := (by decide); omega); omega
  refine lv_aload_n hx hb dX12_product_0 rfl (lv_at hl 0 rfl) ?_
  have q_165 : (f 0 16).toInt = v_1.toInt := (congrArg Int32.toInt (show f 0 16 = v_1 from ev_1.symm))
  have q_166 : (f 0 15).toInt = v_3.toInt := (congrArg Int32.toInt (show f 0 15 = v_3 from ev_3.symm))
  have q_167 : (f 0 16).toInt = v_1.toInt := (congrArg Int32.toInt (show f 0 16 = v_1 from ev_1.symm))
  have q_168 : (f 0 13).toInt = v_5.toInt := (congrArg Int32.toInt (show f 0 13 = v_5 from ev_5.symm))
  refine sg_calli (va_runV (As := []) (rest := []) ⟨hx, hb, hml, hown, hts⟩ (kX12_one_1 l D ca za h hh f L Q hI (by omega) (by omega) H.size) (cwV 0 hts (gw_V (fun _ h => List.mem_cons_of_mem _ h) mw_789 mw_790 mw_791 mw_619 mw_788) rfl rfl rfl (by decide +kernel) ⟨Nat.le_of_ble_eq_true rfl, Nat.le_of_ble_eq_true rfl⟩) (sg_preV (ci := 12) (C := RX12) (T := TX12) (N := 55) hA hK hP hS hZ 0 (by decide) rfl rfl) rfl rfl hl.1 rfl (lv_room (Nat.le_of_ble_eq_true rfl)) dX12_product_1 ⟨Nat.le_refl _, Nat.le_refl _⟩) hA hS (fun r_172 f_169 L_170 Q_171 H locs hq hP hS => ?_)
  obtain ⟨⟨hI, hk_f_169, eL9, eQ9⟩, hq, p_173, p_174, p_175⟩ := hq
  rw [eL9, eQ9] at hP; clear eL9 eQ9
  have hF : sgK WkX12_product_1 f f_169 := sgK.tr hF hk_f_169 (by decide)
  obtain ⟨v_176, ev_176⟩ : ∃ z : Int32, z = f_169 0 13 := ⟨_, rfl⟩
  have q_177 : 0 ≤ v_176.toInt ∧ v_176.toInt ≤ 120 := by rw [ev_176]; exact hI 0 13
  have q_178 : (f_169 0 13).toInt = v_176.toInt := (congrArg Int32.toInt (show f_169 0 13 = v_176 from ev_176.symm))
  obtain ⟨v_179, ev_179⟩ : ∃ z : Int32, z = f_169 0 16 := ⟨_, rfl⟩
  have q_180 : 0 ≤ v_179.toInt ∧ v_179.toInt ≤ 6 := by rw [ev_179]; exact hI 0 16
  have q_181 : (f_169 0 16).toInt = v_179.toInt := (congrArg Int32.toInt (show f_169 0 16 = v_179 from ev_179.symm))
  obtain ⟨v_182, ev_182⟩ : ∃ z : Int32, z = f_169 0 15 := ⟨_, rfl⟩
  have q_183 : (-1) ≤ v_182.toInt ∧ v_182.toInt ≤ 120 := by rw [ev_182]; exact hI 0 15
  have q_184 : (f_169 0 15).toInt = v_182.toInt := (congrArg Int32.toInt (show f_169 0 15 = v_182 from ev_182.symm))
  have q_185 : (f_169 0 16).toInt = v_179.toInt := (congrArg Int32.toInt (show f_169 0 16 = v_179 from ev_179.symm))
  refine lv_istore_n (lv' := [(1, .int r_172), (0, .ref (h 0))]) hx hb dX12_product_4 rfl hl (by decide) rfl (fun ls hl => ?_)
  refine lv_aload_n hx hb dX12_product_5 rfl (lv_at hl 1 rfl) ?_
  have q_186 : (f_169 0 13).toInt = v_176.toInt := (congrArg Int32.toInt (show f_169 0 13 = v_176 from ev_176.symm))
  have q_187 : (f_169 0 14).toInt = v_7.toInt := (congrArg Int32.toInt (show f_169 0 14 = v_7 from ((hk_f_169 0 14 (by decide)).trans ev_7.symm)))
  refine sg_calli (va_runV (As := []) (rest := []) ⟨hx, hb, hml, hown, hts⟩ (kX12_byteAt l D ca za h hh f_169 L Q hI H.size) (cwV 0 hts (gw_V (fun _ h => List.mem_cons_of_mem _ h) mw_840 mw_841 mw_842 mw_619 mw_839) rfl rfl rfl (by decide +kernel) ⟨Nat.le_of_ble_eq_true rfl, Nat.le_of_ble_eq_true rfl⟩) (sg_preV (ci := 12) (C := RX12) (T := TX12) (N := 55) hA hK hP hS hZ 0 (by decide) rfl rfl) rfl rfl hl.1 rfl (lv_room (Nat.le_of_ble_eq_true rfl)) dX12_product_6 ⟨Nat.le_refl _, Nat.le_refl _⟩) hA hS (fun r_191 f_188 L_189 Q_190 H locs hq hP hS => ?_)
  obtain ⟨⟨ef9, eL9, eQ9⟩, hq, p_192⟩ := hq
  rw [ef9, eL9, eQ9] at hP; clear ef9 eL9 eQ9
  refine lv_istore_n (lv' := [(2, .int r_191), (1, .int r_172), (0, .ref (h 0))]) hx hb dX12_product_9 rfl hl (by decide) rfl (fun ls hl => ?_)
  exact loop_10 121 r_172 r_191 f_169 _ _ _ (by have zz0_13 : (f_169 0 13).toInt = v_176.toInt := (congrArg Int32.toInt (show f_169 0 13 = v_176 from ev_176.symm)); omega) (by omega) (by have zz0_13 : (f_169 0 13).toInt = v_176.toInt := (congrArg Int32.toInt (show f_169 0 13 = v_176 from ev_176.symm)); omega) (by have zz0_16 : (f_169 0 16).toInt = v_179.toInt := (congrArg Int32.toInt (show f_169 0 16 = v_179 from ev_179.symm)); omega) (by have zz0_15 : (f_169 0 15).toInt = v_182.toInt := (congrArg Int32.toInt (show f_169 0 15 = v_182 from ev_182.symm)); have zz0_16 : (f_169 0 16).toInt = v_179.toInt := (congrArg Int32.toInt (show f_169 0 16 = v_179 from ev_179.symm)); omega) (by have zz0_13 : (f_169 0 13).toInt = v_176.toInt := (congrArg Int32.toInt (show f_169 0 13 = v_176 from ev_176.symm)); have zz0_14 : (f_169 0 14).toInt = v_7.toInt := (congrArg Int32.toInt (show f_169 0 14 = v_7 from ((hk_f_169 0 14 (by decide)).trans ev_7.symm))); omega) hI hF hP hS (lv_sub hl [2, 1, 0] rfl)

abbrev WkX12_sums_1 : List (Nat × Nat × Option Nat) := [(0, 0, some 13), (0, 0, some 15), (0, 0, some 16)]
set_option maxHeartbeats 4000000 in
set_option maxRecDepth 100000 in
theorem kX12_sums_1 (l : Launch) (D : va_G) (ca : Nat → ClassId) (za h : Nat → Nat) (hh : sgH 26 h) (f : sg_F) (L : sg_L) (Q : sg_Q) (hI : sgI loM hiM f) (p0 : 1 ≤ (f 0 16).toInt) (p1 : 0 ≤ (f 0 15).toInt ∨ (f 0 16).toInt = 1) (sz : Nat) : Met l yX12_sums gwX12_sums { frames := 33, cells := 0, slots := 0, locals := 752 } (sgP D vwCl (tyX ca) 26 h (eM ca h) zcM za f L Q sz [.ref (h 0)]) (sgQi D vwCl 26 h (eM ca h) sz (fun r f1 L1 Q1 => ((sgI loM hiM f1 ∧ sgK WkX12_sums_1 f f1 ∧ L1 = L ∧ Q1 = Q) ∧ True ∧ ((f 0 13).toInt ≤ (f1 0 13).toInt) ∧ (1 ≤ (f1 0 16).toInt) ∧ (0 ≤ (f1 0 15).toInt ∨ (f1 0 16).toInt = 1)))) 0 0 (sgA 26 h sz) := by
  refine sg_ofWi (cc := cX12_sums) (maxL := 4) RX12 (by decide) rfl rfl (Nat.le_of_ble_eq_true rfl) ?_
  intro p e s m below meth cd Qz ls hx hb hml hown hts hK hZ hP hS hl hret
  have hA := sgY.self (n := 26) (h := h) (sz := s.heap.size)
  have hl : lv_has ls 4 [(0, .ref (h 0))] := hl
  obtain ⟨H, hH⟩ : ∃ z : Heap, z = s.heap := ⟨_, rfl⟩
  obtain ⟨locs, hlo⟩ : ∃ z : List Loc, z = [] := ⟨_, rfl⟩
  have hP : va_P D vwCl (sgw 26 h (eM ca h) f L Q) H := by rw [hH]; exact hP
  have hS : va_S (sgA 26 h s.heap.size) s.heap H locs := by rw [hH, hlo]; exact hS
  suffices hgo : W p l e ({ frames := 33, cells := 0, slots := 0, locals := 752 }) s m ([.ref (h 0)] : List Value).toArray below meth cd H locs 0 0 Qz (F0 m 0 ls []) by rw [hH, hlo] at hgo; exact hgo
  clear hH hlo
  obtain ⟨v_1, ev_1⟩ : ∃ z : Int32, z = f 0 16 := ⟨_, rfl⟩
  have q_2 : 0 ≤ v_1.toInt ∧ v_1.toInt ≤ 6 := by rw [ev_1]; exact hI 0 16
  obtain ⟨v_3, ev_3⟩ : ∃ z : Int32, z = f 0 15 := ⟨_, rfl⟩
  have q_4 : (-1) ≤ v_3.toInt ∧ v_3.toInt ≤ 120 := by rw [ev_3]; exact hI 0 15
  obtain ⟨v_5, ev_5⟩ : ∃ z : Int32, z = f 0 13 := ⟨_, rfl⟩
  have q_6 : 0 ≤ v_5.toInt ∧ v_5.toInt ≤ 120 := by rw [ev_5]; exact hI 0 13
  have o_7 : (f 0 16).toInt = v_1.toInt := (congrArg Int32.toInt (show f 0 16 = v_1 from ev_1.symm))
  have o_8 : (f 0 15).toInt = v_3.toInt := (congrArg Int32.toInt (show f 0 15 = v_3 from ev_3.symm))
  have o_9 : (f 0 13).toInt = v_5.toInt := (congrArg Int32.toInt (show f 0 13 = v_5 from ev_5.symm))
  have hF : sgK WkX12_sums_1 f f := sgK.rf
  have loop_5 : ∀ (n_5 : Nat) (y1_5 : Int32) (fp_5 : sg_F) (H : Heap) (locs : List Loc) (ls : Array Slot), 120 - (fp_5 0 13).toInt < (n_5 : Int) → (f 0 13).toInt ≤ (fp_5 0 13).toInt → 1 ≤ (fp_5 0 16).toInt → 0 ≤ (fp_5 0 15).toInt ∨ (fp_5 0 16).toInt = 1 → sgI loM hiM fp_5 → sgK WkX12_sums_1 f fp_5 → va_P D vwCl (sgw 26 h (eM ca h) fp_5 L Q) H → va_S (sgA 26 h s.heap.size) s.heap H locs → lv_has ls 4 [(0, .ref (h 0)), (1, .int y1_5)] → W p l e ({ frames := 33, cells := 0, slots := 0, locals := 752 }) s m ([.ref (h 0)] : List Value).toArray below meth cd H locs 0 0 Qz (F0 m 5 ls []) := by
    intro n_5
    induction n_5 with
    | zero => intro y1_5 fp_5 H locs ls hm_5 hg0_5 hg1_5 hg2_5 hI hF hP hS hl; have zb := (show 0 ≤ (fp_5 0 13).toInt ∧ (fp_5 0 13).toInt ≤ 120 from hI 0 13); exact absurd hm_5 (by omega)
    | succ n_5 ih_5 =>
      intro y1_5 fp_5 H locs ls hm_5 hg0_5 hg1_5 hg2_5 hI hF hP hS hl
      obtain ⟨v_10, ev_10⟩ : ∃ z : Int32, z = fp_5 0 13 := ⟨_, rfl⟩
      have q_11 : 0 ≤ v_10.toInt ∧ v_10.toInt ≤ 120 := by rw [ev_10]; exact hI 0 13
      have q_12 : (fp_5 0 13).toInt = v_10.toInt := by rw [ev_10]
      obtain ⟨v_13, ev_13⟩ : ∃ z : Int32, z = fp_5 0 16 := ⟨_, rfl⟩
      have q_14 : 0 ≤ v_13.toInt ∧ v_13.toInt ≤ 6 := by rw [ev_13]; exact hI 0 16
      have q_15 : (fp_5 0 16).toInt = v_13.toInt := by rw [ev_13]
      obtain ⟨v_16, ev_16⟩ : ∃ z : Int32, z = fp_5 0 15 := ⟨_, rfl⟩
      have q_17 : (-1) ≤ v_16.toInt ∧ v_16.toInt ≤ 120 := by rw [ev_16]; exact hI 0 15
      have q_18 : (fp_5 0 15).toInt = v_16.toInt := by rw [ev_16]
      refine lv_aload_n hx hb dX12_sums_5 rfl (lv_at hl 0 rfl) ?_
      refine sg_get (ci := 12) (v := .int v_16) (C := RX12) (T := TX12) (N := 55) hx hb hts (fun w h => List.mem_cons_of_mem _ (gx_12 w h)) hown hK hP 0 (by decide) rfl rfl 15 (by decide) (hts _ (List.mem_cons_of_mem _ mw_627)) (fun _ h9 => h9) (congrArg (fun z => some (Value.int z)) (show fp_5 0 15 = v_16 from ev_16.symm)) dX12_sums_6 ?_
      refine lv_if_ge (tgt := 77) hx hb dX12_sums_9 (by decide) (fun c => ?_) (fun c => ?_)
      · skip
        have c_19 : 0 ≤ v_16.toInt := (by have z := bn_le c; have k1 : (0 : Int32).toInt = 0 := (by decide); omega)
        refine lv_iload_n hx hb dX12_sums_77 rfl (lv_at hl 1 rfl) ?_
        have q_21 : (fp_5 0 13).toInt = v_10.toInt := (congrArg Int32.toInt (show fp_5 0 13 = v_10 from ev_10.symm))
        have q_22 : (fp_5 0 16).toInt = v_13.toInt := (congrArg Int32.toInt (show fp_5 0 16 = v_13 from ev_13.symm))
        have q_23 : (fp_5 0 15).toInt = v_16.toInt := (congrArg Int32.toInt (show fp_5 0 15 = v_16 from ev_16.symm))
        have q_24 : (fp_5 0 16).toInt = v_13.toInt := (congrArg Int32.toInt (show fp_5 0 16 = v_13 from ev_13.symm))
        exact hret _ _ _ _ (y1_5) fp_5 L Q dX12_sums_78 hP hS ⟨⟨hI, hF, rfl, rfl⟩, trivial, (by omega), (by omega), (by omega)⟩
      · skip
        have c_20 : v_16.toInt < 0 := (by have z := bn_nle c; have k1 : (0 : Int32).toInt = 0 := (by decide); omega)
        refine lv_aload_n hx hb dX12_sums_12 rfl (lv_at hl 0 rfl) ?_
        have q_25 : (fp_5 0 13).toInt = v_10.toInt := (congrArg Int32.toInt (show fp_5 0 13 = v_10 from ev_10.symm))
        obtain ⟨v_26, ev_26⟩ : ∃ z : Int32, z = fp_5 0 14 := ⟨_, rfl⟩
        have q_27 : 0 ≤ v_26.toInt ∧ v_26.toInt ≤ 120 := by rw [ev_26]; exact hI 0 14
        have q_28 : (fp_5 0 14).toInt = v_26.toInt := (congrArg Int32.toInt (show fp_5 0 14 = v_26 from ev_26.symm))
        refine sg_calli (va_runV (As := []) (rest := []) ⟨hx, hb, hml, hown, hts⟩ (kX12_byteAt l D ca za h hh fp_5 L Q hI H.size) (cwV 0 hts (gw_V (fun _ h => List.mem_cons_of_mem _ h) mw_840 mw_841 mw_842 mw_619 mw_839) rfl rfl rfl (by decide +kernel) ⟨Nat.le_of_ble_eq_true rfl, Nat.le_of_ble_eq_true rfl⟩) (sg_preV (ci := 12) (C := RX12) (T := TX12) (N := 55) hA hK hP hS hZ 0 (by decide) rfl rfl) rfl rfl hl.1 rfl (lv_room (Nat.le_of_ble_eq_true rfl)) dX12_sums_13 ⟨Nat.le_refl _, Nat.le_refl _⟩) hA hS (fun r_32 f_29 L_30 Q_31 H locs hq hP hS => ?_)
        obtain ⟨⟨ef9, eL9, eQ9⟩, hq, p_33⟩ := hq
        rw [ef9, eL9, eQ9] at hP; clear ef9 eL9 eQ9
        refine lv_bipush (v := 43) hx hb dX12_sums_16 (by decide) ?_
        refine lv_icmp_eq (tgt := 30) hx hb dX12_sums_18 (by decide) (fun c => ?_) (fun c => ?_)
        · skip
          have c_34 : r_32.toInt = 43 := (by have z := Int32.toInt_inj.mpr c; have k1 : (43 : Int32).toInt = 43 := (by decide); omega)
          refine lv_aload_n hx hb dX12_sums_30 rfl (lv_at hl 0 rfl) ?_
          have q_36 : (fp_5 0 13).toInt = v_10.toInt := (congrArg Int32.toInt (show fp_5 0 13 = v_10 from ev_10.symm))
          have q_37 : (fp_5 0 14).toInt = v_26.toInt := (congrArg Int32.toInt (show fp_5 0 14 = v_26 from ev_26.symm))
          refine sg_calli (va_runV (As := []) (rest := []) ⟨hx, hb, hml, hown, hts⟩ (kX12_byteAt l D ca za h hh fp_5 L Q hI H.size) (cwV 0 hts (gw_V (fun _ h => List.mem_cons_of_mem _ h) mw_840 mw_841 mw_842 mw_619 mw_839) rfl rfl rfl (by decide +kernel) ⟨Nat.le_of_ble_eq_true rfl, Nat.le_of_ble_eq_true rfl⟩) (sg_preV (ci := 12) (C := RX12) (T := TX12) (N := 55) hA hK hP hS hZ 0 (by decide) rfl rfl) rfl rfl hl.1 rfl (lv_room (Nat.le_of_ble_eq_true rfl)) dX12_sums_31 ⟨Nat.le_refl _, Nat.le_refl _⟩) hA hS (fun r_41 f_38 L_39 Q_40 H locs hq hP hS => ?_)
          obtain ⟨⟨ef9, eL9, eQ9⟩, hq, p_42⟩ := hq
          rw [ef9, eL9, eQ9] at hP; clear ef9 eL9 eQ9
          refine lv_bipush (v := 43) hx hb dX12_sums_34 (by decide) ?_
          refine lv_icmp_ne (tgt := 43) hx hb dX12_sums_36 (by decide) (fun c => ?_) (fun c => ?_)
          · skip
            have c_43 : r_41.toInt ≠ 43 := (by have z := bn_ne c; have k1 : (43 : Int32).toInt = 43 := (by decide); omega)
            refine lv_iconst (v := 0) hx hb dX12_sums_43 (by decide) ?_
            refine lv_istore_n (lv' := [(2, .int 0), (0, .ref (h 0)), (1, .int y1_5)]) hx hb dX12_sums_44 rfl hl (by decide) rfl (fun ls hl => ?_)
            refine lv_aload_n hx hb dX12_sums_45 rfl (lv_at hl 1 rfl) ?_
            refine lv_dup hx hb dX12_sums_46 rfl ?_
            refine sg_get (ci := 12) (v := .int v_10) (C := RX12) (T := TX12) (N := 55) hx hb hts (fun w h => List.mem_cons_of_mem _ (gx_12 w h)) hown hK hP 0 (by decide) rfl rfl 13 (by decide) (hts _ (List.mem_cons_of_mem _ mw_625)) (fun _ h9 => h9) (congrArg (fun z => some (Value.int z)) (show fp_5 0 13 = v_10 from ev_10.symm)) dX12_sums_47 ?_
            refine lv_iconst (v := 1) hx hb dX12_sums_50 (by decide) ?_
            refine lv_iadd hx hb dX12_sums_51 ?_
            refine lv_topi (fun v_45 ev_45 => ?_)
            have q_46 : v_45.toInt = v_10.toInt + 1 := by rw [ev_45]; have k1 : (1 : Int32).toInt = 1 := (by decide); exact (bn_addI (by omega) (by omega)).trans (by omega)
            refine sg_put (ci := 12) (x := v_45) (ty := .int) (C := RX12) (T := TX12) (N := 55) hx hb hts (fun w h => List.mem_cons_of_mem _ (gx_12 w h)) tyX12 tyX12_ok nmX12 hown hh hA hK hP hS 0 (by decide) rfl rfl 13 (by decide) (hts _ (List.mem_cons_of_mem _ mw_625)) (fun _ h9 => h9) rfl rfl (by decide +kernel) rfl rfl (Nat.le_of_ble_eq_true rfl) dX12_sums_52 (fun f_47 H locs ef_47 hP hS => ?_)
            have hI : sgI loM hiM f_47 := by rw [ef_47]; exact sgI.put hI 0 13 (show 0 ≤ (v_45 : Int32).toInt ∧ (v_45 : Int32).toInt ≤ 120 from by omega)
            have hF : sgK WkX12_sums_1 f f_47 := sgK.put hF ef_47 (by rfl)
            refine lv_aload_n hx hb dX12_sums_55 rfl (lv_at hl 1 rfl) ?_
            have q_48 : (f_47 0 16).toInt = v_13.toInt := (congrArg Int32.toInt (show f_47 0 16 = v_13 from (by rw [ef_47, sg_up_s, sgu_n (by decide)]; exact ev_13.symm)))
            have q_49 : (f_47 0 15).toInt = v_16.toInt := (congrArg Int32.toInt (show f_47 0 15 = v_16 from (by rw [ef_47, sg_up_s, sgu_n (by decide)]; exact ev_16.symm)))
            have q_50 : (f_47 0 16).toInt = v_13.toInt := (congrArg Int32.toInt (show f_47 0 16 = v_13 from (by rw [ef_47, sg_up_s, sgu_n (by decide)]; exact ev_13.symm)))
            have q_51 : (f_47 0 13).toInt = v_45.toInt := (congrArg Int32.toInt (show f_47 0 13 = v_45 from (by rw [ef_47, sg_up_s, sgu_s])))
            refine sg_calli (va_runV (As := []) (rest := []) ⟨hx, hb, hml, hown, hts⟩ (kX12_product_1 l D ca za h hh f_47 L Q hI (by omega) (by omega) H.size) (cwV 0 hts (gw_V (fun _ h => List.mem_cons_of_mem _ h) mw_848 mw_849 mw_850 mw_619 mw_847) rfl rfl rfl (by decide +kernel) ⟨Nat.le_of_ble_eq_true rfl, Nat.le_of_ble_eq_true rfl⟩) (sg_preV (ci := 12) (C := RX12) (T := TX12) (N := 55) hA hK hP hS hZ 0 (by decide) rfl rfl) rfl rfl hl.1 rfl (lv_room (Nat.le_of_ble_eq_true rfl)) dX12_sums_56 ⟨Nat.le_refl _, Nat.le_refl _⟩) hA hS (fun r_55 f_52 L_53 Q_54 H locs hq hP hS => ?_)
            obtain ⟨⟨hI, hk_f_52, eL9, eQ9⟩, hq, p_56, p_57, p_58⟩ := hq
            rw [eL9, eQ9] at hP; clear eL9 eQ9
            have hF : sgK WkX12_sums_1 f f_52 := sgK.tr hF hk_f_52 (by decide)
            obtain ⟨v_59, ev_59⟩ : ∃ z : Int32, z = f_52 0 13 := ⟨_, rfl⟩
            have q_60 : 0 ≤ v_59.toInt ∧ v_59.toInt ≤ 120 := by rw [ev_59]; exact hI 0 13
            have q_61 : (f_52 0 13).toInt = v_59.toInt := (congrArg Int32.toInt (show f_52 0 13 = v_59 from ev_59.symm))
            obtain ⟨v_62, ev_62⟩ : ∃ z : Int32, z = f_52 0 16 := ⟨_, rfl⟩
            have q_63 : 0 ≤ v_62.toInt ∧ v_62.toInt ≤ 6 := by rw [ev_62]; exact hI 0 16
            have q_64 : (f_52 0 16).toInt = v_62.toInt := (congrArg Int32.toInt (show f_52 0 16 = v_62 from ev_62.symm))
            obtain ⟨v_65, ev_65⟩ : ∃ z : Int32, z = f_52 0 15 := ⟨_, rfl⟩
            have q_66 : (-1) ≤ v_65.toInt ∧ v_65.toInt ≤ 120 := by rw [ev_65]; exact hI 0 15
            have q_67 : (f_52 0 15).toInt = v_65.toInt := (congrArg Int32.toInt (show f_52 0 15 = v_65 from ev_65.symm))
            have q_68 : (f_52 0 16).toInt = v_62.toInt := (congrArg Int32.toInt (show f_52 0 16 = v_62 from ev_62.symm))
            refine lv_istore_n (lv' := [(3, .int r_55), (2, .int 0), (0, .ref (h 0)), (1, .int y1_5)]) hx hb dX12_sums_59 rfl hl (by decide) rfl (fun ls hl => ?_)
            refine lv_iload_n hx hb dX12_sums_60 rfl (lv_at hl 1 rfl) ?_
            refine lv_if_eq (tgt := 70) hx hb dX12_sums_61 (by decide) (fun c => ?_) (fun c => absurd c (by decide))
            refine lv_iload_n hx hb dX12_sums_70 rfl (lv_at hl 3 rfl) ?_
            refine lv_iload_n hx hb dX12_sums_71 rfl (lv_at hl 0 rfl) ?_
            refine lv_isub hx hb dX12_sums_72 ?_
            refine lv_topi (fun v_69 ev_69 => ?_)
            refine lv_istore_n (lv' := [(1, .int v_69), (3, .int r_55), (2, .int 0), (0, .ref (h 0))]) hx hb dX12_sums_73 rfl hl (by decide) rfl (fun ls hl => ?_)
            refine lv_goto (tgt := 5) hx hb dX12_sums_74 (by decide) ?_
            exact ih_5 v_69 f_52 _ _ _ (by have zz0_13 : (f_52 0 13).toInt = v_59.toInt := (congrArg Int32.toInt (show f_52 0 13 = v_59 from ev_59.symm)); omega) (by have zz0_13 : (f_52 0 13).toInt = v_59.toInt := (congrArg Int32.toInt (show f_52 0 13 = v_59 from ev_59.symm)); omega) (by have zz0_16 : (f_52 0 16).toInt = v_62.toInt := (congrArg Int32.toInt (show f_52 0 16 = v_62 from ev_62.symm)); omega) (by have zz0_15 : (f_52 0 15).toInt = v_65.toInt := (congrArg Int32.toInt (show f_52 0 15 = v_65 from ev_65.symm)); have zz0_16 : (f_52 0 16).toInt = v_62.toInt := (congrArg Int32.toInt (show f_52 0 16 = v_62 from ev_62.symm)); omega) hI hF hP hS (lv_sub hl [3, 0] rfl)
          · skip
            have c_44 : r_41.toInt = 43 := (by have z := Int32.toInt_inj.mpr c; have k1 : (43 : Int32).toInt = 43 := (by decide); omega)
            refine lv_iconst (v := 1) hx hb dX12_sums_39 (by decide) ?_
            refine lv_goto (tgt := 44) hx hb dX12_sums_40 (by decide) ?_
            refine lv_istore_n (lv' := [(2, .int 1), (0, .ref (h 0)), (1, .int y1_5)]) hx hb dX12_sums_44 rfl hl (by decide) rfl (fun ls hl => ?_)
            refine lv_aload_n hx hb dX12_sums_45 rfl (lv_at hl 1 rfl) ?_
            refine lv_dup hx hb dX12_sums_46 rfl ?_
            refine sg_get (ci := 12) (v := .int v_10) (C := RX12) (T := TX12) (N := 55) hx hb hts (fun w h => List.mem_cons_of_mem _ (gx_12 w h)) hown hK hP 0 (by decide) rfl rfl 13 (by decide) (hts _ (List.mem_cons_of_mem _ mw_625)) (fun _ h9 => h9) (congrArg (fun z => some (Value.int z)) (show fp_5 0 13 = v_10 from ev_10.symm)) dX12_sums_47 ?_
            refine lv_iconst (v := 1) hx hb dX12_sums_50 (by decide) ?_
            refine lv_iadd hx hb dX12_sums_51 ?_
            refine lv_topi (fun v_70 ev_70 => ?_)
            have q_71 : v_70.toInt = v_10.toInt + 1 := by rw [ev_70]; have k1 : (1 : Int32).toInt = 1 := (by decide); exact (bn_addI (by omega) (by omega)).trans (by omega)
            refine sg_put (ci := 12) (x := v_70) (ty := .int) (C := RX12) (T := TX12) (N := 55) hx hb hts (fun w h => List.mem_cons_of_mem _ (gx_12 w h)) tyX12 tyX12_ok nmX12 hown hh hA hK hP hS 0 (by decide) rfl rfl 13 (by decide) (hts _ (List.mem_cons_of_mem _ mw_625)) (fun _ h9 => h9) rfl rfl (by decide +kernel) rfl rfl (Nat.le_of_ble_eq_true rfl) dX12_sums_52 (fun f_72 H locs ef_72 hP hS => ?_)
            have hI : sgI loM hiM f_72 := by rw [ef_72]; exact sgI.put hI 0 13 (show 0 ≤ (v_70 : Int32).toInt ∧ (v_70 : Int32).toInt ≤ 120 from by omega)
            have hF : sgK WkX12_sums_1 f f_72 := sgK.put hF ef_72 (by rfl)
            refine lv_aload_n hx hb dX12_sums_55 rfl (lv_at hl 1 rfl) ?_
            have q_73 : (f_72 0 16).toInt = v_13.toInt := (congrArg Int32.toInt (show f_72 0 16 = v_13 from (by rw [ef_72, sg_up_s, sgu_n (by decide)]; exact ev_13.symm)))
            have q_74 : (f_72 0 15).toInt = v_16.toInt := (congrArg Int32.toInt (show f_72 0 15 = v_16 from (by rw [ef_72, sg_up_s, sgu_n (by decide)]; exact ev_16.symm)))
            have q_75 : (f_72 0 16).toInt = v_13.toInt := (congrArg Int32.toInt (show f_72 0 16 = v_13 from (by rw [ef_72, sg_up_s, sgu_n (by decide)]; exact ev_13.symm)))
            have q_76 : (f_72 0 13).toInt = v_70.toInt := (congrArg Int32.toInt (show f_72 0 13 = v_70 from (by rw [ef_72, sg_up_s, sgu_s])))
            refine sg_calli (va_runV (As := []) (rest := []) ⟨hx, hb, hml, hown, hts⟩ (kX12_product_1 l D ca za h hh f_72 L Q hI (by omega) (by omega) H.size) (cwV 0 hts (gw_V (fun _ h => List.mem_cons_of_mem _ h) mw_848 mw_849 mw_850 mw_619 mw_847) rfl rfl rfl (by decide +kernel) ⟨Nat.le_of_ble_eq_true rfl, Nat.le_of_ble_eq_true rfl⟩) (sg_preV (ci := 12) (C := RX12) (T := TX12) (N := 55) hA hK hP hS hZ 0 (by decide) rfl rfl) rfl rfl hl.1 rfl (lv_room (Nat.le_of_ble_eq_true rfl)) dX12_sums_56 ⟨Nat.le_refl _, Nat.le_refl _⟩) hA hS (fun r_80 f_77 L_78 Q_79 H locs hq hP hS => ?_)
            obtain ⟨⟨hI, hk_f_77, eL9, eQ9⟩, hq, p_81, p_82, p_83⟩ := hq
            rw [eL9, eQ9] at hP; clear eL9 eQ9
            have hF : sgK WkX12_sums_1 f f_77 := sgK.tr hF hk_f_77 (by decide)
            obtain ⟨v_84, ev_84⟩ : ∃ z : Int32, z = f_77 0 13 := ⟨_, rfl⟩
            have q_85 : 0 ≤ v_84.toInt ∧ v_84.toInt ≤ 120 := by rw [ev_84]; exact hI 0 13
            have q_86 : (f_77 0 13).toInt = v_84.toInt := (congrArg Int32.toInt (show f_77 0 13 = v_84 from ev_84.symm))
            obtain ⟨v_87, ev_87⟩ : ∃ z : Int32, z = f_77 0 16 := ⟨_, rfl⟩
            have q_88 : 0 ≤ v_87.toInt ∧ v_87.toInt ≤ 6 := by rw [ev_87]; exact hI 0 16
            have q_89 : (f_77 0 16).toInt = v_87.toInt := (congrArg Int32.toInt (show f_77 0 16 = v_87 from ev_87.symm))
            obtain ⟨v_90, ev_90⟩ : ∃ z : Int32, z = f_77 0 15 := ⟨_, rfl⟩
            have q_91 : (-1) ≤ v_90.toInt ∧ v_90.toInt ≤ 120 := by rw [ev_90]; exact hI 0 15
            have q_92 : (f_77 0 15).toInt = v_90.toInt := (congrArg Int32.toInt (show f_77 0 15 = v_90 from ev_90.symm))
            have q_93 : (f_77 0 16).toInt = v_87.toInt := (congrArg Int32.toInt (show f_77 0 16 = v_87 from ev_87.symm))
            refine lv_istore_n (lv' := [(3, .int r_80), (2, .int 1), (0, .ref (h 0)), (1, .int y1_5)]) hx hb dX12_sums_59 rfl hl (by decide) rfl (fun ls hl => ?_)
            refine lv_iload_n hx hb dX12_sums_60 rfl (lv_at hl 1 rfl) ?_
            refine lv_if_eq (tgt := 70) hx hb dX12_sums_61 (by decide) (fun c => absurd c (by decide)) (fun c => ?_)
            refine lv_iload_n hx hb dX12_sums_64 rfl (lv_at hl 3 rfl) ?_
            refine lv_iload_n hx hb dX12_sums_65 rfl (lv_at hl 0 rfl) ?_
            refine lv_iadd hx hb dX12_sums_66 ?_
            refine lv_topi (fun v_94 ev_94 => ?_)
            refine lv_goto (tgt := 73) hx hb dX12_sums_67 (by decide) ?_
            refine lv_istore_n (lv' := [(1, .int v_94), (3, .int r_80), (2, .int 1), (0, .ref (h 0))]) hx hb dX12_sums_73 rfl hl (by decide) rfl (fun ls hl => ?_)
            refine lv_goto (tgt := 5) hx hb dX12_sums_74 (by decide) ?_
            exact ih_5 v_94 f_77 _ _ _ (by have zz0_13 : (f_77 0 13).toInt = v_84.toInt := (congrArg Int32.toInt (show f_77 0 13 = v_84 from ev_84.symm)); omega) (by have zz0_13 : (f_77 0 13).toInt = v_84.toInt := (congrArg Int32.toInt (show f_77 0 13 = v_84 from ev_84.symm)); omega) (by have zz0_16 : (f_77 0 16).toInt = v_87.toInt := (congrArg Int32.toInt (show f_77 0 16 = v_87 from ev_87.symm)); omega) (by have zz0_15 : (f_77 0 15).toInt = v_90.toInt := (congrArg Int32.toInt (show f_77 0 15 = v_90 from ev_90.symm)); have zz0_16 : (f_77 0 16).toInt = v_87.toInt := (congrArg Int32.toInt (show f_77 0 16 = v_87 from ev_87.symm)); omega) hI hF hP hS (lv_sub hl [3, 0] rfl)
        · skip
          have c_35 : r_32.toInt ≠ 43 := (by have z := bn_ne c; have k1 : (43 : Int32).toInt = 43 := (by decide); omega)
          refine lv_aload_n hx hb dX12_sums_21 rfl (lv_at hl 0 rfl) ?_
          have q_95 : (fp_5 0 13).toInt = v_10.toInt := (congrArg Int32.toInt (show fp_5 0 13 = v_10 from ev_10.symm))
          have q_96 : (fp_5 0 14).toInt = v_26.toInt := (congrArg Int32.toInt (show fp_5 0 14 = v_26 from ev_26.symm))
          refine sg_calli (va_runV (As := []) (rest := []) ⟨hx, hb, hml, hown, hts⟩ (kX12_byteAt l D ca za h hh fp_5 L Q hI H.size) (cwV 0 hts (gw_V (fun _ h => List.mem_cons_of_mem _ h) mw_840 mw_841 mw_842 mw_619 mw_839) rfl rfl rfl (by decide +kernel) ⟨Nat.le_of_ble_eq_true rfl, Nat.le_of_ble_eq_true rfl⟩) (sg_preV (ci := 12) (C := RX12) (T := TX12) (N := 55) hA hK hP hS hZ 0 (by decide) rfl rfl) rfl rfl hl.1 rfl (lv_room (Nat.le_of_ble_eq_true rfl)) dX12_sums_22 ⟨Nat.le_refl _, Nat.le_refl _⟩) hA hS (fun r_100 f_97 L_98 Q_99 H locs hq hP hS => ?_)
          obtain ⟨⟨ef9, eL9, eQ9⟩, hq, p_101⟩ := hq
          rw [ef9, eL9, eQ9] at hP; clear ef9 eL9 eQ9
          refine lv_bipush (v := 45) hx hb dX12_sums_25 (by decide) ?_
          refine lv_icmp_ne (tgt := 77) hx hb dX12_sums_27 (by decide) (fun c => ?_) (fun c => ?_)
          · skip
            have c_102 : r_100.toInt ≠ 45 := (by have z := bn_ne c; have k1 : (45 : Int32).toInt = 45 := (by decide); omega)
            refine lv_iload_n hx hb dX12_sums_77 rfl (lv_at hl 1 rfl) ?_
            have q_104 : (fp_5 0 13).toInt = v_10.toInt := (congrArg Int32.toInt (show fp_5 0 13 = v_10 from ev_10.symm))
            have q_105 : (fp_5 0 16).toInt = v_13.toInt := (congrArg Int32.toInt (show fp_5 0 16 = v_13 from ev_13.symm))
            have q_106 : (fp_5 0 15).toInt = v_16.toInt := (congrArg Int32.toInt (show fp_5 0 15 = v_16 from ev_16.symm))
            have q_107 : (fp_5 0 16).toInt = v_13.toInt := (congrArg Int32.toInt (show fp_5 0 16 = v_13 from ev_13.symm))
            exact hret _ _ _ _ (y1_5) fp_5 L Q dX12_sums_78 hP hS ⟨⟨hI, hF, rfl, rfl⟩, trivial, (by omega), (by omega), (by omega)⟩
          · skip
            have c_103 : r_100.toInt = 45 := (by have z := Int32.toInt_inj.mpr c; have k1 : (45 : Int32).toInt = 45 := (by decide); omega)
            refine lv_aload_n hx hb dX12_sums_30 rfl (lv_at hl 0 rfl) ?_
            have q_108 : (fp_5 0 13).toInt = v_10.toInt := (congrArg Int32.toInt (show fp_5 0 13 = v_10 from ev_10.symm))
            have q_109 : (fp_5 0 14).toInt = v_26.toInt := (congrArg Int32.toInt (show fp_5 0 14 = v_26 from ev_26.symm))
            refine sg_calli (va_runV (As := []) (rest := []) ⟨hx, hb, hml, hown, hts⟩ (kX12_byteAt l D ca za h hh fp_5 L Q hI H.size) (cwV 0 hts (gw_V (fun _ h => List.mem_cons_of_mem _ h) mw_840 mw_841 mw_842 mw_619 mw_839) rfl rfl rfl (by decide +kernel) ⟨Nat.le_of_ble_eq_true rfl, Nat.le_of_ble_eq_true rfl⟩) (sg_preV (ci := 12) (C := RX12) (T := TX12) (N := 55) hA hK hP hS hZ 0 (by decide) rfl rfl) rfl rfl hl.1 rfl (lv_room (Nat.le_of_ble_eq_true rfl)) dX12_sums_31 ⟨Nat.le_refl _, Nat.le_refl _⟩) hA hS (fun r_113 f_110 L_111 Q_112 H locs hq hP hS => ?_)
            obtain ⟨⟨ef9, eL9, eQ9⟩, hq, p_114⟩ := hq
            rw [ef9, eL9, eQ9] at hP; clear ef9 eL9 eQ9
            refine lv_bipush (v := 43) hx hb dX12_sums_34 (by decide) ?_
            refine lv_icmp_ne (tgt := 43) hx hb dX12_sums_36 (by decide) (fun c => ?_) (fun c => ?_)
            · skip
              have c_115 : r_113.toInt ≠ 43 := (by have z := bn_ne c; have k1 : (43 : Int32).toInt = 43 := (by decide); omega)
              refine lv_iconst (v := 0) hx hb dX12_sums_43 (by decide) ?_
              refine lv_istore_n (lv' := [(2, .int 0), (0, .ref (h 0)), (1, .int y1_5)]) hx hb dX12_sums_44 rfl hl (by decide) rfl (fun ls hl => ?_)
              refine lv_aload_n hx hb dX12_sums_45 rfl (lv_at hl 1 rfl) ?_
              refine lv_dup hx hb dX12_sums_46 rfl ?_
              refine sg_get (ci := 12) (v := .int v_10) (C := RX12) (T := TX12) (N := 55) hx hb hts (fun w h => List.mem_cons_of_mem _ (gx_12 w h)) hown hK hP 0 (by decide) rfl rfl 13 (by decide) (hts _ (List.mem_cons_of_mem _ mw_625)) (fun _ h9 => h9) (congrArg (fun z => some (Value.int z)) (show fp_5 0 13 = v_10 from ev_10.symm)) dX12_sums_47 ?_
              refine lv_iconst (v := 1) hx hb dX12_sums_50 (by decide) ?_
              refine lv_iadd hx hb dX12_sums_51 ?_
              refine lv_topi (fun v_117 ev_117 => ?_)
              have q_118 : v_117.toInt = v_10.toInt + 1 := by rw [ev_117]; have k1 : (1 : Int32).toInt = 1 := (by decide); exact (bn_addI (by omega) (by omega)).trans (by omega)
              refine sg_put (ci := 12) (x := v_117) (ty := .int) (C := RX12) (T := TX12) (N := 55) hx hb hts (fun w h => List.mem_cons_of_mem _ (gx_12 w h)) tyX12 tyX12_ok nmX12 hown hh hA hK hP hS 0 (by decide) rfl rfl 13 (by decide) (hts _ (List.mem_cons_of_mem _ mw_625)) (fun _ h9 => h9) rfl rfl (by decide +kernel) rfl rfl (Nat.le_of_ble_eq_true rfl) dX12_sums_52 (fun f_119 H locs ef_119 hP hS => ?_)
              have hI : sgI loM hiM f_119 := by rw [ef_119]; exact sgI.put hI 0 13 (show 0 ≤ (v_117 : Int32).toInt ∧ (v_117 : Int32).toInt ≤ 120 from by omega)
              have hF : sgK WkX12_sums_1 f f_119 := sgK.put hF ef_119 (by rfl)
              refine lv_aload_n hx hb dX12_sums_55 rfl (lv_at hl 1 rfl) ?_
              have q_120 : (f_119 0 16).toInt = v_13.toInt := (congrArg Int32.toInt (show f_119 0 16 = v_13 from (by rw [ef_119, sg_up_s, sgu_n (by decide)]; exact ev_13.symm)))
              have q_121 : (f_119 0 15).toInt = v_16.toInt := (congrArg Int32.toInt (show f_119 0 15 = v_16 from (by rw [ef_119, sg_up_s, sgu_n (by decide)]; exact ev_16.symm)))
              have q_122 : (f_119 0 16).toInt = v_13.toInt := (congrArg Int32.toInt (show f_119 0 16 = v_13 from (by rw [ef_119, sg_up_s, sgu_n (by decide)]; exact ev_13.symm)))
              have q_123 : (f_119 0 13).toInt = v_117.toInt := (congrArg Int32.toInt (show f_119 0 13 = v_117 from (by rw [ef_119, sg_up_s, sgu_s])))
              refine sg_calli (va_runV (As := []) (rest := []) ⟨hx, hb, hml, hown, hts⟩ (kX12_product_1 l D ca za h hh f_119 L Q hI (by omega) (by omega) H.size) (cwV 0 hts (gw_V (fun _ h => List.mem_cons_of_mem _ h) mw_848 mw_849 mw_850 mw_619 mw_847) rfl rfl rfl (by decide +kernel) ⟨Nat.le_of_ble_eq_true rfl, Nat.le_of_ble_eq_true rfl⟩) (sg_preV (ci := 12) (C := RX12) (T := TX12) (N := 55) hA hK hP hS hZ 0 (by decide) rfl rfl) rfl rfl hl.1 rfl (lv_room (Nat.le_of_ble_eq_true rfl)) dX12_sums_56 ⟨Nat.le_refl _, Nat.le_refl _⟩) hA hS (fun r_127 f_124 L_125 Q_126 H locs hq hP hS => ?_)
              obtain ⟨⟨hI, hk_f_124, eL9, eQ9⟩, hq, p_128, p_129, p_130⟩ := hq
              rw [eL9, eQ9] at hP; clear eL9 eQ9
              have hF : sgK WkX12_sums_1 f f_124 := sgK.tr hF hk_f_124 (by decide)
              obtain ⟨v_131, ev_131⟩ : ∃ z : Int32, z = f_124 0 13 := ⟨_, rfl⟩
              have q_132 : 0 ≤ v_131.toInt ∧ v_131.toInt ≤ 120 := by rw [ev_131]; exact hI 0 13
              have q_133 : (f_124 0 13).toInt = v_131.toInt := (congrArg Int32.toInt (show f_124 0 13 = v_131 from ev_131.symm))
              obtain ⟨v_134, ev_134⟩ : ∃ z : Int32, z = f_124 0 16 := ⟨_, rfl⟩
              have q_135 : 0 ≤ v_134.toInt ∧ v_134.toInt ≤ 6 := by rw [ev_134]; exact hI 0 16
              have q_136 : (f_124 0 16).toInt = v_134.toInt := (congrArg Int32.toInt (show f_124 0 16 = v_134 from ev_134.symm))
              obtain ⟨v_137, ev_137⟩ : ∃ z : Int32, z = f_124 0 15 := ⟨_, rfl⟩
              have q_138 : (-1) ≤ v_137.toInt ∧ v_137.toInt ≤ 120 := by rw [ev_137]; exact hI 0 15
              have q_139 : (f_124 0 15).toInt = v_137.toInt := (congrArg Int32.toInt (show f_124 0 15 = v_137 from ev_137.symm))
              have q_140 : (f_124 0 16).toInt = v_134.toInt := (congrArg Int32.toInt (show f_124 0 16 = v_134 from ev_134.symm))
              refine lv_istore_n (lv' := [(3, .int r_127), (2, .int 0), (0, .ref (h 0)), (1, .int y1_5)]) hx hb dX12_sums_59 rfl hl (by decide) rfl (fun ls hl => ?_)
              refine lv_iload_n hx hb dX12_sums_60 rfl (lv_at hl 1 rfl) ?_
              refine lv_if_eq (tgt := 70) hx hb dX12_sums_61 (by decide) (fun c => ?_) (fun c => absurd c (by decide))
              refine lv_iload_n hx hb dX12_sums_70 rfl (lv_at hl 3 rfl) ?_
              refine lv_iload_n hx hb dX12_sums_71 rfl (lv_at hl 0 rfl) ?_
              refine lv_isub hx hb dX12_sums_72 ?_
              refine lv_topi (fun v_141 ev_141 => ?_)
              refine lv_istore_n (lv' := [(1, .int v_141), (3, .int r_127), (2, .int 0), (0, .ref (h 0))]) hx hb dX12_sums_73 rfl hl (by decide) rfl (fun ls hl => ?_)
              refine lv_goto (tgt := 5) hx hb dX12_sums_74 (by decide) ?_
              exact ih_5 v_141 f_124 _ _ _ (by have zz0_13 : (f_124 0 13).toInt = v_131.toInt := (congrArg Int32.toInt (show f_124 0 13 = v_131 from ev_131.symm)); omega) (by have zz0_13 : (f_124 0 13).toInt = v_131.toInt := (congrArg Int32.toInt (show f_124 0 13 = v_131 from ev_131.symm)); omega) (by have zz0_16 : (f_124 0 16).toInt = v_134.toInt := (congrArg Int32.toInt (show f_124 0 16 = v_134 from ev_134.symm)); omega) (by have zz0_15 : (f_124 0 15).toInt = v_137.toInt := (congrArg Int32.toInt (show f_124 0 15 = v_137 from ev_137.symm)); have zz0_16 : (f_124 0 16).toInt = v_134.toInt := (congrArg Int32.toInt (show f_124 0 16 = v_134 from ev_134.symm)); omega) hI hF hP hS (lv_sub hl [3, 0] rfl)
            · skip
              have c_116 : r_113.toInt = 43 := (by have z := Int32.toInt_inj.mpr c; have k1 : (43 : Int32).toInt = 43 := (by decide); omega)
              refine lv_iconst (v := 1) hx hb dX12_sums_39 (by decide) ?_
              refine lv_goto (tgt := 44) hx hb dX12_sums_40 (by decide) ?_
              refine lv_istore_n (lv' := [(2, .int 1), (0, .ref (h 0)), (1, .int y1_5)]) hx hb dX12_sums_44 rfl hl (by decide) rfl (fun ls hl => ?_)
              refine lv_aload_n hx hb dX12_sums_45 rfl (lv_at hl 1 rfl) ?_
              refine lv_dup hx hb dX12_sums_46 rfl ?_
              refine sg_get (ci := 12) (v := .int v_10) (C := RX12) (T := TX12) (N := 55) hx hb hts (fun w h => List.mem_cons_of_mem _ (gx_12 w h)) hown hK hP 0 (by decide) rfl rfl 13 (by decide) (hts _ (List.mem_cons_of_mem _ mw_625)) (fun _ h9 => h9) (congrArg (fun z => some (Value.int z)) (show fp_5 0 13 = v_10 from ev_10.symm)) dX12_sums_47 ?_
              refine lv_iconst (v := 1) hx hb dX12_sums_50 (by decide) ?_
              refine lv_iadd hx hb dX12_sums_51 ?_
              refine lv_topi (fun v_142 ev_142 => ?_)
              have q_143 : v_142.toInt = v_10.toInt + 1 := by rw [ev_142]; have k1 : (1 : Int32).toInt = 1 := (by decide); exact (bn_addI (by omega) (by omega)).trans (by omega)
              refine sg_put (ci := 12) (x := v_142) (ty := .int) (C := RX12) (T := TX12) (N := 55) hx hb hts (fun w h => List.mem_cons_of_mem _ (gx_12 w h)) tyX12 tyX12_ok nmX12 hown hh hA hK hP hS 0 (by decide) rfl rfl 13 (by decide) (hts _ (List.mem_cons_of_mem _ mw_625)) (fun _ h9 => h9) rfl rfl (by decide +kernel) rfl rfl (Nat.le_of_ble_eq_true rfl) dX12_sums_52 (fun f_144 H locs ef_144 hP hS => ?_)
              have hI : sgI loM hiM f_144 := by rw [ef_144]; exact sgI.put hI 0 13 (show 0 ≤ (v_142 : Int32).toInt ∧ (v_142 : Int32).toInt ≤ 120 from by omega)
              have hF : sgK WkX12_sums_1 f f_144 := sgK.put hF ef_144 (by rfl)
              refine lv_aload_n hx hb dX12_sums_55 rfl (lv_at hl 1 rfl) ?_
              have q_145 : (f_144 0 16).toInt = v_13.toInt := (congrArg Int32.toInt (show f_144 0 16 = v_13 from (by rw [ef_144, sg_up_s, sgu_n (by decide)]; exact ev_13.symm)))
              have q_146 : (f_144 0 15).toInt = v_16.toInt := (congrArg Int32.toInt (show f_144 0 15 = v_16 from (by rw [ef_144, sg_up_s, sgu_n (by decide)]; exact ev_16.symm)))
              have q_147 : (f_144 0 16).toInt = v_13.toInt := (congrArg Int32.toInt (show f_144 0 16 = v_13 from (by rw [ef_144, sg_up_s, sgu_n (by decide)]; exact ev_13.symm)))
              have q_148 : (f_144 0 13).toInt = v_142.toInt := (congrArg Int32.toInt (show f_144 0 13 = v_142 from (by rw [ef_144, sg_up_s, sgu_s])))
              refine sg_calli (va_runV (As := []) (rest := []) ⟨hx, hb, hml, hown, hts⟩ (kX12_product_1 l D ca za h hh f_144 L Q hI (by omega) (by omega) H.size) (cwV 0 hts (gw_V (fun _ h => List.mem_cons_of_mem _ h) mw_848 mw_849 mw_850 mw_619 mw_847) rfl rfl rfl (by decide +kernel) ⟨Nat.le_of_ble_eq_true rfl, Nat.le_of_ble_eq_true rfl⟩) (sg_preV (ci := 12) (C := RX12) (T := TX12) (N := 55) hA hK hP hS hZ 0 (by decide) rfl rfl) rfl rfl hl.1 rfl (lv_room (Nat.le_of_ble_eq_true rfl)) dX12_sums_56 ⟨Nat.le_refl _, Nat.le_refl _⟩) hA hS (fun r_152 f_149 L_150 Q_151 H locs hq hP hS => ?_)
              obtain ⟨⟨hI, hk_f_149, eL9, eQ9⟩, hq, p_153, p_154, p_155⟩ := hq
              rw [eL9, eQ9] at hP; clear eL9 eQ9
              have hF : sgK WkX12_sums_1 f f_149 := sgK.tr hF hk_f_149 (by decide)
              obtain ⟨v_156, ev_156⟩ : ∃ z : Int32, z = f_149 0 13 := ⟨_, rfl⟩
              have q_157 : 0 ≤ v_156.toInt ∧ v_156.toInt ≤ 120 := by rw [ev_156]; exact hI 0 13
              have q_158 : (f_149 0 13).toInt = v_156.toInt := (congrArg Int32.toInt (show f_149 0 13 = v_156 from ev_156.symm))
              obtain ⟨v_159, ev_159⟩ : ∃ z : Int32, z = f_149 0 16 := ⟨_, rfl⟩
              have q_160 : 0 ≤ v_159.toInt ∧ v_159.toInt ≤ 6 := by rw [ev_159]; exact hI 0 16
              have q_161 : (f_149 0 16).toInt = v_159.toInt := (congrArg Int32.toInt (show f_149 0 16 = v_159 from ev_159.symm))
              obtain ⟨v_162, ev_162⟩ : ∃ z : Int32, z = f_149 0 15 := ⟨_, rfl⟩
              have q_163 : (-1) ≤ v_162.toInt ∧ v_162.toInt ≤ 120 := by rw [ev_162]; exact hI 0 15
              have q_164 : (f_149 0 15).toInt = v_162.toInt := (congrArg Int32.toInt (show f_149 0 15 = v_162 from ev_162.symm))
              have q_165 : (f_149 0 16).toInt = v_159.toInt := (congrArg Int32.toInt (show f_149 0 16 = v_159 from ev_159.symm))
              refine lv_istore_n (lv' := [(3, .int r_152), (2, .int 1), (0, .ref (h 0)), (1, .int y1_5)]) hx hb dX12_sums_59 rfl hl (by decide) rfl (fun ls hl => ?_)
              refine lv_iload_n hx hb dX12_sums_60 rfl (lv_at hl 1 rfl) ?_
              refine lv_if_eq (tgt := 70) hx hb dX12_sums_61 (by decide) (fun c => absurd c (by decide)) (fun c => ?_)
              refine lv_iload_n hx hb dX12_sums_64 rfl (lv_at hl 3 rfl) ?_
              refine lv_iload_n hx hb dX12_sums_65 rfl (lv_at hl 0 rfl) ?_
              refine lv_iadd hx hb dX12_sums_66 ?_
              refine lv_topi (fun v_166 ev_166 => ?_)
              refine lv_goto (tgt := 73) hx hb dX12_sums_67 (by decide) ?_
              refine lv_istore_n (lv' := [(1, .int v_166), (3, .int r_152), (2, .int 1), (0, .ref (h 0))]) hx hb dX12_sums_73 rfl hl (by decide) rfl (fun ls hl => ?_)
              refine lv_goto (tgt := 5) hx hb dX12_sums_74 (by decide) ?_
              exact ih_5 v_166 f_149 _ _ _ (by have zz0_13 : (f_149 0 13).toInt = v_156.toInt := (congrArg Int32.toInt (show f_149 0 13 = v_156 from ev_156.symm)); omega) (by have zz0_13 : (f_149 0 13).toInt = v_156.toInt := (congrArg Int32.toInt (show f_149 0 13 = v_156 from ev_156.symm)); omega) (by have zz0_16 : (f_149 0 16).toInt = v_159.toInt := (congrArg Int32.toInt (show f_149 0 16 = v_159 from ev_159.symm)); omega) (by have zz0_15 : (f_149 0 15).toInt = v_162.toInt := (congrArg Int32.toInt (show f_149 0 15 = v_162 from ev_162.symm)); have zz0_16 : (f_149 0 16).toInt = v_159.toInt := (congrArg Int32.toInt (show f_149 0 16 = v_159 from ev_159.symm)); omega) hI hF hP hS (lv_sub hl [3, 0] rfl)
  refine lv_aload_n hx hb dX12_sums_0 rfl (lv_at hl 0 rfl) ?_
  have q_167 : (f 0 16).toInt = v_1.toInt := (congrArg Int32.toInt (show f 0 16 = v_1 from ev_1.symm))
  have q_168 : (f 0 15).toInt = v_3.toInt := (congrArg Int32.toInt (show f 0 15 = v_3 from ev_3.symm))
  have q_169 : (f 0 16).toInt = v_1.toInt := (congrArg Int32.toInt (show f 0 16 = v_1 from ev_1.symm))
  have q_170 : (f 0 13).toInt = v_5.toInt := (congrArg Int32.toInt (show f 0 13 = v_5 from ev_5.symm))
  refine sg_calli (va_runV (As := []) (rest := []) ⟨hx, hb, hml, hown, hts⟩ (kX12_product_1 l D ca za h hh f L Q hI (by omega) (by omega) H.size) (cwV 0 hts (gw_V (fun _ h => List.mem_cons_of_mem _ h) mw_848 mw_849 mw_850 mw_619 mw_847) rfl rfl rfl (by decide +kernel) ⟨Nat.le_of_ble_eq_true rfl, Nat.le_of_ble_eq_true rfl⟩) (sg_preV (ci := 12) (C := RX12) (T := TX12) (N := 55) hA hK hP hS hZ 0 (by decide) rfl rfl) rfl rfl hl.1 rfl (lv_room (Nat.le_of_ble_eq_true rfl)) dX12_sums_1 ⟨Nat.le_refl _, Nat.le_refl _⟩) hA hS (fun r_174 f_171 L_172 Q_173 H locs hq hP hS => ?_)
  obtain ⟨⟨hI, hk_f_171, eL9, eQ9⟩, hq, p_175, p_176, p_177⟩ := hq
  rw [eL9, eQ9] at hP; clear eL9 eQ9
  have hF : sgK WkX12_sums_1 f f_171 := sgK.tr hF hk_f_171 (by decide)
  obtain ⟨v_178, ev_178⟩ : ∃ z : Int32, z = f_171 0 13 := ⟨_, rfl⟩
  have q_179 : 0 ≤ v_178.toInt ∧ v_178.toInt ≤ 120 := by rw [ev_178]; exact hI 0 13
  have q_180 : (f_171 0 13).toInt = v_178.toInt := (congrArg Int32.toInt (show f_171 0 13 = v_178 from ev_178.symm))
  obtain ⟨v_181, ev_181⟩ : ∃ z : Int32, z = f_171 0 16 := ⟨_, rfl⟩
  have q_182 : 0 ≤ v_181.toInt ∧ v_181.toInt ≤ 6 := by rw [ev_181]; exact hI 0 16
  have q_183 : (f_171 0 16).toInt = v_181.toInt := (congrArg Int32.toInt (show f_171 0 16 = v_181 from ev_181.symm))
  obtain ⟨v_184, ev_184⟩ : ∃ z : Int32, z = f_171 0 15 := ⟨_, rfl⟩
  have q_185 : (-1) ≤ v_184.toInt ∧ v_184.toInt ≤ 120 := by rw [ev_184]; exact hI 0 15
  have q_186 : (f_171 0 15).toInt = v_184.toInt := (congrArg Int32.toInt (show f_171 0 15 = v_184 from ev_184.symm))
  have q_187 : (f_171 0 16).toInt = v_181.toInt := (congrArg Int32.toInt (show f_171 0 16 = v_181 from ev_181.symm))
  refine lv_istore_n (lv' := [(1, .int r_174), (0, .ref (h 0))]) hx hb dX12_sums_4 rfl hl (by decide) rfl (fun ls hl => ?_)
  exact loop_5 121 r_174 f_171 _ _ _ (by have zz0_13 : (f_171 0 13).toInt = v_178.toInt := (congrArg Int32.toInt (show f_171 0 13 = v_178 from ev_178.symm)); omega) (by have zz0_13 : (f_171 0 13).toInt = v_178.toInt := (congrArg Int32.toInt (show f_171 0 13 = v_178 from ev_178.symm)); omega) (by have zz0_16 : (f_171 0 16).toInt = v_181.toInt := (congrArg Int32.toInt (show f_171 0 16 = v_181 from ev_181.symm)); omega) (by have zz0_15 : (f_171 0 15).toInt = v_184.toInt := (congrArg Int32.toInt (show f_171 0 15 = v_184 from ev_184.symm)); have zz0_16 : (f_171 0 16).toInt = v_181.toInt := (congrArg Int32.toInt (show f_171 0 16 = v_181 from ev_181.symm)); omega) hI hF hP hS (lv_sub hl [1, 0] rfl)

abbrev WkX12_compared_1 : List (Nat × Nat × Option Nat) := [(0, 0, some 13), (0, 0, some 15), (0, 0, some 16)]
set_option maxHeartbeats 4000000 in
set_option maxRecDepth 100000 in
theorem kX12_compared_1 (l : Launch) (D : va_G) (ca : Nat → ClassId) (za h : Nat → Nat) (hh : sgH 26 h) (f : sg_F) (L : sg_L) (Q : sg_Q) (hI : sgI loM hiM f) (p0 : 1 ≤ (f 0 16).toInt) (p1 : 0 ≤ (f 0 15).toInt ∨ (f 0 16).toInt = 1) (sz : Nat) : Met l yX12_compared gwX12_compared { frames := 34, cells := 0, slots := 0, locals := 775 } (sgP D vwCl (tyX ca) 26 h (eM ca h) zcM za f L Q sz [.ref (h 0)]) (sgQi D vwCl 26 h (eM ca h) sz (fun r f1 L1 Q1 => ((sgI loM hiM f1 ∧ sgK WkX12_compared_1 f f1 ∧ L1 = L ∧ Q1 = Q) ∧ True ∧ ((f 0 13).toInt ≤ (f1 0 13).toInt) ∧ (1 ≤ (f1 0 16).toInt) ∧ (0 ≤ (f1 0 15).toInt ∨ (f1 0 16).toInt = 1)))) 0 0 (sgA 26 h sz) := by
  refine sg_ofWi (cc := cX12_compared) (maxL := 4) RX12 (by decide) rfl rfl (Nat.le_of_ble_eq_true rfl) ?_
  intro p e s m below meth cd Qz ls hx hb hml hown hts hK hZ hP hS hl hret
  have hA := sgY.self (n := 26) (h := h) (sz := s.heap.size)
  have hl : lv_has ls 4 [(0, .ref (h 0))] := hl
  obtain ⟨H, hH⟩ : ∃ z : Heap, z = s.heap := ⟨_, rfl⟩
  obtain ⟨locs, hlo⟩ : ∃ z : List Loc, z = [] := ⟨_, rfl⟩
  have hP : va_P D vwCl (sgw 26 h (eM ca h) f L Q) H := by rw [hH]; exact hP
  have hS : va_S (sgA 26 h s.heap.size) s.heap H locs := by rw [hH, hlo]; exact hS
  suffices hgo : W p l e ({ frames := 34, cells := 0, slots := 0, locals := 775 }) s m ([.ref (h 0)] : List Value).toArray below meth cd H locs 0 0 Qz (F0 m 0 ls []) by rw [hH, hlo] at hgo; exact hgo
  clear hH hlo
  obtain ⟨v_1, ev_1⟩ : ∃ z : Int32, z = f 0 16 := ⟨_, rfl⟩
  have q_2 : 0 ≤ v_1.toInt ∧ v_1.toInt ≤ 6 := by rw [ev_1]; exact hI 0 16
  obtain ⟨v_3, ev_3⟩ : ∃ z : Int32, z = f 0 15 := ⟨_, rfl⟩
  have q_4 : (-1) ≤ v_3.toInt ∧ v_3.toInt ≤ 120 := by rw [ev_3]; exact hI 0 15
  obtain ⟨v_5, ev_5⟩ : ∃ z : Int32, z = f 0 13 := ⟨_, rfl⟩
  have q_6 : 0 ≤ v_5.toInt ∧ v_5.toInt ≤ 120 := by rw [ev_5]; exact hI 0 13
  have o_7 : (f 0 16).toInt = v_1.toInt := (congrArg Int32.toInt (show f 0 16 = v_1 from ev_1.symm))
  have o_8 : (f 0 15).toInt = v_3.toInt := (congrArg Int32.toInt (show f 0 15 = v_3 from ev_3.symm))
  have o_9 : (f 0 13).toInt = v_5.toInt := (congrArg Int32.toInt (show f 0 13 = v_5 from ev_5.symm))
  have hF : sgK WkX12_compared_1 f f := sgK.rf
  refine lv_aload_n hx hb dX12_compared_0 rfl (lv_at hl 0 rfl) ?_
  have q_10 : (f 0 16).toInt = v_1.toInt := (congrArg Int32.toInt (show f 0 16 = v_1 from ev_1.symm))
  have q_11 : (f 0 15).toInt = v_3.toInt := (congrArg Int32.toInt (show f 0 15 = v_3 from ev_3.symm))
  have q_12 : (f 0 16).toInt = v_1.toInt := (congrArg Int32.toInt (show f 0 16 = v_1 from ev_1.symm))
  have q_13 : (f 0 13).toInt = v_5.toInt := (congrArg Int32.toInt (show f 0 13 = v_5 from ev_5.symm))
  refine sg_calli (va_runV (As := []) (rest := []) ⟨hx, hb, hml, hown, hts⟩ (kX12_sums_1 l D ca za h hh f L Q hI (by omega) (by omega) H.size) (cwV 0 hts (gw_V (fun _ h => List.mem_cons_of_mem _ h) mw_852 mw_853 mw_854 mw_619 mw_851) rfl rfl rfl (by decide +kernel) ⟨Nat.le_of_ble_eq_true rfl, Nat.le_of_ble_eq_true rfl⟩) (sg_preV (ci := 12) (C := RX12) (T := TX12) (N := 55) hA hK hP hS hZ 0 (by decide) rfl rfl) rfl rfl hl.1 rfl (lv_room (Nat.le_of_ble_eq_true rfl)) dX12_compared_1 ⟨Nat.le_refl _, Nat.le_refl _⟩) hA hS (fun r_17 f_14 L_15 Q_16 H locs hq hP hS => ?_)
  obtain ⟨⟨hI, hk_f_14, eL9, eQ9⟩, hq, p_18, p_19, p_20⟩ := hq
  rw [eL9, eQ9] at hP; clear eL9 eQ9
  have hF : sgK WkX12_compared_1 f f_14 := sgK.tr hF hk_f_14 (by decide)
  obtain ⟨v_21, ev_21⟩ : ∃ z : Int32, z = f_14 0 13 := ⟨_, rfl⟩
  have q_22 : 0 ≤ v_21.toInt ∧ v_21.toInt ≤ 120 := by rw [ev_21]; exact hI 0 13
  have q_23 : (f_14 0 13).toInt = v_21.toInt := (congrArg Int32.toInt (show f_14 0 13 = v_21 from ev_21.symm))
  obtain ⟨v_24, ev_24⟩ : ∃ z : Int32, z = f_14 0 16 := ⟨_, rfl⟩
  have q_25 : 0 ≤ v_24.toInt ∧ v_24.toInt ≤ 6 := by rw [ev_24]; exact hI 0 16
  have q_26 : (f_14 0 16).toInt = v_24.toInt := (congrArg Int32.toInt (show f_14 0 16 = v_24 from ev_24.symm))
  obtain ⟨v_27, ev_27⟩ : ∃ z : Int32, z = f_14 0 15 := ⟨_, rfl⟩
  have q_28 : (-1) ≤ v_27.toInt ∧ v_27.toInt ≤ 120 := by rw [ev_27]; exact hI 0 15
  have q_29 : (f_14 0 15).toInt = v_27.toInt := (congrArg Int32.toInt (show f_14 0 15 = v_27 from ev_27.symm))
  have q_30 : (f_14 0 16).toInt = v_24.toInt := (congrArg Int32.toInt (show f_14 0 16 = v_24 from ev_24.symm))
  refine lv_istore_n (lv' := [(1, .int r_17), (0, .ref (h 0))]) hx hb dX12_compared_4 rfl hl (by decide) rfl (fun ls hl => ?_)
  refine lv_aload_n hx hb dX12_compared_5 rfl (lv_at hl 1 rfl) ?_
  have q_31 : (f_14 0 13).toInt = v_21.toInt := (congrArg Int32.toInt (show f_14 0 13 = v_21 from ev_21.symm))
  obtain ⟨v_32, ev_32⟩ : ∃ z : Int32, z = f_14 0 14 := ⟨_, rfl⟩
  have q_33 : 0 ≤ v_32.toInt ∧ v_32.toInt ≤ 120 := by rw [ev_32]; exact hI 0 14
  have q_34 : (f_14 0 14).toInt = v_32.toInt := (congrArg Int32.toInt (show f_14 0 14 = v_32 from ev_32.symm))
  refine sg_calli (va_runV (As := []) (rest := []) ⟨hx, hb, hml, hown, hts⟩ (kX12_byteAt l D ca za h hh f_14 L Q hI H.size) (cwV 0 hts (gw_V (fun _ h => List.mem_cons_of_mem _ h) mw_840 mw_841 mw_842 mw_619 mw_839) rfl rfl rfl (by decide +kernel) ⟨Nat.le_of_ble_eq_true rfl, Nat.le_of_ble_eq_true rfl⟩) (sg_preV (ci := 12) (C := RX12) (T := TX12) (N := 55) hA hK hP hS hZ 0 (by decide) rfl rfl) rfl rfl hl.1 rfl (lv_room (Nat.le_of_ble_eq_true rfl)) dX12_compared_6 ⟨Nat.le_refl _, Nat.le_refl _⟩) hA hS (fun r_38 f_35 L_36 Q_37 H locs hq hP hS => ?_)
  obtain ⟨⟨ef9, eL9, eQ9⟩, hq, p_39⟩ := hq
  rw [ef9, eL9, eQ9] at hP; clear ef9 eL9 eQ9
  refine lv_istore_n (lv' := [(2, .int r_38), (1, .int r_17), (0, .ref (h 0))]) hx hb dX12_compared_9 rfl hl (by decide) rfl (fun ls hl => ?_)
  refine lv_aload_n hx hb dX12_compared_10 rfl (lv_at hl 2 rfl) ?_
  refine sg_get (ci := 12) (v := .int v_27) (C := RX12) (T := TX12) (N := 55) hx hb hts (fun w h => List.mem_cons_of_mem _ (gx_12 w h)) hown hK hP 0 (by decide) rfl rfl 15 (by decide) (hts _ (List.mem_cons_of_mem _ mw_627)) (fun _ h9 => h9) (congrArg (fun z => some (Value.int z)) (show f_14 0 15 = v_27 from ev_27.symm)) dX12_compared_11 ?_
  refine lv_if_ge (tgt := 35) hx hb dX12_compared_14 (by decide) (fun c => ?_) (fun c => ?_)
  · skip
    have c_40 : 0 ≤ v_27.toInt := (by have z := bn_le c; have k1 : (0 : Int32).toInt = 0 := (by decide); omega)
    refine lv_iload_n hx hb dX12_compared_35 rfl (lv_at hl 1 rfl) ?_
    have q_42 : (f_14 0 13).toInt = v_21.toInt := (congrArg Int32.toInt (show f_14 0 13 = v_21 from ev_21.symm))
    have q_43 : (f_14 0 16).toInt = v_24.toInt := (congrArg Int32.toInt (show f_14 0 16 = v_24 from ev_24.symm))
    have q_44 : (f_14 0 15).toInt = v_27.toInt := (congrArg Int32.toInt (show f_14 0 15 = v_27 from ev_27.symm))
    have q_45 : (f_14 0 16).toInt = v_24.toInt := (congrArg Int32.toInt (show f_14 0 16 = v_24 from ev_24.symm))
    exact hret _ _ _ _ (r_17) f_14 L Q dX12_compared_36 hP hS ⟨⟨hI, hF, rfl, rfl⟩, trivial, (by omega), (by omega), (by omega)⟩
  · skip
    have c_41 : v_27.toInt < 0 := (by have z := bn_nle c; have k1 : (0 : Int32).toInt = 0 := (by decide); omega)
    refine lv_iload_n hx hb dX12_compared_17 rfl (lv_at hl 0 rfl) ?_
    refine lv_bipush (v := 60) hx hb dX12_compared_18 (by decide) ?_
    refine lv_icmp_eq (tgt := 37) hx hb dX12_compared_20 (by decide) (fun c => ?_) (fun c => ?_)
    · skip
      have c_46 : r_38.toInt = 60 := (by have z := Int32.toInt_inj.mpr c; have k1 : (60 : Int32).toInt = 60 := (by decide); omega)
      refine lv_aload_n hx hb dX12_compared_37 rfl (lv_at hl 2 rfl) ?_
      refine lv_dup hx hb dX12_compared_38 rfl ?_
      refine sg_get (ci := 12) (v := .int v_21) (C := RX12) (T := TX12) (N := 55) hx hb hts (fun w h => List.mem_cons_of_mem _ (gx_12 w h)) hown hK hP 0 (by decide) rfl rfl 13 (by decide) (hts _ (List.mem_cons_of_mem _ mw_625)) (fun _ h9 => h9) (congrArg (fun z => some (Value.int z)) (show f_14 0 13 = v_21 from ev_21.symm)) dX12_compared_39 ?_
      refine lv_iconst (v := 1) hx hb dX12_compared_42 (by decide) ?_
      refine lv_iadd hx hb dX12_compared_43 ?_
      refine lv_topi (fun v_48 ev_48 => ?_)
      have q_49 : v_48.toInt = v_21.toInt + 1 := by rw [ev_48]; have k1 : (1 : Int32).toInt = 1 := (by decide); exact (bn_addI (by omega) (by omega)).trans (by omega)
      refine sg_put (ci := 12) (x := v_48) (ty := .int) (C := RX12) (T := TX12) (N := 55) hx hb hts (fun w h => List.mem_cons_of_mem _ (gx_12 w h)) tyX12 tyX12_ok nmX12 hown hh hA hK hP hS 0 (by decide) rfl rfl 13 (by decide) (hts _ (List.mem_cons_of_mem _ mw_625)) (fun _ h9 => h9) rfl rfl (by decide +kernel) rfl rfl (Nat.le_of_ble_eq_true rfl) dX12_compared_44 (fun f_50 H locs ef_50 hP hS => ?_)
      have hI : sgI loM hiM f_50 := by rw [ef_50]; exact sgI.put hI 0 13 (show 0 ≤ (v_48 : Int32).toInt ∧ (v_48 : Int32).toInt ≤ 120 from by omega)
      have hF : sgK WkX12_compared_1 f f_50 := sgK.put hF ef_50 (by rfl)
      refine lv_aload_n hx hb dX12_compared_47 rfl (lv_at hl 2 rfl) ?_
      have q_51 : (f_50 0 16).toInt = v_24.toInt := (congrArg Int32.toInt (show f_50 0 16 = v_24 from (by rw [ef_50, sg_up_s, sgu_n (by decide)]; exact ev_24.symm)))
      have q_52 : (f_50 0 15).toInt = v_27.toInt := (congrArg Int32.toInt (show f_50 0 15 = v_27 from (by rw [ef_50, sg_up_s, sgu_n (by decide)]; exact ev_27.symm)))
      have q_53 : (f_50 0 16).toInt = v_24.toInt := (congrArg Int32.toInt (show f_50 0 16 = v_24 from (by rw [ef_50, sg_up_s, sgu_n (by decide)]; exact ev_24.symm)))
      have q_54 : (f_50 0 13).toInt = v_48.toInt := (congrArg Int32.toInt (show f_50 0 13 = v_48 from (by rw [ef_50, sg_up_s, sgu_s])))
      refine sg_calli (va_runV (As := []) (rest := []) ⟨hx, hb, hml, hown, hts⟩ (kX12_sums_1 l D ca za h hh f_50 L Q hI (by omega) (by omega) H.size) (cwV 0 hts (gw_V (fun _ h => List.mem_cons_of_mem _ h) mw_852 mw_853 mw_854 mw_619 mw_851) rfl rfl rfl (by decide +kernel) ⟨Nat.le_of_ble_eq_true rfl, Nat.le_of_ble_eq_true rfl⟩) (sg_preV (ci := 12) (C := RX12) (T := TX12) (N := 55) hA hK hP hS hZ 0 (by decide) rfl rfl) rfl rfl hl.1 rfl (lv_room (Nat.le_of_ble_eq_true rfl)) dX12_compared_48 ⟨Nat.le_refl _, Nat.le_refl _⟩) hA hS (fun r_58 f_55 L_56 Q_57 H locs hq hP hS => ?_)
      obtain ⟨⟨hI, hk_f_55, eL9, eQ9⟩, hq, p_59, p_60, p_61⟩ := hq
      rw [eL9, eQ9] at hP; clear eL9 eQ9
      have hF : sgK WkX12_compared_1 f f_55 := sgK.tr hF hk_f_55 (by decide)
      obtain ⟨v_62, ev_62⟩ : ∃ z : Int32, z = f_55 0 13 := ⟨_, rfl⟩
      have q_63 : 0 ≤ v_62.toInt ∧ v_62.toInt ≤ 120 := by rw [ev_62]; exact hI 0 13
      have q_64 : (f_55 0 13).toInt = v_62.toInt := (congrArg Int32.toInt (show f_55 0 13 = v_62 from ev_62.symm))
      obtain ⟨v_65, ev_65⟩ : ∃ z : Int32, z = f_55 0 16 := ⟨_, rfl⟩
      have q_66 : 0 ≤ v_65.toInt ∧ v_65.toInt ≤ 6 := by rw [ev_65]; exact hI 0 16
      have q_67 : (f_55 0 16).toInt = v_65.toInt := (congrArg Int32.toInt (show f_55 0 16 = v_65 from ev_65.symm))
      obtain ⟨v_68, ev_68⟩ : ∃ z : Int32, z = f_55 0 15 := ⟨_, rfl⟩
      have q_69 : (-1) ≤ v_68.toInt ∧ v_68.toInt ≤ 120 := by rw [ev_68]; exact hI 0 15
      have q_70 : (f_55 0 15).toInt = v_68.toInt := (congrArg Int32.toInt (show f_55 0 15 = v_68 from ev_68.symm))
      have q_71 : (f_55 0 16).toInt = v_65.toInt := (congrArg Int32.toInt (show f_55 0 16 = v_65 from ev_65.symm))
      refine lv_istore_n (lv' := [(3, .int r_58), (2, .int r_38), (1, .int r_17), (0, .ref (h 0))]) hx hb dX12_compared_51 rfl hl (by decide) rfl (fun ls hl => ?_)
      refine lv_iload_n hx hb dX12_compared_52 rfl (lv_at hl 1 rfl) ?_
      refine lv_bipush (v := 60) hx hb dX12_compared_53 (by decide) ?_
      refine lv_icmp_ne (tgt := 66) hx hb dX12_compared_55 (by decide) (fun c => ?_) (fun c => ?_)
      · skip
        exfalso; have c_72 : r_38.toInt ≠ 60 := (by have z := bn_ne c; have k1 : (60 : Int32).toInt = 60 := (by decide); omega); omega
      · skip
        have c_73 : r_38.toInt = 60 := (by have z := Int32.toInt_inj.mpr c; have k1 : (60 : Int32).toInt = 60 := (by decide); omega)
        refine lv_iload_n hx hb dX12_compared_58 rfl (lv_at hl 2 rfl) ?_
        refine lv_iload_n hx hb dX12_compared_59 rfl (lv_at hl 0 rfl) ?_
        refine lv_icmp_ge (tgt := 89) hx hb dX12_compared_60 (by decide) (fun c => ?_) (fun c => ?_)
        · skip
          have c_74 : r_58.toInt ≤ r_17.toInt := (by have z := bn_le c; omega)
          refine lv_iconst (v := 0) hx hb dX12_compared_89 (by decide) ?_
          have q_76 : (f_55 0 13).toInt = v_62.toInt := (congrArg Int32.toInt (show f_55 0 13 = v_62 from ev_62.symm))
          have q_77 : (f_55 0 16).toInt = v_65.toInt := (congrArg Int32.toInt (show f_55 0 16 = v_65 from ev_65.symm))
          have q_78 : (f_55 0 15).toInt = v_68.toInt := (congrArg Int32.toInt (show f_55 0 15 = v_68 from ev_68.symm))
          have q_79 : (f_55 0 16).toInt = v_65.toInt := (congrArg Int32.toInt (show f_55 0 16 = v_65 from ev_65.symm))
          have k99 : (0 : Int32).toInt = 0 := (by decide)
          exact hret _ _ _ _ (0) f_55 L Q dX12_compared_90 hP hS ⟨⟨hI, hF, rfl, rfl⟩, trivial, (by omega), (by omega), (by omega)⟩
        · skip
          have c_75 : r_17.toInt < r_58.toInt := (by have z := bn_nle c; omega)
          refine lv_goto (tgt := 85) hx hb dX12_compared_63 (by decide) ?_
          refine lv_iconst (v := 1) hx hb dX12_compared_85 (by decide) ?_
          refine lv_goto (tgt := 90) hx hb dX12_compared_86 (by decide) ?_
          have q_80 : (f_55 0 13).toInt = v_62.toInt := (congrArg Int32.toInt (show f_55 0 13 = v_62 from ev_62.symm))
          have q_81 : (f_55 0 16).toInt = v_65.toInt := (congrArg Int32.toInt (show f_55 0 16 = v_65 from ev_65.symm))
          have q_82 : (f_55 0 15).toInt = v_68.toInt := (congrArg Int32.toInt (show f_55 0 15 = v_68 from ev_68.symm))
          have q_83 : (f_55 0 16).toInt = v_65.toInt := (congrArg Int32.toInt (show f_55 0 16 = v_65 from ev_65.symm))
          have k99 : (1 : Int32).toInt = 1 := (by decide)
          exact hret _ _ _ _ (1) f_55 L Q dX12_compared_90 hP hS ⟨⟨hI, hF, rfl, rfl⟩, trivial, (by omega), (by omega), (by omega)⟩
    · skip
      have c_47 : r_38.toInt ≠ 60 := (by have z := bn_ne c; have k1 : (60 : Int32).toInt = 60 := (by decide); omega)
      refine lv_iload_n hx hb dX12_compared_23 rfl (lv_at hl 0 rfl) ?_
      refine lv_bipush (v := 61) hx hb dX12_compared_24 (by decide) ?_
      refine lv_icmp_eq (tgt := 37) hx hb dX12_compared_26 (by decide) (fun c => ?_) (fun c => ?_)
      · skip
        have c_84 : r_38.toInt = 61 := (by have z := Int32.toInt_inj.mpr c; have k1 : (61 : Int32).toInt = 61 := (by decide); omega)
        refine lv_aload_n hx hb dX12_compared_37 rfl (lv_at hl 2 rfl) ?_
        refine lv_dup hx hb dX12_compared_38 rfl ?_
        refine sg_get (ci := 12) (v := .int v_21) (C := RX12) (T := TX12) (N := 55) hx hb hts (fun w h => List.mem_cons_of_mem _ (gx_12 w h)) hown hK hP 0 (by decide) rfl rfl 13 (by decide) (hts _ (List.mem_cons_of_mem _ mw_625)) (fun _ h9 => h9) (congrArg (fun z => some (Value.int z)) (show f_14 0 13 = v_21 from ev_21.symm)) dX12_compared_39 ?_
        refine lv_iconst (v := 1) hx hb dX12_compared_42 (by decide) ?_
        refine lv_iadd hx hb dX12_compared_43 ?_
        refine lv_topi (fun v_86 ev_86 => ?_)
        have q_87 : v_86.toInt = v_21.toInt + 1 := by rw [ev_86]; have k1 : (1 : Int32).toInt = 1 := (by decide); exact (bn_addI (by omega) (by omega)).trans (by omega)
        refine sg_put (ci := 12) (x := v_86) (ty := .int) (C := RX12) (T := TX12) (N := 55) hx hb hts (fun w h => List.mem_cons_of_mem _ (gx_12 w h)) tyX12 tyX12_ok nmX12 hown hh hA hK hP hS 0 (by decide) rfl rfl 13 (by decide) (hts _ (List.mem_cons_of_mem _ mw_625)) (fun _ h9 => h9) rfl rfl (by decide +kernel) rfl rfl (Nat.le_of_ble_eq_true rfl) dX12_compared_44 (fun f_88 H locs ef_88 hP hS => ?_)
        have hI : sgI loM hiM f_88 := by rw [ef_88]; exact sgI.put hI 0 13 (show 0 ≤ (v_86 : Int32).toInt ∧ (v_86 : Int32).toInt ≤ 120 from by omega)
        have hF : sgK WkX12_compared_1 f f_88 := sgK.put hF ef_88 (by rfl)
        refine lv_aload_n hx hb dX12_compared_47 rfl (lv_at hl 2 rfl) ?_
        have q_89 : (f_88 0 16).toInt = v_24.toInt := (congrArg Int32.toInt (show f_88 0 16 = v_24 from (by rw [ef_88, sg_up_s, sgu_n (by decide)]; exact ev_24.symm)))
        have q_90 : (f_88 0 15).toInt = v_27.toInt := (congrArg Int32.toInt (show f_88 0 15 = v_27 from (by rw [ef_88, sg_up_s, sgu_n (by decide)]; exact ev_27.symm)))
        have q_91 : (f_88 0 16).toInt = v_24.toInt := (congrArg Int32.toInt (show f_88 0 16 = v_24 from (by rw [ef_88, sg_up_s, sgu_n (by decide)]; exact ev_24.symm)))
        have q_92 : (f_88 0 13).toInt = v_86.toInt := (congrArg Int32.toInt (show f_88 0 13 = v_86 from (by rw [ef_88, sg_up_s, sgu_s])))
        refine sg_calli (va_runV (As := []) (rest := []) ⟨hx, hb, hml, hown, hts⟩ (kX12_sums_1 l D ca za h hh f_88 L Q hI (by omega) (by omega) H.size) (cwV 0 hts (gw_V (fun _ h => List.mem_cons_of_mem _ h) mw_852 mw_853 mw_854 mw_619 mw_851) rfl rfl rfl (by decide +kernel) ⟨Nat.le_of_ble_eq_true rfl, Nat.le_of_ble_eq_true rfl⟩) (sg_preV (ci := 12) (C := RX12) (T := TX12) (N := 55) hA hK hP hS hZ 0 (by decide) rfl rfl) rfl rfl hl.1 rfl (lv_room (Nat.le_of_ble_eq_true rfl)) dX12_compared_48 ⟨Nat.le_refl _, Nat.le_refl _⟩) hA hS (fun r_96 f_93 L_94 Q_95 H locs hq hP hS => ?_)
        obtain ⟨⟨hI, hk_f_93, eL9, eQ9⟩, hq, p_97, p_98, p_99⟩ := hq
        rw [eL9, eQ9] at hP; clear eL9 eQ9
        have hF : sgK WkX12_compared_1 f f_93 := sgK.tr hF hk_f_93 (by decide)
        obtain ⟨v_100, ev_100⟩ : ∃ z : Int32, z = f_93 0 13 := ⟨_, rfl⟩
        have q_101 : 0 ≤ v_100.toInt ∧ v_100.toInt ≤ 120 := by rw [ev_100]; exact hI 0 13
        have q_102 : (f_93 0 13).toInt = v_100.toInt := (congrArg Int32.toInt (show f_93 0 13 = v_100 from ev_100.symm))
        obtain ⟨v_103, ev_103⟩ : ∃ z : Int32, z = f_93 0 16 := ⟨_, rfl⟩
        have q_104 : 0 ≤ v_103.toInt ∧ v_103.toInt ≤ 6 := by rw [ev_103]; exact hI 0 16
        have q_105 : (f_93 0 16).toInt = v_103.toInt := (congrArg Int32.toInt (show f_93 0 16 = v_103 from ev_103.symm))
        obtain ⟨v_106, ev_106⟩ : ∃ z : Int32, z = f_93 0 15 := ⟨_, rfl⟩
        have q_107 : (-1) ≤ v_106.toInt ∧ v_106.toInt ≤ 120 := by rw [ev_106]; exact hI 0 15
        have q_108 : (f_93 0 15).toInt = v_106.toInt := (congrArg Int32.toInt (show f_93 0 15 = v_106 from ev_106.symm))
        have q_109 : (f_93 0 16).toInt = v_103.toInt := (congrArg Int32.toInt (show f_93 0 16 = v_103 from ev_103.symm))
        refine lv_istore_n (lv' := [(3, .int r_96), (2, .int r_38), (1, .int r_17), (0, .ref (h 0))]) hx hb dX12_compared_51 rfl hl (by decide) rfl (fun ls hl => ?_)
        refine lv_iload_n hx hb dX12_compared_52 rfl (lv_at hl 1 rfl) ?_
        refine lv_bipush (v := 60) hx hb dX12_compared_53 (by decide) ?_
        refine lv_icmp_ne (tgt := 66) hx hb dX12_compared_55 (by decide) (fun c => ?_) (fun c => ?_)
        · skip
          have c_110 : r_38.toInt ≠ 60 := (by have z := bn_ne c; have k1 : (60 : Int32).toInt = 60 := (by decide); omega)
          refine lv_iload_n hx hb dX12_compared_66 rfl (lv_at hl 1 rfl) ?_
          refine lv_bipush (v := 61) hx hb dX12_compared_67 (by decide) ?_
          refine lv_icmp_ne (tgt := 80) hx hb dX12_compared_69 (by decide) (fun c => ?_) (fun c => ?_)
          · skip
            exfalso; have c_112 : r_38.toInt ≠ 61 := (by have z := bn_ne c; have k1 : (61 : Int32).toInt = 61 := (by decide); omega); omega
          · skip
            have c_113 : r_38.toInt = 61 := (by have z := Int32.toInt_inj.mpr c; have k1 : (61 : Int32).toInt = 61 := (by decide); omega)
            refine lv_iload_n hx hb dX12_compared_72 rfl (lv_at hl 2 rfl) ?_
            refine lv_iload_n hx hb dX12_compared_73 rfl (lv_at hl 0 rfl) ?_
            refine lv_icmp_ne (tgt := 89) hx hb dX12_compared_74 (by decide) (fun c => ?_) (fun c => ?_)
            · skip
              have c_114 : r_17.toInt ≠ r_96.toInt := (by have z := bn_ne c; omega)
              refine lv_iconst (v := 0) hx hb dX12_compared_89 (by decide) ?_
              have q_116 : (f_93 0 13).toInt = v_100.toInt := (congrArg Int32.toInt (show f_93 0 13 = v_100 from ev_100.symm))
              have q_117 : (f_93 0 16).toInt = v_103.toInt := (congrArg Int32.toInt (show f_93 0 16 = v_103 from ev_103.symm))
              have q_118 : (f_93 0 15).toInt = v_106.toInt := (congrArg Int32.toInt (show f_93 0 15 = v_106 from ev_106.symm))
              have q_119 : (f_93 0 16).toInt = v_103.toInt := (congrArg Int32.toInt (show f_93 0 16 = v_103 from ev_103.symm))
              have k99 : (0 : Int32).toInt = 0 := (by decide)
              exact hret _ _ _ _ (0) f_93 L Q dX12_compared_90 hP hS ⟨⟨hI, hF, rfl, rfl⟩, trivial, (by omega), (by omega), (by omega)⟩
            · skip
              have c_115 : r_17.toInt = r_96.toInt := (by have z := Int32.toInt_inj.mpr c; omega)
              refine lv_goto (tgt := 85) hx hb dX12_compared_77 (by decide) ?_
              refine lv_iconst (v := 1) hx hb dX12_compared_85 (by decide) ?_
              refine lv_goto (tgt := 90) hx hb dX12_compared_86 (by decide) ?_
              have q_120 : (f_93 0 13).toInt = v_100.toInt := (congrArg Int32.toInt (show f_93 0 13 = v_100 from ev_100.symm))
              have q_121 : (f_93 0 16).toInt = v_103.toInt := (congrArg Int32.toInt (show f_93 0 16 = v_103 from ev_103.symm))
              have q_122 : (f_93 0 15).toInt = v_106.toInt := (congrArg Int32.toInt (show f_93 0 15 = v_106 from ev_106.symm))
              have q_123 : (f_93 0 16).toInt = v_103.toInt := (congrArg Int32.toInt (show f_93 0 16 = v_103 from ev_103.symm))
              have k99 : (1 : Int32).toInt = 1 := (by decide)
              exact hret _ _ _ _ (1) f_93 L Q dX12_compared_90 hP hS ⟨⟨hI, hF, rfl, rfl⟩, trivial, (by omega), (by omega), (by omega)⟩
        · skip
          exfalso; have c_111 : r_38.toInt = 60 := (by have z := Int32.toInt_inj.mpr c; have k1 : (60 : Int32).toInt = 60 := (by decide); omega); omega
      · skip
        have c_85 : r_38.toInt ≠ 61 := (by have z := bn_ne c; have k1 : (61 : Int32).toInt = 61 := (by decide); omega)
        refine lv_iload_n hx hb dX12_compared_29 rfl (lv_at hl 0 rfl) ?_
        refine lv_bipush (v := 62) hx hb dX12_compared_30 (by decide) ?_
        refine lv_icmp_eq (tgt := 37) hx hb dX12_compared_32 (by decide) (fun c => ?_) (fun c => ?_)
        · skip
          have c_124 : r_38.toInt = 62 := (by have z := Int32.toInt_inj.mpr c; have k1 : (62 : Int32).toInt = 62 := (by decide); omega)
          refine lv_aload_n hx hb dX12_compared_37 rfl (lv_at hl 2 rfl) ?_
          refine lv_dup hx hb dX12_compared_38 rfl ?_
          refine sg_get (ci := 12) (v := .int v_21) (C := RX12) (T := TX12) (N := 55) hx hb hts (fun w h => List.mem_cons_of_mem _ (gx_12 w h)) hown hK hP 0 (by decide) rfl rfl 13 (by decide) (hts _ (List.mem_cons_of_mem _ mw_625)) (fun _ h9 => h9) (congrArg (fun z => some (Value.int z)) (show f_14 0 13 = v_21 from ev_21.symm)) dX12_compared_39 ?_
          refine lv_iconst (v := 1) hx hb dX12_compared_42 (by decide) ?_
          refine lv_iadd hx hb dX12_compared_43 ?_
          refine lv_topi (fun v_126 ev_126 => ?_)
          have q_127 : v_126.toInt = v_21.toInt + 1 := by rw [ev_126]; have k1 : (1 : Int32).toInt = 1 := (by decide); exact (bn_addI (by omega) (by omega)).trans (by omega)
          refine sg_put (ci := 12) (x := v_126) (ty := .int) (C := RX12) (T := TX12) (N := 55) hx hb hts (fun w h => List.mem_cons_of_mem _ (gx_12 w h)) tyX12 tyX12_ok nmX12 hown hh hA hK hP hS 0 (by decide) rfl rfl 13 (by decide) (hts _ (List.mem_cons_of_mem _ mw_625)) (fun _ h9 => h9) rfl rfl (by decide +kernel) rfl rfl (Nat.le_of_ble_eq_true rfl) dX12_compared_44 (fun f_128 H locs ef_128 hP hS => ?_)
          have hI : sgI loM hiM f_128 := by rw [ef_128]; exact sgI.put hI 0 13 (show 0 ≤ (v_126 : Int32).toInt ∧ (v_126 : Int32).toInt ≤ 120 from by omega)
          have hF : sgK WkX12_compared_1 f f_128 := sgK.put hF ef_128 (by rfl)
          refine lv_aload_n hx hb dX12_compared_47 rfl (lv_at hl 2 rfl) ?_
          have q_129 : (f_128 0 16).toInt = v_24.toInt := (congrArg Int32.toInt (show f_128 0 16 = v_24 from (by rw [ef_128, sg_up_s, sgu_n (by decide)]; exact ev_24.symm)))
          have q_130 : (f_128 0 15).toInt = v_27.toInt := (congrArg Int32.toInt (show f_128 0 15 = v_27 from (by rw [ef_128, sg_up_s, sgu_n (by decide)]; exact ev_27.symm)))
          have q_131 : (f_128 0 16).toInt = v_24.toInt := (congrArg Int32.toInt (show f_128 0 16 = v_24 from (by rw [ef_128, sg_up_s, sgu_n (by decide)]; exact ev_24.symm)))
          have q_132 : (f_128 0 13).toInt = v_126.toInt := (congrArg Int32.toInt (show f_128 0 13 = v_126 from (by rw [ef_128, sg_up_s, sgu_s])))
          refine sg_calli (va_runV (As := []) (rest := []) ⟨hx, hb, hml, hown, hts⟩ (kX12_sums_1 l D ca za h hh f_128 L Q hI (by omega) (by omega) H.size) (cwV 0 hts (gw_V (fun _ h => List.mem_cons_of_mem _ h) mw_852 mw_853 mw_854 mw_619 mw_851) rfl rfl rfl (by decide +kernel) ⟨Nat.le_of_ble_eq_true rfl, Nat.le_of_ble_eq_true rfl⟩) (sg_preV (ci := 12) (C := RX12) (T := TX12) (N := 55) hA hK hP hS hZ 0 (by decide) rfl rfl) rfl rfl hl.1 rfl (lv_room (Nat.le_of_ble_eq_true rfl)) dX12_compared_48 ⟨Nat.le_refl _, Nat.le_refl _⟩) hA hS (fun r_136 f_133 L_134 Q_135 H locs hq hP hS => ?_)
          obtain ⟨⟨hI, hk_f_133, eL9, eQ9⟩, hq, p_137, p_138, p_139⟩ := hq
          rw [eL9, eQ9] at hP; clear eL9 eQ9
          have hF : sgK WkX12_compared_1 f f_133 := sgK.tr hF hk_f_133 (by decide)
          obtain ⟨v_140, ev_140⟩ : ∃ z : Int32, z = f_133 0 13 := ⟨_, rfl⟩
          have q_141 : 0 ≤ v_140.toInt ∧ v_140.toInt ≤ 120 := by rw [ev_140]; exact hI 0 13
          have q_142 : (f_133 0 13).toInt = v_140.toInt := (congrArg Int32.toInt (show f_133 0 13 = v_140 from ev_140.symm))
          obtain ⟨v_143, ev_143⟩ : ∃ z : Int32, z = f_133 0 16 := ⟨_, rfl⟩
          have q_144 : 0 ≤ v_143.toInt ∧ v_143.toInt ≤ 6 := by rw [ev_143]; exact hI 0 16
          have q_145 : (f_133 0 16).toInt = v_143.toInt := (congrArg Int32.toInt (show f_133 0 16 = v_143 from ev_143.symm))
          obtain ⟨v_146, ev_146⟩ : ∃ z : Int32, z = f_133 0 15 := ⟨_, rfl⟩
          have q_147 : (-1) ≤ v_146.toInt ∧ v_146.toInt ≤ 120 := by rw [ev_146]; exact hI 0 15
          have q_148 : (f_133 0 15).toInt = v_146.toInt := (congrArg Int32.toInt (show f_133 0 15 = v_146 from ev_146.symm))
          have q_149 : (f_133 0 16).toInt = v_143.toInt := (congrArg Int32.toInt (show f_133 0 16 = v_143 from ev_143.symm))
          refine lv_istore_n (lv' := [(3, .int r_136), (2, .int r_38), (1, .int r_17), (0, .ref (h 0))]) hx hb dX12_compared_51 rfl hl (by decide) rfl (fun ls hl => ?_)
          refine lv_iload_n hx hb dX12_compared_52 rfl (lv_at hl 1 rfl) ?_
          refine lv_bipush (v := 60) hx hb dX12_compared_53 (by decide) ?_
          refine lv_icmp_ne (tgt := 66) hx hb dX12_compared_55 (by decide) (fun c => ?_) (fun c => ?_)
          · skip
            have c_150 : r_38.toInt ≠ 60 := (by have z := bn_ne c; have k1 : (60 : Int32).toInt = 60 := (by decide); omega)
            refine lv_iload_n hx hb dX12_compared_66 rfl (lv_at hl 1 rfl) ?_
            refine lv_bipush (v := 61) hx hb dX12_compared_67 (by decide) ?_
            refine lv_icmp_ne (tgt := 80) hx hb dX12_compared_69 (by decide) (fun c => ?_) (fun c => ?_)
            · skip
              have c_152 : r_38.toInt ≠ 61 := (by have z := bn_ne c; have k1 : (61 : Int32).toInt = 61 := (by decide); omega)
              refine lv_iload_n hx hb dX12_compared_80 rfl (lv_at hl 2 rfl) ?_
              refine lv_iload_n hx hb dX12_compared_81 rfl (lv_at hl 0 rfl) ?_
              refine lv_icmp_le (tgt := 89) hx hb dX12_compared_82 (by decide) (fun c => ?_) (fun c => ?_)
              · skip
                have c_154 : r_17.toInt ≤ r_136.toInt := (by have z := bn_le c; omega)
                refine lv_iconst (v := 0) hx hb dX12_compared_89 (by decide) ?_
                have q_156 : (f_133 0 13).toInt = v_140.toInt := (congrArg Int32.toInt (show f_133 0 13 = v_140 from ev_140.symm))
                have q_157 : (f_133 0 16).toInt = v_143.toInt := (congrArg Int32.toInt (show f_133 0 16 = v_143 from ev_143.symm))
                have q_158 : (f_133 0 15).toInt = v_146.toInt := (congrArg Int32.toInt (show f_133 0 15 = v_146 from ev_146.symm))
                have q_159 : (f_133 0 16).toInt = v_143.toInt := (congrArg Int32.toInt (show f_133 0 16 = v_143 from ev_143.symm))
                have k99 : (0 : Int32).toInt = 0 := (by decide)
                exact hret _ _ _ _ (0) f_133 L Q dX12_compared_90 hP hS ⟨⟨hI, hF, rfl, rfl⟩, trivial, (by omega), (by omega), (by omega)⟩
              · skip
                have c_155 : r_136.toInt < r_17.toInt := (by have z := bn_nle c; omega)
                refine lv_iconst (v := 1) hx hb dX12_compared_85 (by decide) ?_
                refine lv_goto (tgt := 90) hx hb dX12_compared_86 (by decide) ?_
                have q_160 : (f_133 0 13).toInt = v_140.toInt := (congrArg Int32.toInt (show f_133 0 13 = v_140 from ev_140.symm))
                have q_161 : (f_133 0 16).toInt = v_143.toInt := (congrArg Int32.toInt (show f_133 0 16 = v_143 from ev_143.symm))
                have q_162 : (f_133 0 15).toInt = v_146.toInt := (congrArg Int32.toInt (show f_133 0 15 = v_146 from ev_146.symm))
                have q_163 : (f_133 0 16).toInt = v_143.toInt := (congrArg Int32.toInt (show f_133 0 16 = v_143 from ev_143.symm))
                have k99 : (1 : Int32).toInt = 1 := (by decide)
                exact hret _ _ _ _ (1) f_133 L Q dX12_compared_90 hP hS ⟨⟨hI, hF, rfl, rfl⟩, trivial, (by omega), (by omega), (by omega)⟩
            · skip
              exfalso; have c_153 : r_38.toInt = 61 := (by have z := Int32.toInt_inj.mpr c; have k1 : (61 : Int32).toInt = 61 := (by decide); omega); omega
          · skip
            exfalso; have c_151 : r_38.toInt = 60 := (by have z := Int32.toInt_inj.mpr c; have k1 : (60 : Int32).toInt = 60 := (by decide); omega); omega
        · skip
          have c_125 : r_38.toInt ≠ 62 := (by have z := bn_ne c; have k1 : (62 : Int32).toInt = 62 := (by decide); omega)
          refine lv_iload_n hx hb dX12_compared_35 rfl (lv_at hl 1 rfl) ?_
          have q_164 : (f_14 0 13).toInt = v_21.toInt := (congrArg Int32.toInt (show f_14 0 13 = v_21 from ev_21.symm))
          have q_165 : (f_14 0 16).toInt = v_24.toInt := (congrArg Int32.toInt (show f_14 0 16 = v_24 from ev_24.symm))
          have q_166 : (f_14 0 15).toInt = v_27.toInt := (congrArg Int32.toInt (show f_14 0 15 = v_27 from ev_27.symm))
          have q_167 : (f_14 0 16).toInt = v_24.toInt := (congrArg Int32.toInt (show f_14 0 16 = v_24 from ev_24.symm))
          exact hret _ _ _ _ (r_17) f_14 L Q dX12_compared_36 hP hS ⟨⟨hI, hF, rfl, rfl⟩, trivial, (by omega), (by omega), (by omega)⟩

abbrev WkX12_both_1 : List (Nat × Nat × Option Nat) := [(0, 0, some 13), (0, 0, some 15), (0, 0, some 16)]
set_option maxHeartbeats 4000000 in
set_option maxRecDepth 100000 in
theorem kX12_both_1 (l : Launch) (D : va_G) (ca : Nat → ClassId) (za h : Nat → Nat) (hh : sgH 26 h) (f : sg_F) (L : sg_L) (Q : sg_Q) (hI : sgI loM hiM f) (p0 : 1 ≤ (f 0 16).toInt) (p1 : 0 ≤ (f 0 15).toInt ∨ (f 0 16).toInt = 1) (sz : Nat) : Met l yX12_both gwX12_both { frames := 35, cells := 0, slots := 0, locals := 798 } (sgP D vwCl (tyX ca) 26 h (eM ca h) zcM za f L Q sz [.ref (h 0)]) (sgQi D vwCl 26 h (eM ca h) sz (fun r f1 L1 Q1 => ((sgI loM hiM f1 ∧ sgK WkX12_both_1 f f1 ∧ L1 = L ∧ Q1 = Q) ∧ True ∧ ((f 0 13).toInt ≤ (f1 0 13).toInt) ∧ (1 ≤ (f1 0 16).toInt) ∧ (0 ≤ (f1 0 15).toInt ∨ (f1 0 16).toInt = 1)))) 0 0 (sgA 26 h sz) := by
  refine sg_ofWi (cc := cX12_both) (maxL := 3) RX12 (by decide) rfl rfl (Nat.le_of_ble_eq_true rfl) ?_
  intro p e s m below meth cd Qz ls hx hb hml hown hts hK hZ hP hS hl hret
  have hA := sgY.self (n := 26) (h := h) (sz := s.heap.size)
  have hl : lv_has ls 3 [(0, .ref (h 0))] := hl
  obtain ⟨H, hH⟩ : ∃ z : Heap, z = s.heap := ⟨_, rfl⟩
  obtain ⟨locs, hlo⟩ : ∃ z : List Loc, z = [] := ⟨_, rfl⟩
  have hP : va_P D vwCl (sgw 26 h (eM ca h) f L Q) H := by rw [hH]; exact hP
  have hS : va_S (sgA 26 h s.heap.size) s.heap H locs := by rw [hH, hlo]; exact hS
  suffices hgo : W p l e ({ frames := 35, cells := 0, slots := 0, locals := 798 }) s m ([.ref (h 0)] : List Value).toArray below meth cd H locs 0 0 Qz (F0 m 0 ls []) by rw [hH, hlo] at hgo; exact hgo
  clear hH hlo
  obtain ⟨v_1, ev_1⟩ : ∃ z : Int32, z = f 0 16 := ⟨_, rfl⟩
  have q_2 : 0 ≤ v_1.toInt ∧ v_1.toInt ≤ 6 := by rw [ev_1]; exact hI 0 16
  obtain ⟨v_3, ev_3⟩ : ∃ z : Int32, z = f 0 15 := ⟨_, rfl⟩
  have q_4 : (-1) ≤ v_3.toInt ∧ v_3.toInt ≤ 120 := by rw [ev_3]; exact hI 0 15
  obtain ⟨v_5, ev_5⟩ : ∃ z : Int32, z = f 0 13 := ⟨_, rfl⟩
  have q_6 : 0 ≤ v_5.toInt ∧ v_5.toInt ≤ 120 := by rw [ev_5]; exact hI 0 13
  have o_7 : (f 0 16).toInt = v_1.toInt := (congrArg Int32.toInt (show f 0 16 = v_1 from ev_1.symm))
  have o_8 : (f 0 15).toInt = v_3.toInt := (congrArg Int32.toInt (show f 0 15 = v_3 from ev_3.symm))
  have o_9 : (f 0 13).toInt = v_5.toInt := (congrArg Int32.toInt (show f 0 13 = v_5 from ev_5.symm))
  have hF : sgK WkX12_both_1 f f := sgK.rf
  have loop_5 : ∀ (n_5 : Nat) (y1_5 : Int32) (fp_5 : sg_F) (H : Heap) (locs : List Loc) (ls : Array Slot), 120 - (fp_5 0 13).toInt < (n_5 : Int) → (f 0 13).toInt ≤ (fp_5 0 13).toInt → 1 ≤ (fp_5 0 16).toInt → 0 ≤ (fp_5 0 15).toInt ∨ (fp_5 0 16).toInt = 1 → sgI loM hiM fp_5 → sgK WkX12_both_1 f fp_5 → va_P D vwCl (sgw 26 h (eM ca h) fp_5 L Q) H → va_S (sgA 26 h s.heap.size) s.heap H locs → lv_has ls 3 [(0, .ref (h 0)), (1, .int y1_5)] → W p l e ({ frames := 35, cells := 0, slots := 0, locals := 798 }) s m ([.ref (h 0)] : List Value).toArray below meth cd H locs 0 0 Qz (F0 m 5 ls []) := by
    intro n_5
    induction n_5 with
    | zero => intro y1_5 fp_5 H locs ls hm_5 hg0_5 hg1_5 hg2_5 hI hF hP hS hl; have zb := (show 0 ≤ (fp_5 0 13).toInt ∧ (fp_5 0 13).toInt ≤ 120 from hI 0 13); exact absurd hm_5 (by omega)
    | succ n_5 ih_5 =>
      intro y1_5 fp_5 H locs ls hm_5 hg0_5 hg1_5 hg2_5 hI hF hP hS hl
      obtain ⟨v_10, ev_10⟩ : ∃ z : Int32, z = fp_5 0 13 := ⟨_, rfl⟩
      have q_11 : 0 ≤ v_10.toInt ∧ v_10.toInt ≤ 120 := by rw [ev_10]; exact hI 0 13
      have q_12 : (fp_5 0 13).toInt = v_10.toInt := by rw [ev_10]
      obtain ⟨v_13, ev_13⟩ : ∃ z : Int32, z = fp_5 0 16 := ⟨_, rfl⟩
      have q_14 : 0 ≤ v_13.toInt ∧ v_13.toInt ≤ 6 := by rw [ev_13]; exact hI 0 16
      have q_15 : (fp_5 0 16).toInt = v_13.toInt := by rw [ev_13]
      obtain ⟨v_16, ev_16⟩ : ∃ z : Int32, z = fp_5 0 15 := ⟨_, rfl⟩
      have q_17 : (-1) ≤ v_16.toInt ∧ v_16.toInt ≤ 120 := by rw [ev_16]; exact hI 0 15
      have q_18 : (fp_5 0 15).toInt = v_16.toInt := by rw [ev_16]
      refine lv_aload_n hx hb dX12_both_5 rfl (lv_at hl 0 rfl) ?_
      refine lv_bipush (v := 38) hx hb dX12_both_6 (by decide) ?_
      have q_19 : (fp_5 0 15).toInt = v_16.toInt := (congrArg Int32.toInt (show fp_5 0 15 = v_16 from ev_16.symm))
      have q_20 : (fp_5 0 13).toInt = v_10.toInt := (congrArg Int32.toInt (show fp_5 0 13 = v_10 from ev_10.symm))
      obtain ⟨v_21, ev_21⟩ : ∃ z : Int32, z = fp_5 0 14 := ⟨_, rfl⟩
      have q_22 : 0 ≤ v_21.toInt ∧ v_21.toInt ≤ 120 := by rw [ev_21]; exact hI 0 14
      have q_23 : (fp_5 0 14).toInt = v_21.toInt := (congrArg Int32.toInt (show fp_5 0 14 = v_21 from ev_21.symm))
      have q_24 : (fp_5 0 13).toInt = v_10.toInt := (congrArg Int32.toInt (show fp_5 0 13 = v_10 from ev_10.symm))
      have q_25 : (fp_5 0 13).toInt = v_10.toInt := (congrArg Int32.toInt (show fp_5 0 13 = v_10 from ev_10.symm))
      refine sg_calli (va_runV (As := [.int 38]) (rest := []) ⟨hx, hb, hml, hown, hts⟩ (kX12_takes_38 l D ca za h hh fp_5 L Q hI H.size) (cwV 1 hts (gw_V (fun _ h => List.mem_cons_of_mem _ h) mw_877 mw_878 mw_879 mw_619 mw_876) rfl rfl rfl (by decide +kernel) ⟨Nat.le_of_ble_eq_true rfl, Nat.le_of_ble_eq_true rfl⟩) (sg_preV (ci := 12) (C := RX12) (T := TX12) (N := 55) hA hK hP hS hZ 0 (by decide) rfl rfl) rfl rfl hl.1 rfl (lv_room (Nat.le_of_ble_eq_true rfl)) dX12_both_8 ⟨Nat.le_refl _, Nat.le_refl _⟩) hA hS (fun r_29 f_26 L_27 Q_28 H locs hq hP hS => ?_)
      obtain ⟨⟨hI, hk_f_26, eL9, eQ9⟩, hq⟩ := hq
      rw [eL9, eQ9] at hP; clear eL9 eQ9
      have hF : sgK WkX12_both_1 f f_26 := sgK.tr hF hk_f_26 (by decide)
      obtain ⟨v_30, ev_30⟩ : ∃ z : Int32, z = f_26 0 13 := ⟨_, rfl⟩
      have q_31 : 0 ≤ v_30.toInt ∧ v_30.toInt ≤ 120 := by rw [ev_30]; exact hI 0 13
      have q_32 : (f_26 0 13).toInt = v_30.toInt := (congrArg Int32.toInt (show f_26 0 13 = v_30 from ev_30.symm))
      have q_33 : (f_26 0 13).toInt = v_30.toInt := (congrArg Int32.toInt (show f_26 0 13 = v_30 from ev_30.symm))
      have k_34 : (38 : Int32).toInt = 38 := by decide
      rcases hq with ⟨rfl, hq⟩ | ⟨rfl, hq⟩
      · skip
        have q_35 := hq
        refine lv_if_eq (tgt := 36) hx hb dX12_both_11 (by decide) (fun c => absurd c (by decide)) (fun c => ?_)
        refine lv_aload_n hx hb dX12_both_14 rfl (lv_at hl 0 rfl) ?_
        have q_36 : (f_26 0 16).toInt = v_13.toInt := (congrArg Int32.toInt (show f_26 0 16 = v_13 from ((hk_f_26 0 16 (by decide)).trans ev_13.symm)))
        have q_37 : (f_26 0 15).toInt = v_16.toInt := (congrArg Int32.toInt (show f_26 0 15 = v_16 from ((hk_f_26 0 15 (by decide)).trans ev_16.symm)))
        have q_38 : (f_26 0 16).toInt = v_13.toInt := (congrArg Int32.toInt (show f_26 0 16 = v_13 from ((hk_f_26 0 16 (by decide)).trans ev_13.symm)))
        have q_39 : (f_26 0 13).toInt = v_30.toInt := (congrArg Int32.toInt (show f_26 0 13 = v_30 from ev_30.symm))
        refine sg_calli (va_runV (As := []) (rest := []) ⟨hx, hb, hml, hown, hts⟩ (kX12_compared_1 l D ca za h hh f_26 L Q hI (by omega) (by omega) H.size) (cwV 0 hts (gw_V (fun _ h => List.mem_cons_of_mem _ h) mw_856 mw_857 mw_858 mw_619 mw_855) rfl rfl rfl (by decide +kernel) ⟨Nat.le_of_ble_eq_true rfl, Nat.le_of_ble_eq_true rfl⟩) (sg_preV (ci := 12) (C := RX12) (T := TX12) (N := 55) hA hK hP hS hZ 0 (by decide) rfl rfl) rfl rfl hl.1 rfl (lv_room (Nat.le_of_ble_eq_true rfl)) dX12_both_15 ⟨Nat.le_refl _, Nat.le_refl _⟩) hA hS (fun r_43 f_40 L_41 Q_42 H locs hq hP hS => ?_)
        obtain ⟨⟨hI, hk_f_40, eL9, eQ9⟩, hq, p_44, p_45, p_46⟩ := hq
        rw [eL9, eQ9] at hP; clear eL9 eQ9
        have hF : sgK WkX12_both_1 f f_40 := sgK.tr hF hk_f_40 (by decide)
        obtain ⟨v_47, ev_47⟩ : ∃ z : Int32, z = f_40 0 13 := ⟨_, rfl⟩
        have q_48 : 0 ≤ v_47.toInt ∧ v_47.toInt ≤ 120 := by rw [ev_47]; exact hI 0 13
        have q_49 : (f_40 0 13).toInt = v_47.toInt := (congrArg Int32.toInt (show f_40 0 13 = v_47 from ev_47.symm))
        obtain ⟨v_50, ev_50⟩ : ∃ z : Int32, z = f_40 0 16 := ⟨_, rfl⟩
        have q_51 : 0 ≤ v_50.toInt ∧ v_50.toInt ≤ 6 := by rw [ev_50]; exact hI 0 16
        have q_52 : (f_40 0 16).toInt = v_50.toInt := (congrArg Int32.toInt (show f_40 0 16 = v_50 from ev_50.symm))
        obtain ⟨v_53, ev_53⟩ : ∃ z : Int32, z = f_40 0 15 := ⟨_, rfl⟩
        have q_54 : (-1) ≤ v_53.toInt ∧ v_53.toInt ≤ 120 := by rw [ev_53]; exact hI 0 15
        have q_55 : (f_40 0 15).toInt = v_53.toInt := (congrArg Int32.toInt (show f_40 0 15 = v_53 from ev_53.symm))
        have q_56 : (f_40 0 16).toInt = v_50.toInt := (congrArg Int32.toInt (show f_40 0 16 = v_50 from ev_50.symm))
        refine lv_istore_n (lv' := [(2, .int r_43), (0, .ref (h 0)), (1, .int y1_5)]) hx hb dX12_both_18 rfl hl (by decide) rfl (fun ls hl => ?_)
        refine lv_iload_n hx hb dX12_both_19 rfl (lv_at hl 2 rfl) ?_
        refine lv_if_eq (tgt := 31) hx hb dX12_both_20 (by decide) (fun c => ?_) (fun c => ?_)
        · skip
          have c_57 : y1_5.toInt = 0 := (by have z := Int32.toInt_inj.mpr c; have k1 : (0 : Int32).toInt = 0 := (by decide); omega)
          refine lv_iconst (v := 0) hx hb dX12_both_31 (by decide) ?_
          refine lv_istore_n (lv' := [(1, .int 0), (2, .int r_43), (0, .ref (h 0))]) hx hb dX12_both_32 rfl hl (by decide) rfl (fun ls hl => ?_)
          refine lv_goto (tgt := 5) hx hb dX12_both_33 (by decide) ?_
          exact ih_5 0 f_40 _ _ _ (by have kc0 : (0 : Int32).toInt = 0 := (by decide); have zz0_13 : (f_40 0 13).toInt = v_47.toInt := (congrArg Int32.toInt (show f_40 0 13 = v_47 from ev_47.symm)); omega) (by have kc0 : (0 : Int32).toInt = 0 := (by decide); have zz0_13 : (f_40 0 13).toInt = v_47.toInt := (congrArg Int32.toInt (show f_40 0 13 = v_47 from ev_47.symm)); omega) (by have kc0 : (0 : Int32).toInt = 0 := (by decide); have zz0_16 : (f_40 0 16).toInt = v_50.toInt := (congrArg Int32.toInt (show f_40 0 16 = v_50 from ev_50.symm)); omega) (by have kc0 : (0 : Int32).toInt = 0 := (by decide); have zz0_15 : (f_40 0 15).toInt = v_53.toInt := (congrArg Int32.toInt (show f_40 0 15 = v_53 from ev_53.symm)); have zz0_16 : (f_40 0 16).toInt = v_50.toInt := (congrArg Int32.toInt (show f_40 0 16 = v_50 from ev_50.symm)); omega) hI hF hP hS (lv_sub hl [2, 0] rfl)
        · skip
          have c_58 : y1_5.toInt ≠ 0 := (by have z := bn_ne c; have k1 : (0 : Int32).toInt = 0 := (by decide); omega)
          refine lv_iload_n hx hb dX12_both_23 rfl (lv_at hl 0 rfl) ?_
          refine lv_if_eq (tgt := 31) hx hb dX12_both_24 (by decide) (fun c => ?_) (fun c => ?_)
          · skip
            have c_59 : r_43.toInt = 0 := (by have z := Int32.toInt_inj.mpr c; have k1 : (0 : Int32).toInt = 0 := (by decide); omega)
            refine lv_iconst (v := 0) hx hb dX12_both_31 (by decide) ?_
            refine lv_istore_n (lv' := [(1, .int 0), (2, .int r_43), (0, .ref (h 0))]) hx hb dX12_both_32 rfl hl (by decide) rfl (fun ls hl => ?_)
            refine lv_goto (tgt := 5) hx hb dX12_both_33 (by decide) ?_
            exact ih_5 0 f_40 _ _ _ (by have kc0 : (0 : Int32).toInt = 0 := (by decide); have zz0_13 : (f_40 0 13).toInt = v_47.toInt := (congrArg Int32.toInt (show f_40 0 13 = v_47 from ev_47.symm)); omega) (by have kc0 : (0 : Int32).toInt = 0 := (by decide); have zz0_13 : (f_40 0 13).toInt = v_47.toInt := (congrArg Int32.toInt (show f_40 0 13 = v_47 from ev_47.symm)); omega) (by have kc0 : (0 : Int32).toInt = 0 := (by decide); have zz0_16 : (f_40 0 16).toInt = v_50.toInt := (congrArg Int32.toInt (show f_40 0 16 = v_50 from ev_50.symm)); omega) (by have kc0 : (0 : Int32).toInt = 0 := (by decide); have zz0_15 : (f_40 0 15).toInt = v_53.toInt := (congrArg Int32.toInt (show f_40 0 15 = v_53 from ev_53.symm)); have zz0_16 : (f_40 0 16).toInt = v_50.toInt := (congrArg Int32.toInt (show f_40 0 16 = v_50 from ev_50.symm)); omega) hI hF hP hS (lv_sub hl [2, 0] rfl)
          · skip
            have c_60 : r_43.toInt ≠ 0 := (by have z := bn_ne c; have k1 : (0 : Int32).toInt = 0 := (by decide); omega)
            refine lv_iconst (v := 1) hx hb dX12_both_27 (by decide) ?_
            refine lv_goto (tgt := 32) hx hb dX12_both_28 (by decide) ?_
            refine lv_istore_n (lv' := [(1, .int 1), (2, .int r_43), (0, .ref (h 0))]) hx hb dX12_both_32 rfl hl (by decide) rfl (fun ls hl => ?_)
            refine lv_goto (tgt := 5) hx hb dX12_both_33 (by decide) ?_
            exact ih_5 1 f_40 _ _ _ (by have kc0 : (1 : Int32).toInt = 1 := (by decide); have zz0_13 : (f_40 0 13).toInt = v_47.toInt := (congrArg Int32.toInt (show f_40 0 13 = v_47 from ev_47.symm)); omega) (by have kc0 : (1 : Int32).toInt = 1 := (by decide); have zz0_13 : (f_40 0 13).toInt = v_47.toInt := (congrArg Int32.toInt (show f_40 0 13 = v_47 from ev_47.symm)); omega) (by have kc0 : (1 : Int32).toInt = 1 := (by decide); have zz0_16 : (f_40 0 16).toInt = v_50.toInt := (congrArg Int32.toInt (show f_40 0 16 = v_50 from ev_50.symm)); omega) (by have kc0 : (1 : Int32).toInt = 1 := (by decide); have zz0_15 : (f_40 0 15).toInt = v_53.toInt := (congrArg Int32.toInt (show f_40 0 15 = v_53 from ev_53.symm)); have zz0_16 : (f_40 0 16).toInt = v_50.toInt := (congrArg Int32.toInt (show f_40 0 16 = v_50 from ev_50.symm)); omega) hI hF hP hS (lv_sub hl [2, 0] rfl)
      · skip
        have q_61 := hq
        refine lv_if_eq (tgt := 36) hx hb dX12_both_11 (by decide) (fun c => ?_) (fun c => absurd c (by decide))
        refine lv_iload_n hx hb dX12_both_36 rfl (lv_at hl 1 rfl) ?_
        have q_62 : (f_26 0 13).toInt = v_30.toInt := (congrArg Int32.toInt (show f_26 0 13 = v_30 from ev_30.symm))
        have q_63 : (f_26 0 16).toInt = v_13.toInt := (congrArg Int32.toInt (show f_26 0 16 = v_13 from ((hk_f_26 0 16 (by decide)).trans ev_13.symm)))
        have q_64 : (f_26 0 15).toInt = v_16.toInt := (congrArg Int32.toInt (show f_26 0 15 = v_16 from ((hk_f_26 0 15 (by decide)).trans ev_16.symm)))
        have q_65 : (f_26 0 16).toInt = v_13.toInt := (congrArg Int32.toInt (show f_26 0 16 = v_13 from ((hk_f_26 0 16 (by decide)).trans ev_13.symm)))
        exact hret _ _ _ _ (y1_5) f_26 L Q dX12_both_37 hP hS ⟨⟨hI, hF, rfl, rfl⟩, trivial, (by omega), (by omega), (by omega)⟩
  refine lv_aload_n hx hb dX12_both_0 rfl (lv_at hl 0 rfl) ?_
  have q_66 : (f 0 16).toInt = v_1.toInt := (congrArg Int32.toInt (show f 0 16 = v_1 from ev_1.symm))
  have q_67 : (f 0 15).toInt = v_3.toInt := (congrArg Int32.toInt (show f 0 15 = v_3 from ev_3.symm))
  have q_68 : (f 0 16).toInt = v_1.toInt := (congrArg Int32.toInt (show f 0 16 = v_1 from ev_1.symm))
  have q_69 : (f 0 13).toInt = v_5.toInt := (congrArg Int32.toInt (show f 0 13 = v_5 from ev_5.symm))
  refine sg_calli (va_runV (As := []) (rest := []) ⟨hx, hb, hml, hown, hts⟩ (kX12_compared_1 l D ca za h hh f L Q hI (by omega) (by omega) H.size) (cwV 0 hts (gw_V (fun _ h => List.mem_cons_of_mem _ h) mw_856 mw_857 mw_858 mw_619 mw_855) rfl rfl rfl (by decide +kernel) ⟨Nat.le_of_ble_eq_true rfl, Nat.le_of_ble_eq_true rfl⟩) (sg_preV (ci := 12) (C := RX12) (T := TX12) (N := 55) hA hK hP hS hZ 0 (by decide) rfl rfl) rfl rfl hl.1 rfl (lv_room (Nat.le_of_ble_eq_true rfl)) dX12_both_1 ⟨Nat.le_refl _, Nat.le_refl _⟩) hA hS (fun r_73 f_70 L_71 Q_72 H locs hq hP hS => ?_)
  obtain ⟨⟨hI, hk_f_70, eL9, eQ9⟩, hq, p_74, p_75, p_76⟩ := hq
  rw [eL9, eQ9] at hP; clear eL9 eQ9
  have hF : sgK WkX12_both_1 f f_70 := sgK.tr hF hk_f_70 (by decide)
  obtain ⟨v_77, ev_77⟩ : ∃ z : Int32, z = f_70 0 13 := ⟨_, rfl⟩
  have q_78 : 0 ≤ v_77.toInt ∧ v_77.toInt ≤ 120 := by rw [ev_77]; exact hI 0 13
  have q_79 : (f_70 0 13).toInt = v_77.toInt := (congrArg Int32.toInt (show f_70 0 13 = v_77 from ev_77.symm))
  obtain ⟨v_80, ev_80⟩ : ∃ z : Int32, z = f_70 0 16 := ⟨_, rfl⟩
  have q_81 : 0 ≤ v_80.toInt ∧ v_80.toInt ≤ 6 := by rw [ev_80]; exact hI 0 16
  have q_82 : (f_70 0 16).toInt = v_80.toInt := (congrArg Int32.toInt (show f_70 0 16 = v_80 from ev_80.symm))
  obtain ⟨v_83, ev_83⟩ : ∃ z : Int32, z = f_70 0 15 := ⟨_, rfl⟩
  have q_84 : (-1) ≤ v_83.toInt ∧ v_83.toInt ≤ 120 := by rw [ev_83]; exact hI 0 15
  have q_85 : (f_70 0 15).toInt = v_83.toInt := (congrArg Int32.toInt (show f_70 0 15 = v_83 from ev_83.symm))
  have q_86 : (f_70 0 16).toInt = v_80.toInt := (congrArg Int32.toInt (show f_70 0 16 = v_80 from ev_80.symm))
  refine lv_istore_n (lv' := [(1, .int r_73), (0, .ref (h 0))]) hx hb dX12_both_4 rfl hl (by decide) rfl (fun ls hl => ?_)
  exact loop_5 121 r_73 f_70 _ _ _ (by have zz0_13 : (f_70 0 13).toInt = v_77.toInt := (congrArg Int32.toInt (show f_70 0 13 = v_77 from ev_77.symm)); omega) (by have zz0_13 : (f_70 0 13).toInt = v_77.toInt := (congrArg Int32.toInt (show f_70 0 13 = v_77 from ev_77.symm)); omega) (by have zz0_16 : (f_70 0 16).toInt = v_80.toInt := (congrArg Int32.toInt (show f_70 0 16 = v_80 from ev_80.symm)); omega) (by have zz0_15 : (f_70 0 15).toInt = v_83.toInt := (congrArg Int32.toInt (show f_70 0 15 = v_83 from ev_83.symm)); have zz0_16 : (f_70 0 16).toInt = v_80.toInt := (congrArg Int32.toInt (show f_70 0 16 = v_80 from ev_80.symm)); omega) hI hF hP hS (lv_sub hl [1, 0] rfl)

abbrev WkX12_either_1 : List (Nat × Nat × Option Nat) := [(0, 0, some 13), (0, 0, some 15), (0, 0, some 16)]
set_option maxHeartbeats 4000000 in
set_option maxRecDepth 100000 in
theorem kX12_either_1 (l : Launch) (D : va_G) (ca : Nat → ClassId) (za h : Nat → Nat) (hh : sgH 26 h) (f : sg_F) (L : sg_L) (Q : sg_Q) (hI : sgI loM hiM f) (p0 : 1 ≤ (f 0 16).toInt) (p1 : 0 ≤ (f 0 15).toInt ∨ (f 0 16).toInt = 1) (sz : Nat) : Met l yX12_either gwX12_either { frames := 36, cells := 0, slots := 0, locals := 820 } (sgP D vwCl (tyX ca) 26 h (eM ca h) zcM za f L Q sz [.ref (h 0)]) (sgQi D vwCl 26 h (eM ca h) sz (fun r f1 L1 Q1 => ((sgI loM hiM f1 ∧ sgK WkX12_either_1 f f1 ∧ L1 = L ∧ Q1 = Q) ∧ True ∧ ((f 0 13).toInt ≤ (f1 0 13).toInt) ∧ (1 ≤ (f1 0 16).toInt) ∧ (0 ≤ (f1 0 15).toInt ∨ (f1 0 16).toInt = 1)))) 0 0 (sgA 26 h sz) := by
  refine sg_ofWi (cc := cX12_either) (maxL := 3) RX12 (by decide) rfl rfl (Nat.le_of_ble_eq_true rfl) ?_
  intro p e s m below meth cd Qz ls hx hb hml hown hts hK hZ hP hS hl hret
  have hA := sgY.self (n := 26) (h := h) (sz := s.heap.size)
  have hl : lv_has ls 3 [(0, .ref (h 0))] := hl
  obtain ⟨H, hH⟩ : ∃ z : Heap, z = s.heap := ⟨_, rfl⟩
  obtain ⟨locs, hlo⟩ : ∃ z : List Loc, z = [] := ⟨_, rfl⟩
  have hP : va_P D vwCl (sgw 26 h (eM ca h) f L Q) H := by rw [hH]; exact hP
  have hS : va_S (sgA 26 h s.heap.size) s.heap H locs := by rw [hH, hlo]; exact hS
  suffices hgo : W p l e ({ frames := 36, cells := 0, slots := 0, locals := 820 }) s m ([.ref (h 0)] : List Value).toArray below meth cd H locs 0 0 Qz (F0 m 0 ls []) by rw [hH, hlo] at hgo; exact hgo
  clear hH hlo
  obtain ⟨v_1, ev_1⟩ : ∃ z : Int32, z = f 0 16 := ⟨_, rfl⟩
  have q_2 : 0 ≤ v_1.toInt ∧ v_1.toInt ≤ 6 := by rw [ev_1]; exact hI 0 16
  obtain ⟨v_3, ev_3⟩ : ∃ z : Int32, z = f 0 15 := ⟨_, rfl⟩
  have q_4 : (-1) ≤ v_3.toInt ∧ v_3.toInt ≤ 120 := by rw [ev_3]; exact hI 0 15
  obtain ⟨v_5, ev_5⟩ : ∃ z : Int32, z = f 0 13 := ⟨_, rfl⟩
  have q_6 : 0 ≤ v_5.toInt ∧ v_5.toInt ≤ 120 := by rw [ev_5]; exact hI 0 13
  have o_7 : (f 0 16).toInt = v_1.toInt := (congrArg Int32.toInt (show f 0 16 = v_1 from ev_1.symm))
  have o_8 : (f 0 15).toInt = v_3.toInt := (congrArg Int32.toInt (show f 0 15 = v_3 from ev_3.symm))
  have o_9 : (f 0 13).toInt = v_5.toInt := (congrArg Int32.toInt (show f 0 13 = v_5 from ev_5.symm))
  have hF : sgK WkX12_either_1 f f := sgK.rf
  have loop_5 : ∀ (n_5 : Nat) (y1_5 : Int32) (fp_5 : sg_F) (H : Heap) (locs : List Loc) (ls : Array Slot), 120 - (fp_5 0 13).toInt < (n_5 : Int) → (f 0 13).toInt ≤ (fp_5 0 13).toInt → 1 ≤ (fp_5 0 16).toInt → 0 ≤ (fp_5 0 15).toInt ∨ (fp_5 0 16).toInt = 1 → sgI loM hiM fp_5 → sgK WkX12_either_1 f fp_5 → va_P D vwCl (sgw 26 h (eM ca h) fp_5 L Q) H → va_S (sgA 26 h s.heap.size) s.heap H locs → lv_has ls 3 [(0, .ref (h 0)), (1, .int y1_5)] → W p l e ({ frames := 36, cells := 0, slots := 0, locals := 820 }) s m ([.ref (h 0)] : List Value).toArray below meth cd H locs 0 0 Qz (F0 m 5 ls []) := by
    intro n_5
    induction n_5 with
    | zero => intro y1_5 fp_5 H locs ls hm_5 hg0_5 hg1_5 hg2_5 hI hF hP hS hl; have zb := (show 0 ≤ (fp_5 0 13).toInt ∧ (fp_5 0 13).toInt ≤ 120 from hI 0 13); exact absurd hm_5 (by omega)
    | succ n_5 ih_5 =>
      intro y1_5 fp_5 H locs ls hm_5 hg0_5 hg1_5 hg2_5 hI hF hP hS hl
      obtain ⟨v_10, ev_10⟩ : ∃ z : Int32, z = fp_5 0 13 := ⟨_, rfl⟩
      have q_11 : 0 ≤ v_10.toInt ∧ v_10.toInt ≤ 120 := by rw [ev_10]; exact hI 0 13
      have q_12 : (fp_5 0 13).toInt = v_10.toInt := by rw [ev_10]
      obtain ⟨v_13, ev_13⟩ : ∃ z : Int32, z = fp_5 0 16 := ⟨_, rfl⟩
      have q_14 : 0 ≤ v_13.toInt ∧ v_13.toInt ≤ 6 := by rw [ev_13]; exact hI 0 16
      have q_15 : (fp_5 0 16).toInt = v_13.toInt := by rw [ev_13]
      obtain ⟨v_16, ev_16⟩ : ∃ z : Int32, z = fp_5 0 15 := ⟨_, rfl⟩
      have q_17 : (-1) ≤ v_16.toInt ∧ v_16.toInt ≤ 120 := by rw [ev_16]; exact hI 0 15
      have q_18 : (fp_5 0 15).toInt = v_16.toInt := by rw [ev_16]
      refine lv_aload_n hx hb dX12_either_5 rfl (lv_at hl 0 rfl) ?_
      refine lv_bipush (v := 124) hx hb dX12_either_6 (by decide) ?_
      have q_19 : (fp_5 0 15).toInt = v_16.toInt := (congrArg Int32.toInt (show fp_5 0 15 = v_16 from ev_16.symm))
      have q_20 : (fp_5 0 13).toInt = v_10.toInt := (congrArg Int32.toInt (show fp_5 0 13 = v_10 from ev_10.symm))
      obtain ⟨v_21, ev_21⟩ : ∃ z : Int32, z = fp_5 0 14 := ⟨_, rfl⟩
      have q_22 : 0 ≤ v_21.toInt ∧ v_21.toInt ≤ 120 := by rw [ev_21]; exact hI 0 14
      have q_23 : (fp_5 0 14).toInt = v_21.toInt := (congrArg Int32.toInt (show fp_5 0 14 = v_21 from ev_21.symm))
      have q_24 : (fp_5 0 13).toInt = v_10.toInt := (congrArg Int32.toInt (show fp_5 0 13 = v_10 from ev_10.symm))
      have q_25 : (fp_5 0 13).toInt = v_10.toInt := (congrArg Int32.toInt (show fp_5 0 13 = v_10 from ev_10.symm))
      refine sg_calli (va_runV (As := [.int 124]) (rest := []) ⟨hx, hb, hml, hown, hts⟩ (kX12_takes_124 l D ca za h hh fp_5 L Q hI H.size) (cwV 1 hts (gw_V (fun _ h => List.mem_cons_of_mem _ h) mw_877 mw_878 mw_879 mw_619 mw_876) rfl rfl rfl (by decide +kernel) ⟨Nat.le_of_ble_eq_true rfl, Nat.le_of_ble_eq_true rfl⟩) (sg_preV (ci := 12) (C := RX12) (T := TX12) (N := 55) hA hK hP hS hZ 0 (by decide) rfl rfl) rfl rfl hl.1 rfl (lv_room (Nat.le_of_ble_eq_true rfl)) dX12_either_8 ⟨Nat.le_refl _, Nat.le_refl _⟩) hA hS (fun r_29 f_26 L_27 Q_28 H locs hq hP hS => ?_)
      obtain ⟨⟨hI, hk_f_26, eL9, eQ9⟩, hq⟩ := hq
      rw [eL9, eQ9] at hP; clear eL9 eQ9
      have hF : sgK WkX12_either_1 f f_26 := sgK.tr hF hk_f_26 (by decide)
      obtain ⟨v_30, ev_30⟩ : ∃ z : Int32, z = f_26 0 13 := ⟨_, rfl⟩
      have q_31 : 0 ≤ v_30.toInt ∧ v_30.toInt ≤ 120 := by rw [ev_30]; exact hI 0 13
      have q_32 : (f_26 0 13).toInt = v_30.toInt := (congrArg Int32.toInt (show f_26 0 13 = v_30 from ev_30.symm))
      have q_33 : (f_26 0 13).toInt = v_30.toInt := (congrArg Int32.toInt (show f_26 0 13 = v_30 from ev_30.symm))
      have k_34 : (124 : Int32).toInt = 124 := by decide
      rcases hq with ⟨rfl, hq⟩ | ⟨rfl, hq⟩
      · skip
        have q_35 := hq
        refine lv_if_eq (tgt := 36) hx hb dX12_either_11 (by decide) (fun c => absurd c (by decide)) (fun c => ?_)
        refine lv_aload_n hx hb dX12_either_14 rfl (lv_at hl 0 rfl) ?_
        have q_36 : (f_26 0 16).toInt = v_13.toInt := (congrArg Int32.toInt (show f_26 0 16 = v_13 from ((hk_f_26 0 16 (by decide)).trans ev_13.symm)))
        have q_37 : (f_26 0 15).toInt = v_16.toInt := (congrArg Int32.toInt (show f_26 0 15 = v_16 from ((hk_f_26 0 15 (by decide)).trans ev_16.symm)))
        have q_38 : (f_26 0 16).toInt = v_13.toInt := (congrArg Int32.toInt (show f_26 0 16 = v_13 from ((hk_f_26 0 16 (by decide)).trans ev_13.symm)))
        have q_39 : (f_26 0 13).toInt = v_30.toInt := (congrArg Int32.toInt (show f_26 0 13 = v_30 from ev_30.symm))
        refine sg_calli (va_runV (As := []) (rest := []) ⟨hx, hb, hml, hown, hts⟩ (kX12_both_1 l D ca za h hh f_26 L Q hI (by omega) (by omega) H.size) (cwV 0 hts (gw_V (fun _ h => List.mem_cons_of_mem _ h) mw_881 mw_882 mw_883 mw_619 mw_880) rfl rfl rfl (by decide +kernel) ⟨Nat.le_of_ble_eq_true rfl, Nat.le_of_ble_eq_true rfl⟩) (sg_preV (ci := 12) (C := RX12) (T := TX12) (N := 55) hA hK hP hS hZ 0 (by decide) rfl rfl) rfl rfl hl.1 rfl (lv_room (Nat.le_of_ble_eq_true rfl)) dX12_either_15 ⟨Nat.le_refl _, Nat.le_refl _⟩) hA hS (fun r_43 f_40 L_41 Q_42 H locs hq hP hS => ?_)
        obtain ⟨⟨hI, hk_f_40, eL9, eQ9⟩, hq, p_44, p_45, p_46⟩ := hq
        rw [eL9, eQ9] at hP; clear eL9 eQ9
        have hF : sgK WkX12_either_1 f f_40 := sgK.tr hF hk_f_40 (by decide)
        obtain ⟨v_47, ev_47⟩ : ∃ z : Int32, z = f_40 0 13 := ⟨_, rfl⟩
        have q_48 : 0 ≤ v_47.toInt ∧ v_47.toInt ≤ 120 := by rw [ev_47]; exact hI 0 13
        have q_49 : (f_40 0 13).toInt = v_47.toInt := (congrArg Int32.toInt (show f_40 0 13 = v_47 from ev_47.symm))
        obtain ⟨v_50, ev_50⟩ : ∃ z : Int32, z = f_40 0 16 := ⟨_, rfl⟩
        have q_51 : 0 ≤ v_50.toInt ∧ v_50.toInt ≤ 6 := by rw [ev_50]; exact hI 0 16
        have q_52 : (f_40 0 16).toInt = v_50.toInt := (congrArg Int32.toInt (show f_40 0 16 = v_50 from ev_50.symm))
        obtain ⟨v_53, ev_53⟩ : ∃ z : Int32, z = f_40 0 15 := ⟨_, rfl⟩
        have q_54 : (-1) ≤ v_53.toInt ∧ v_53.toInt ≤ 120 := by rw [ev_53]; exact hI 0 15
        have q_55 : (f_40 0 15).toInt = v_53.toInt := (congrArg Int32.toInt (show f_40 0 15 = v_53 from ev_53.symm))
        have q_56 : (f_40 0 16).toInt = v_50.toInt := (congrArg Int32.toInt (show f_40 0 16 = v_50 from ev_50.symm))
        refine lv_istore_n (lv' := [(2, .int r_43), (0, .ref (h 0)), (1, .int y1_5)]) hx hb dX12_either_18 rfl hl (by decide) rfl (fun ls hl => ?_)
        refine lv_iload_n hx hb dX12_either_19 rfl (lv_at hl 2 rfl) ?_
        refine lv_if_ne (tgt := 27) hx hb dX12_either_20 (by decide) (fun c => ?_) (fun c => ?_)
        · skip
          have c_57 : y1_5.toInt ≠ 0 := (by have z := bn_ne c; have k1 : (0 : Int32).toInt = 0 := (by decide); omega)
          refine lv_iconst (v := 1) hx hb dX12_either_27 (by decide) ?_
          refine lv_goto (tgt := 32) hx hb dX12_either_28 (by decide) ?_
          refine lv_istore_n (lv' := [(1, .int 1), (2, .int r_43), (0, .ref (h 0))]) hx hb dX12_either_32 rfl hl (by decide) rfl (fun ls hl => ?_)
          refine lv_goto (tgt := 5) hx hb dX12_either_33 (by decide) ?_
          exact ih_5 1 f_40 _ _ _ (by have kc0 : (1 : Int32).toInt = 1 := (by decide); have zz0_13 : (f_40 0 13).toInt = v_47.toInt := (congrArg Int32.toInt (show f_40 0 13 = v_47 from ev_47.symm)); omega) (by have kc0 : (1 : Int32).toInt = 1 := (by decide); have zz0_13 : (f_40 0 13).toInt = v_47.toInt := (congrArg Int32.toInt (show f_40 0 13 = v_47 from ev_47.symm)); omega) (by have kc0 : (1 : Int32).toInt = 1 := (by decide); have zz0_16 : (f_40 0 16).toInt = v_50.toInt := (congrArg Int32.toInt (show f_40 0 16 = v_50 from ev_50.symm)); omega) (by have kc0 : (1 : Int32).toInt = 1 := (by decide); have zz0_15 : (f_40 0 15).toInt = v_53.toInt := (congrArg Int32.toInt (show f_40 0 15 = v_53 from ev_53.symm)); have zz0_16 : (f_40 0 16).toInt = v_50.toInt := (congrArg Int32.toInt (show f_40 0 16 = v_50 from ev_50.symm)); omega) hI hF hP hS (lv_sub hl [2, 0] rfl)
        · skip
          have c_58 : y1_5.toInt = 0 := (by have z := Int32.toInt_inj.mpr c; have k1 : (0 : Int32).toInt = 0 := (by decide); omega)
          refine lv_iload_n hx hb dX12_either_23 rfl (lv_at hl 0 rfl) ?_
          refine lv_if_eq (tgt := 31) hx hb dX12_either_24 (by decide) (fun c => ?_) (fun c => ?_)
          · skip
            have c_59 : r_43.toInt = 0 := (by have z := Int32.toInt_inj.mpr c; have k1 : (0 : Int32).toInt = 0 := (by decide); omega)
            refine lv_iconst (v := 0) hx hb dX12_either_31 (by decide) ?_
            refine lv_istore_n (lv' := [(1, .int 0), (2, .int r_43), (0, .ref (h 0))]) hx hb dX12_either_32 rfl hl (by decide) rfl (fun ls hl => ?_)
            refine lv_goto (tgt := 5) hx hb dX12_either_33 (by decide) ?_
            exact ih_5 0 f_40 _ _ _ (by have kc0 : (0 : Int32).toInt = 0 := (by decide); have zz0_13 : (f_40 0 13).toInt = v_47.toInt := (congrArg Int32.toInt (show f_40 0 13 = v_47 from ev_47.symm)); omega) (by have kc0 : (0 : Int32).toInt = 0 := (by decide); have zz0_13 : (f_40 0 13).toInt = v_47.toInt := (congrArg Int32.toInt (show f_40 0 13 = v_47 from ev_47.symm)); omega) (by have kc0 : (0 : Int32).toInt = 0 := (by decide); have zz0_16 : (f_40 0 16).toInt = v_50.toInt := (congrArg Int32.toInt (show f_40 0 16 = v_50 from ev_50.symm)); omega) (by have kc0 : (0 : Int32).toInt = 0 := (by decide); have zz0_15 : (f_40 0 15).toInt = v_53.toInt := (congrArg Int32.toInt (show f_40 0 15 = v_53 from ev_53.symm)); have zz0_16 : (f_40 0 16).toInt = v_50.toInt := (congrArg Int32.toInt (show f_40 0 16 = v_50 from ev_50.symm)); omega) hI hF hP hS (lv_sub hl [2, 0] rfl)
          · skip
            have c_60 : r_43.toInt ≠ 0 := (by have z := bn_ne c; have k1 : (0 : Int32).toInt = 0 := (by decide); omega)
            refine lv_iconst (v := 1) hx hb dX12_either_27 (by decide) ?_
            refine lv_goto (tgt := 32) hx hb dX12_either_28 (by decide) ?_
            refine lv_istore_n (lv' := [(1, .int 1), (2, .int r_43), (0, .ref (h 0))]) hx hb dX12_either_32 rfl hl (by decide) rfl (fun ls hl => ?_)
            refine lv_goto (tgt := 5) hx hb dX12_either_33 (by decide) ?_
            exact ih_5 1 f_40 _ _ _ (by have kc0 : (1 : Int32).toInt = 1 := (by decide); have zz0_13 : (f_40 0 13).toInt = v_47.toInt := (congrArg Int32.toInt (show f_40 0 13 = v_47 from ev_47.symm)); omega) (by have kc0 : (1 : Int32).toInt = 1 := (by decide); have zz0_13 : (f_40 0 13).toInt = v_47.toInt := (congrArg Int32.toInt (show f_40 0 13 = v_47 from ev_47.symm)); omega) (by have kc0 : (1 : Int32).toInt = 1 := (by decide); have zz0_16 : (f_40 0 16).toInt = v_50.toInt := (congrArg Int32.toInt (show f_40 0 16 = v_50 from ev_50.symm)); omega) (by have kc0 : (1 : Int32).toInt = 1 := (by decide); have zz0_15 : (f_40 0 15).toInt = v_53.toInt := (congrArg Int32.toInt (show f_40 0 15 = v_53 from ev_53.symm)); have zz0_16 : (f_40 0 16).toInt = v_50.toInt := (congrArg Int32.toInt (show f_40 0 16 = v_50 from ev_50.symm)); omega) hI hF hP hS (lv_sub hl [2, 0] rfl)
      · skip
        have q_61 := hq
        refine lv_if_eq (tgt := 36) hx hb dX12_either_11 (by decide) (fun c => ?_) (fun c => absurd c (by decide))
        refine lv_iload_n hx hb dX12_either_36 rfl (lv_at hl 1 rfl) ?_
        have q_62 : (f_26 0 13).toInt = v_30.toInt := (congrArg Int32.toInt (show f_26 0 13 = v_30 from ev_30.symm))
        have q_63 : (f_26 0 16).toInt = v_13.toInt := (congrArg Int32.toInt (show f_26 0 16 = v_13 from ((hk_f_26 0 16 (by decide)).trans ev_13.symm)))
        have q_64 : (f_26 0 15).toInt = v_16.toInt := (congrArg Int32.toInt (show f_26 0 15 = v_16 from ((hk_f_26 0 15 (by decide)).trans ev_16.symm)))
        have q_65 : (f_26 0 16).toInt = v_13.toInt := (congrArg Int32.toInt (show f_26 0 16 = v_13 from ((hk_f_26 0 16 (by decide)).trans ev_13.symm)))
        exact hret _ _ _ _ (y1_5) f_26 L Q dX12_either_37 hP hS ⟨⟨hI, hF, rfl, rfl⟩, trivial, (by omega), (by omega), (by omega)⟩
  refine lv_aload_n hx hb dX12_either_0 rfl (lv_at hl 0 rfl) ?_
  have q_66 : (f 0 16).toInt = v_1.toInt := (congrArg Int32.toInt (show f 0 16 = v_1 from ev_1.symm))
  have q_67 : (f 0 15).toInt = v_3.toInt := (congrArg Int32.toInt (show f 0 15 = v_3 from ev_3.symm))
  have q_68 : (f 0 16).toInt = v_1.toInt := (congrArg Int32.toInt (show f 0 16 = v_1 from ev_1.symm))
  have q_69 : (f 0 13).toInt = v_5.toInt := (congrArg Int32.toInt (show f 0 13 = v_5 from ev_5.symm))
  refine sg_calli (va_runV (As := []) (rest := []) ⟨hx, hb, hml, hown, hts⟩ (kX12_both_1 l D ca za h hh f L Q hI (by omega) (by omega) H.size) (cwV 0 hts (gw_V (fun _ h => List.mem_cons_of_mem _ h) mw_881 mw_882 mw_883 mw_619 mw_880) rfl rfl rfl (by decide +kernel) ⟨Nat.le_of_ble_eq_true rfl, Nat.le_of_ble_eq_true rfl⟩) (sg_preV (ci := 12) (C := RX12) (T := TX12) (N := 55) hA hK hP hS hZ 0 (by decide) rfl rfl) rfl rfl hl.1 rfl (lv_room (Nat.le_of_ble_eq_true rfl)) dX12_either_1 ⟨Nat.le_refl _, Nat.le_refl _⟩) hA hS (fun r_73 f_70 L_71 Q_72 H locs hq hP hS => ?_)
  obtain ⟨⟨hI, hk_f_70, eL9, eQ9⟩, hq, p_74, p_75, p_76⟩ := hq
  rw [eL9, eQ9] at hP; clear eL9 eQ9
  have hF : sgK WkX12_either_1 f f_70 := sgK.tr hF hk_f_70 (by decide)
  obtain ⟨v_77, ev_77⟩ : ∃ z : Int32, z = f_70 0 13 := ⟨_, rfl⟩
  have q_78 : 0 ≤ v_77.toInt ∧ v_77.toInt ≤ 120 := by rw [ev_77]; exact hI 0 13
  have q_79 : (f_70 0 13).toInt = v_77.toInt := (congrArg Int32.toInt (show f_70 0 13 = v_77 from ev_77.symm))
  obtain ⟨v_80, ev_80⟩ : ∃ z : Int32, z = f_70 0 16 := ⟨_, rfl⟩
  have q_81 : 0 ≤ v_80.toInt ∧ v_80.toInt ≤ 6 := by rw [ev_80]; exact hI 0 16
  have q_82 : (f_70 0 16).toInt = v_80.toInt := (congrArg Int32.toInt (show f_70 0 16 = v_80 from ev_80.symm))
  obtain ⟨v_83, ev_83⟩ : ∃ z : Int32, z = f_70 0 15 := ⟨_, rfl⟩
  have q_84 : (-1) ≤ v_83.toInt ∧ v_83.toInt ≤ 120 := by rw [ev_83]; exact hI 0 15
  have q_85 : (f_70 0 15).toInt = v_83.toInt := (congrArg Int32.toInt (show f_70 0 15 = v_83 from ev_83.symm))
  have q_86 : (f_70 0 16).toInt = v_80.toInt := (congrArg Int32.toInt (show f_70 0 16 = v_80 from ev_80.symm))
  refine lv_istore_n (lv' := [(1, .int r_73), (0, .ref (h 0))]) hx hb dX12_either_4 rfl hl (by decide) rfl (fun ls hl => ?_)
  exact loop_5 121 r_73 f_70 _ _ _ (by have zz0_13 : (f_70 0 13).toInt = v_77.toInt := (congrArg Int32.toInt (show f_70 0 13 = v_77 from ev_77.symm)); omega) (by have zz0_13 : (f_70 0 13).toInt = v_77.toInt := (congrArg Int32.toInt (show f_70 0 13 = v_77 from ev_77.symm)); omega) (by have zz0_16 : (f_70 0 16).toInt = v_80.toInt := (congrArg Int32.toInt (show f_70 0 16 = v_80 from ev_80.symm)); omega) (by have zz0_15 : (f_70 0 15).toInt = v_83.toInt := (congrArg Int32.toInt (show f_70 0 15 = v_83 from ev_83.symm)); have zz0_16 : (f_70 0 16).toInt = v_80.toInt := (congrArg Int32.toInt (show f_70 0 16 = v_80 from ev_80.symm)); omega) hI hF hP hS (lv_sub hl [1, 0] rfl)

abbrev WkX12_one_0 : List (Nat × Nat × Option Nat) := [(0, 0, some 13), (0, 0, some 15), (0, 0, some 16)]
set_option maxHeartbeats 4000000 in
set_option maxRecDepth 100000 in
theorem kX12_one_0 (l : Launch) (D : va_G) (ca : Nat → ClassId) (za h : Nat → Nat) (hh : sgH 26 h) (f : sg_F) (L : sg_L) (Q : sg_Q) (hI : sgI loM hiM f) (p0 : 0 ≤ (f 0 16).toInt) (p1 : 0 ≤ (f 0 15).toInt ∨ (f 0 16).toInt = 0) (sz : Nat) : Met l yX12_one gwX12_one { frames := 37, cells := 0, slots := 0, locals := 842 } (sgP D vwCl (tyX ca) 26 h (eM ca h) zcM za f L Q sz [.ref (h 0)]) (sgQi D vwCl 26 h (eM ca h) sz (fun r f1 L1 Q1 => ((sgI loM hiM f1 ∧ sgK WkX12_one_0 f f1 ∧ L1 = L ∧ Q1 = Q) ∧ True ∧ ((f 0 13).toInt ≤ (f1 0 13).toInt) ∧ (0 ≤ (f1 0 16).toInt) ∧ (0 ≤ (f1 0 15).toInt ∨ (f1 0 16).toInt = 0)))) 0 0 (sgA 26 h sz) := by
  refine sg_ofWi (cc := cX12_one) (maxL := 5) RX12 (by decide) rfl rfl (Nat.le_of_ble_eq_true rfl) ?_
  intro p e s m below meth cd Qz ls hx hb hml hown hts hK hZ hP hS hl hret
  have hA := sgY.self (n := 26) (h := h) (sz := s.heap.size)
  have hl : lv_has ls 5 [(0, .ref (h 0))] := hl
  obtain ⟨H, hH⟩ : ∃ z : Heap, z = s.heap := ⟨_, rfl⟩
  obtain ⟨locs, hlo⟩ : ∃ z : List Loc, z = [] := ⟨_, rfl⟩
  have hP : va_P D vwCl (sgw 26 h (eM ca h) f L Q) H := by rw [hH]; exact hP
  have hS : va_S (sgA 26 h s.heap.size) s.heap H locs := by rw [hH, hlo]; exact hS
  suffices hgo : W p l e ({ frames := 37, cells := 0, slots := 0, locals := 842 }) s m ([.ref (h 0)] : List Value).toArray below meth cd H locs 0 0 Qz (F0 m 0 ls []) by rw [hH, hlo] at hgo; exact hgo
  clear hH hlo
  obtain ⟨v_1, ev_1⟩ : ∃ z : Int32, z = f 0 16 := ⟨_, rfl⟩
  have q_2 : 0 ≤ v_1.toInt ∧ v_1.toInt ≤ 6 := by rw [ev_1]; exact hI 0 16
  obtain ⟨v_3, ev_3⟩ : ∃ z : Int32, z = f 0 15 := ⟨_, rfl⟩
  have q_4 : (-1) ≤ v_3.toInt ∧ v_3.toInt ≤ 120 := by rw [ev_3]; exact hI 0 15
  obtain ⟨v_5, ev_5⟩ : ∃ z : Int32, z = f 0 13 := ⟨_, rfl⟩
  have q_6 : 0 ≤ v_5.toInt ∧ v_5.toInt ≤ 120 := by rw [ev_5]; exact hI 0 13
  have o_7 : (f 0 16).toInt = v_1.toInt := (congrArg Int32.toInt (show f 0 16 = v_1 from ev_1.symm))
  have o_8 : (f 0 15).toInt = v_3.toInt := (congrArg Int32.toInt (show f 0 15 = v_3 from ev_3.symm))
  have o_9 : (f 0 13).toInt = v_5.toInt := (congrArg Int32.toInt (show f 0 13 = v_5 from ev_5.symm))
  have hF : sgK WkX12_one_0 f f := sgK.rf
  have blk_229 : ∀ (y3_229 : Int32) (y4_229 : Int32) (fp_229 : sg_F) (H : Heap) (locs : List Loc) (ls : Array Slot), (-1) ≤ (fp_229 0 15).toInt ∧ (fp_229 0 15).toInt ≤ (-1) → 0 ≤ y4_229.toInt ∧ y4_229.toInt ≤ 4 → (f 0 13).toInt ≤ (fp_229 0 13).toInt → 0 ≤ (fp_229 0 16).toInt → 0 ≤ (fp_229 0 15).toInt ∨ (fp_229 0 16).toInt = 0 → sgI loM hiM fp_229 → sgK WkX12_one_0 f fp_229 → va_P D vwCl (sgw 26 h (eM ca h) fp_229 L Q) H → va_S (sgA 26 h s.heap.size) s.heap H locs → lv_has ls 5 [(0, .ref (h 0)), (3, .int y3_229), (4, .int y4_229)] → W p l e ({ frames := 37, cells := 0, slots := 0, locals := 842 }) s m ([.ref (h 0)] : List Value).toArray below meth cd H locs 0 0 Qz (F0 m 229 ls []) := by
    intro y3_229 y4_229 fp_229 H locs ls hy0_229 hy1_229 hg0_229 hg1_229 hg2_229 hI hF hP hS hl
    obtain ⟨v_10, ev_10⟩ : ∃ z : Int32, z = fp_229 0 15 := ⟨_, rfl⟩
    have q_11 : (-1) ≤ v_10.toInt ∧ v_10.toInt ≤ 120 := by rw [ev_10]; exact hI 0 15
    have q_12 : (fp_229 0 15).toInt = v_10.toInt := by rw [ev_10]
    obtain ⟨v_13, ev_13⟩ : ∃ z : Int32, z = fp_229 0 13 := ⟨_, rfl⟩
    have q_14 : 0 ≤ v_13.toInt ∧ v_13.toInt ≤ 120 := by rw [ev_13]; exact hI 0 13
    have q_15 : (fp_229 0 13).toInt = v_13.toInt := by rw [ev_13]
    obtain ⟨v_16, ev_16⟩ : ∃ z : Int32, z = fp_229 0 16 := ⟨_, rfl⟩
    have q_17 : 0 ≤ v_16.toInt ∧ v_16.toInt ≤ 6 := by rw [ev_16]; exact hI 0 16
    have q_18 : (fp_229 0 16).toInt = v_16.toInt := by rw [ev_16]
    refine lv_iload hx hb dX12_one_229 (lv_at hl 2 rfl) ?_
    refine lv_if_ne (tgt := 241) hx hb dX12_one_231 (by decide) (fun c => ?_) (fun c => ?_)
    · skip
      have c_19 : y4_229.toInt ≠ 0 := (by have z := bn_ne c; have k1 : (0 : Int32).toInt = 0 := (by decide); omega)
      refine lv_iload_n hx hb dX12_one_241 rfl (lv_at hl 1 rfl) ?_
      have q_21 : (fp_229 0 13).toInt = v_13.toInt := (congrArg Int32.toInt (show fp_229 0 13 = v_13 from ev_13.symm))
      have q_22 : (fp_229 0 16).toInt = v_16.toInt := (congrArg Int32.toInt (show fp_229 0 16 = v_16 from ev_16.symm))
      have q_23 : (fp_229 0 15).toInt = v_10.toInt := (congrArg Int32.toInt (show fp_229 0 15 = v_10 from ev_10.symm))
      have q_24 : (fp_229 0 16).toInt = v_16.toInt := (congrArg Int32.toInt (show fp_229 0 16 = v_16 from ev_16.symm))
      exact hret _ _ _ _ (y3_229) fp_229 L Q dX12_one_242 hP hS ⟨⟨hI, hF, rfl, rfl⟩, trivial, (by omega), (by omega), (by omega)⟩
    · skip
      have c_20 : y4_229.toInt = 0 := (by have z := Int32.toInt_inj.mpr c; have k1 : (0 : Int32).toInt = 0 := (by decide); omega)
      refine lv_aload_n hx hb dX12_one_234 rfl (lv_at hl 0 rfl) ?_
      refine sg_calli (va_runV (As := []) (rest := []) ⟨hx, hb, hml, hown, hts⟩ (kX12_wrong l D ca za h hh fp_229 L Q hI H.size) (cwV 0 hts (gw_V (fun _ h => List.mem_cons_of_mem _ h) mw_889 mw_890 mw_891 mw_619 mw_888) rfl rfl rfl (by decide +kernel) ⟨Nat.le_of_ble_eq_true rfl, Nat.le_of_ble_eq_true rfl⟩) (sg_preV (ci := 12) (C := RX12) (T := TX12) (N := 55) hA hK hP hS hZ 0 (by decide) rfl rfl) rfl rfl hl.1 rfl (lv_room (Nat.le_of_ble_eq_true rfl)) dX12_one_235 ⟨Nat.le_refl _, Nat.le_refl _⟩) hA hS (fun r_28 f_25 L_26 Q_27 H locs hq hP hS => ?_)
      obtain ⟨⟨hI, hk_f_25, eL9, eQ9⟩, hq, p_29⟩ := hq
      rw [eL9, eQ9] at hP; clear eL9 eQ9
      have hF : sgK WkX12_one_0 f f_25 := sgK.tr hF hk_f_25 (by decide)
      obtain ⟨v_30, ev_30⟩ : ∃ z : Int32, z = f_25 0 15 := ⟨_, rfl⟩
      have q_31 : (-1) ≤ v_30.toInt ∧ v_30.toInt ≤ 120 := by rw [ev_30]; exact hI 0 15
      have q_32 : (f_25 0 15).toInt = v_30.toInt := (congrArg Int32.toInt (show f_25 0 15 = v_30 from ev_30.symm))
      obtain rfl : r_28 = 0 := Int32.toInt_inj.mp (by have k9 : (0 : Int32).toInt = 0 := (by decide); omega)
      refine lv_goto (tgt := 242) hx hb dX12_one_238 (by decide) ?_
      have q_33 : (f_25 0 13).toInt = v_13.toInt := (congrArg Int32.toInt (show f_25 0 13 = v_13 from ((hk_f_25 0 13 (by decide)).trans ev_13.symm)))
      have q_34 : (f_25 0 16).toInt = v_16.toInt := (congrArg Int32.toInt (show f_25 0 16 = v_16 from ((hk_f_25 0 16 (by decide)).trans ev_16.symm)))
      have q_35 : (f_25 0 15).toInt = v_30.toInt := (congrArg Int32.toInt (show f_25 0 15 = v_30 from ev_30.symm))
      have q_36 : (f_25 0 16).toInt = v_16.toInt := (congrArg Int32.toInt (show f_25 0 16 = v_16 from ((hk_f_25 0 16 (by decide)).trans ev_16.symm)))
      have k99 : (0 : Int32).toInt = 0 := (by decide)
      exact hret _ _ _ _ (0) f_25 L Q dX12_one_242 hP hS ⟨⟨hI, hF, rfl, rfl⟩, trivial, (by omega), (by omega), (by omega)⟩
  have loop_176 : ∀ (n_176 : Nat) (y3_176 : Int32) (y4_176 : Int32) (fp_176 : sg_F) (H : Heap) (locs : List Loc) (ls : Array Slot), 4 - y4_176.toInt < (n_176 : Int) → (-1) ≤ (fp_176 0 15).toInt ∧ (fp_176 0 15).toInt ≤ (-1) → 0 ≤ y4_176.toInt ∧ y4_176.toInt ≤ 4 → (f 0 13).toInt ≤ (fp_176 0 13).toInt → 0 ≤ (fp_176 0 16).toInt → 0 ≤ (fp_176 0 15).toInt ∨ (fp_176 0 16).toInt = 0 → sgI loM hiM fp_176 → sgK WkX12_one_0 f fp_176 → va_P D vwCl (sgw 26 h (eM ca h) fp_176 L Q) H → va_S (sgA 26 h s.heap.size) s.heap H locs → lv_has ls 5 [(0, .ref (h 0)), (3, .int y3_176), (4, .int y4_176)] → W p l e ({ frames := 37, cells := 0, slots := 0, locals := 842 }) s m ([.ref (h 0)] : List Value).toArray below meth cd H locs 0 0 Qz (F0 m 176 ls []) := by
    intro n_176
    induction n_176 with
    | zero => intro y3_176 y4_176 fp_176 H locs ls hm_176 hy0_176 hy1_176 hg0_176 hg1_176 hg2_176 hI hF hP hS hl; exact absurd hm_176 (by omega)
    | succ n_176 ih_176 =>
      intro y3_176 y4_176 fp_176 H locs ls hm_176 hy0_176 hy1_176 hg0_176 hg1_176 hg2_176 hI hF hP hS hl
      obtain ⟨v_37, ev_37⟩ : ∃ z : Int32, z = fp_176 0 15 := ⟨_, rfl⟩
      have q_38 : (-1) ≤ v_37.toInt ∧ v_37.toInt ≤ 120 := by rw [ev_37]; exact hI 0 15
      have q_39 : (fp_176 0 15).toInt = v_37.toInt := by rw [ev_37]
      obtain ⟨v_40, ev_40⟩ : ∃ z : Int32, z = fp_176 0 13 := ⟨_, rfl⟩
      have q_41 : 0 ≤ v_40.toInt ∧ v_40.toInt ≤ 120 := by rw [ev_40]; exact hI 0 13
      have q_42 : (fp_176 0 13).toInt = v_40.toInt := by rw [ev_40]
      obtain ⟨v_43, ev_43⟩ : ∃ z : Int32, z = fp_176 0 16 := ⟨_, rfl⟩
      have q_44 : 0 ≤ v_43.toInt ∧ v_43.toInt ≤ 6 := by rw [ev_43]; exact hI 0 16
      have q_45 : (fp_176 0 16).toInt = v_43.toInt := by rw [ev_43]
      refine lv_iload hx hb dX12_one_176 (lv_at hl 2 rfl) ?_
      refine lv_iconst (v := 4) hx hb dX12_one_178 (by decide) ?_
      refine lv_icmp_ge (tgt := 229) hx hb dX12_one_179 (by decide) (fun c => ?_) (fun c => ?_)
      · skip
        have c_46 : 4 ≤ y4_176.toInt := (by have z := bn_le c; have k1 : (4 : Int32).toInt = 4 := (by decide); omega)
        exact blk_229 y3_176 y4_176 fp_176 _ _ _ (by have zz0_15 : (fp_176 0 15).toInt = v_37.toInt := (congrArg Int32.toInt (show fp_176 0 15 = v_37 from ev_37.symm)); omega) (by omega) (by have zz0_13 : (fp_176 0 13).toInt = v_40.toInt := (congrArg Int32.toInt (show fp_176 0 13 = v_40 from ev_40.symm)); omega) (by have zz0_16 : (fp_176 0 16).toInt = v_43.toInt := (congrArg Int32.toInt (show fp_176 0 16 = v_43 from ev_43.symm)); omega) (by have zz0_15 : (fp_176 0 15).toInt = v_37.toInt := (congrArg Int32.toInt (show fp_176 0 15 = v_37 from ev_37.symm)); have zz0_16 : (fp_176 0 16).toInt = v_43.toInt := (congrArg Int32.toInt (show fp_176 0 16 = v_43 from ev_43.symm)); omega) hI hF hP hS (lv_sub hl [0, 1, 2] rfl)
      · skip
        have c_47 : y4_176.toInt < 4 := (by have z := bn_nle c; have k1 : (4 : Int32).toInt = 4 := (by decide); omega)
        refine lv_aload_n hx hb dX12_one_182 rfl (lv_at hl 0 rfl) ?_
        have q_48 : (fp_176 0 13).toInt = v_40.toInt := (congrArg Int32.toInt (show fp_176 0 13 = v_40 from ev_40.symm))
        obtain ⟨v_49, ev_49⟩ : ∃ z : Int32, z = fp_176 0 14 := ⟨_, rfl⟩
        have q_50 : 0 ≤ v_49.toInt ∧ v_49.toInt ≤ 120 := by rw [ev_49]; exact hI 0 14
        have q_51 : (fp_176 0 14).toInt = v_49.toInt := (congrArg Int32.toInt (show fp_176 0 14 = v_49 from ev_49.symm))
        refine sg_calli (va_runV (As := []) (rest := []) ⟨hx, hb, hml, hown, hts⟩ (kX12_byteAt l D ca za h hh fp_176 L Q hI H.size) (cwV 0 hts (gw_V (fun _ h => List.mem_cons_of_mem _ h) mw_840 mw_841 mw_842 mw_619 mw_839) rfl rfl rfl (by decide +kernel) ⟨Nat.le_of_ble_eq_true rfl, Nat.le_of_ble_eq_true rfl⟩) (sg_preV (ci := 12) (C := RX12) (T := TX12) (N := 55) hA hK hP hS hZ 0 (by decide) rfl rfl) rfl rfl hl.1 rfl (lv_room (Nat.le_of_ble_eq_true rfl)) dX12_one_183 ⟨Nat.le_refl _, Nat.le_refl _⟩) hA hS (fun r_55 f_52 L_53 Q_54 H locs hq hP hS => ?_)
        obtain ⟨⟨ef9, eL9, eQ9⟩, hq, p_56⟩ := hq
        rw [ef9, eL9, eQ9] at hP; clear ef9 eL9 eQ9
        refine lv_bipush (v := 48) hx hb dX12_one_186 (by decide) ?_
        refine lv_icmp_lt (tgt := 229) hx hb dX12_one_188 (by decide) (fun c => ?_) (fun c => ?_)
        · skip
          have c_57 : r_55.toInt < 48 := (by have z := bn_lt c; have k1 : (48 : Int32).toInt = 48 := (by decide); omega)
          exact blk_229 y3_176 y4_176 fp_176 _ _ _ (by have zz0_15 : (fp_176 0 15).toInt = v_37.toInt := (congrArg Int32.toInt (show fp_176 0 15 = v_37 from ev_37.symm)); omega) (by omega) (by have zz0_13 : (fp_176 0 13).toInt = v_40.toInt := (congrArg Int32.toInt (show fp_176 0 13 = v_40 from ev_40.symm)); omega) (by have zz0_16 : (fp_176 0 16).toInt = v_43.toInt := (congrArg Int32.toInt (show fp_176 0 16 = v_43 from ev_43.symm)); omega) (by have zz0_15 : (fp_176 0 15).toInt = v_37.toInt := (congrArg Int32.toInt (show fp_176 0 15 = v_37 from ev_37.symm)); have zz0_16 : (fp_176 0 16).toInt = v_43.toInt := (congrArg Int32.toInt (show fp_176 0 16 = v_43 from ev_43.symm)); omega) hI hF hP hS (lv_sub hl [0, 1, 2] rfl)
        · skip
          have c_58 : 48 ≤ r_55.toInt := (by have z := bn_nlt c; have k1 : (48 : Int32).toInt = 48 := (by decide); omega)
          refine lv_aload_n hx hb dX12_one_191 rfl (lv_at hl 0 rfl) ?_
          have q_59 : (fp_176 0 13).toInt = v_40.toInt := (congrArg Int32.toInt (show fp_176 0 13 = v_40 from ev_40.symm))
          have q_60 : (fp_176 0 14).toInt = v_49.toInt := (congrArg Int32.toInt (show fp_176 0 14 = v_49 from ev_49.symm))
          refine sg_calli (va_runV (As := []) (rest := []) ⟨hx, hb, hml, hown, hts⟩ (kX12_byteAt l D ca za h hh fp_176 L Q hI H.size) (cwV 0 hts (gw_V (fun _ h => List.mem_cons_of_mem _ h) mw_840 mw_841 mw_842 mw_619 mw_839) rfl rfl rfl (by decide +kernel) ⟨Nat.le_of_ble_eq_true rfl, Nat.le_of_ble_eq_true rfl⟩) (sg_preV (ci := 12) (C := RX12) (T := TX12) (N := 55) hA hK hP hS hZ 0 (by decide) rfl rfl) rfl rfl hl.1 rfl (lv_room (Nat.le_of_ble_eq_true rfl)) dX12_one_192 ⟨Nat.le_refl _, Nat.le_refl _⟩) hA hS (fun r_64 f_61 L_62 Q_63 H locs hq hP hS => ?_)
          obtain ⟨⟨ef9, eL9, eQ9⟩, hq, p_65⟩ := hq
          rw [ef9, eL9, eQ9] at hP; clear ef9 eL9 eQ9
          refine lv_bipush (v := 57) hx hb dX12_one_195 (by decide) ?_
          refine lv_icmp_gt (tgt := 229) hx hb dX12_one_197 (by decide) (fun c => ?_) (fun c => ?_)
          · skip
            have c_66 : 57 < r_64.toInt := (by have z := bn_lt c; have k1 : (57 : Int32).toInt = 57 := (by decide); omega)
            exact blk_229 y3_176 y4_176 fp_176 _ _ _ (by have zz0_15 : (fp_176 0 15).toInt = v_37.toInt := (congrArg Int32.toInt (show fp_176 0 15 = v_37 from ev_37.symm)); omega) (by omega) (by have zz0_13 : (fp_176 0 13).toInt = v_40.toInt := (congrArg Int32.toInt (show fp_176 0 13 = v_40 from ev_40.symm)); omega) (by have zz0_16 : (fp_176 0 16).toInt = v_43.toInt := (congrArg Int32.toInt (show fp_176 0 16 = v_43 from ev_43.symm)); omega) (by have zz0_15 : (fp_176 0 15).toInt = v_37.toInt := (congrArg Int32.toInt (show fp_176 0 15 = v_37 from ev_37.symm)); have zz0_16 : (fp_176 0 16).toInt = v_43.toInt := (congrArg Int32.toInt (show fp_176 0 16 = v_43 from ev_43.symm)); omega) hI hF hP hS (lv_sub hl [0, 1, 2] rfl)
          · skip
            have c_67 : r_64.toInt ≤ 57 := (by have z := bn_nlt c; have k1 : (57 : Int32).toInt = 57 := (by decide); omega)
            refine lv_bipush (v := 10) hx hb dX12_one_200 (by decide) ?_
            refine lv_iload_n hx hb dX12_one_202 rfl (lv_at hl 1 rfl) ?_
            refine lv_imul hx hb dX12_one_203 ?_
            refine lv_topi (fun v_68 ev_68 => ?_)
            refine lv_aload_n hx hb dX12_one_204 rfl (lv_at hl 0 rfl) ?_
            have q_69 : (fp_176 0 13).toInt = v_40.toInt := (congrArg Int32.toInt (show fp_176 0 13 = v_40 from ev_40.symm))
            have q_70 : (fp_176 0 14).toInt = v_49.toInt := (congrArg Int32.toInt (show fp_176 0 14 = v_49 from ev_49.symm))
            refine sg_calli (va_runV (As := []) (rest := [.int v_68]) ⟨hx, hb, hml, hown, hts⟩ (kX12_byteAt l D ca za h hh fp_176 L Q hI H.size) (cwV 0 hts (gw_V (fun _ h => List.mem_cons_of_mem _ h) mw_840 mw_841 mw_842 mw_619 mw_839) rfl rfl rfl (by decide +kernel) ⟨Nat.le_of_ble_eq_true rfl, Nat.le_of_ble_eq_true rfl⟩) (sg_preV (ci := 12) (C := RX12) (T := TX12) (N := 55) hA hK hP hS hZ 0 (by decide) rfl rfl) rfl rfl hl.1 rfl (lv_room (Nat.le_of_ble_eq_true rfl)) dX12_one_205 ⟨Nat.le_refl _, Nat.le_refl _⟩) hA hS (fun r_74 f_71 L_72 Q_73 H locs hq hP hS => ?_)
            obtain ⟨⟨ef9, eL9, eQ9⟩, hq, p_75⟩ := hq
            rw [ef9, eL9, eQ9] at hP; clear ef9 eL9 eQ9
            refine lv_iadd hx hb dX12_one_208 ?_
            refine lv_topi (fun v_76 ev_76 => ?_)
            refine lv_bipush (v := 48) hx hb dX12_one_209 (by decide) ?_
            refine lv_isub hx hb dX12_one_211 ?_
            refine lv_topi (fun v_77 ev_77 => ?_)
            refine lv_istore_n (lv' := [(3, .int v_77), (0, .ref (h 0)), (4, .int y4_176)]) hx hb dX12_one_212 rfl hl (by decide) rfl (fun ls hl => ?_)
            obtain ⟨v_78, ev_78⟩ : ∃ z : Int32, z = y4_176 + 1 := ⟨_, rfl⟩
            have q_79 : v_78.toInt = y4_176.toInt + 1 := by rw [ev_78]; exact (bn_addc y4_176 1 (by decide) (by omega) (by omega))
            refine lv_iinc (v := v_78) (lv' := [(4, .int v_78), (3, .int v_77), (0, .ref (h 0))]) hx hb dX12_one_213 hl (k := 2) rfl (by rw [ev_78]; rfl) (by decide) rfl (fun ls hl => ?_)
            refine lv_aload_n hx hb dX12_one_216 rfl (lv_at hl 2 rfl) ?_
            refine lv_dup hx hb dX12_one_217 rfl ?_
            refine sg_get (ci := 12) (v := .int v_40) (C := RX12) (T := TX12) (N := 55) hx hb hts (fun w h => List.mem_cons_of_mem _ (gx_12 w h)) hown hK hP 0 (by decide) rfl rfl 13 (by decide) (hts _ (List.mem_cons_of_mem _ mw_625)) (fun _ h9 => h9) (congrArg (fun z => some (Value.int z)) (show fp_176 0 13 = v_40 from ev_40.symm)) dX12_one_218 ?_
            refine lv_iconst (v := 1) hx hb dX12_one_221 (by decide) ?_
            refine lv_iadd hx hb dX12_one_222 ?_
            refine lv_topi (fun v_80 ev_80 => ?_)
            have q_81 : v_80.toInt = v_40.toInt + 1 := by rw [ev_80]; have k1 : (1 : Int32).toInt = 1 := (by decide); exact (bn_addI (by omega) (by omega)).trans (by omega)
            refine sg_put (ci := 12) (x := v_80) (ty := .int) (C := RX12) (T := TX12) (N := 55) hx hb hts (fun w h => List.mem_cons_of_mem _ (gx_12 w h)) tyX12 tyX12_ok nmX12 hown hh hA hK hP hS 0 (by decide) rfl rfl 13 (by decide) (hts _ (List.mem_cons_of_mem _ mw_625)) (fun _ h9 => h9) rfl rfl (by decide +kernel) rfl rfl (Nat.le_of_ble_eq_true rfl) dX12_one_223 (fun f_82 H locs ef_82 hP hS => ?_)
            have hI : sgI loM hiM f_82 := by rw [ef_82]; exact sgI.put hI 0 13 (show 0 ≤ (v_80 : Int32).toInt ∧ (v_80 : Int32).toInt ≤ 120 from by omega)
            have hF : sgK WkX12_one_0 f f_82 := sgK.put hF ef_82 (by rfl)
            refine lv_goto (tgt := 176) hx hb dX12_one_226 (by decide) ?_
            exact ih_176 v_77 v_78 f_82 _ _ _ (by omega) (by have zz0_15 : (f_82 0 15).toInt = v_37.toInt := (congrArg Int32.toInt (show f_82 0 15 = v_37 from (by rw [ef_82, sg_up_s, sgu_n (by decide)]; exact ev_37.symm))); omega) (by omega) (by have zz0_13 : (f_82 0 13).toInt = v_80.toInt := (congrArg Int32.toInt (show f_82 0 13 = v_80 from (by rw [ef_82, sg_up_s, sgu_s]))); omega) (by have zz0_16 : (f_82 0 16).toInt = v_43.toInt := (congrArg Int32.toInt (show f_82 0 16 = v_43 from (by rw [ef_82, sg_up_s, sgu_n (by decide)]; exact ev_43.symm))); omega) (by have zz0_15 : (f_82 0 15).toInt = v_37.toInt := (congrArg Int32.toInt (show f_82 0 15 = v_37 from (by rw [ef_82, sg_up_s, sgu_n (by decide)]; exact ev_37.symm))); have zz0_16 : (f_82 0 16).toInt = v_43.toInt := (congrArg Int32.toInt (show f_82 0 16 = v_43 from (by rw [ef_82, sg_up_s, sgu_n (by decide)]; exact ev_43.symm))); omega) hI hF hP hS (lv_sub hl [2, 1, 0] rfl)
  refine lv_aload_n hx hb dX12_one_0 rfl (lv_at hl 0 rfl) ?_
  refine sg_get (ci := 12) (v := .int v_3) (C := RX12) (T := TX12) (N := 55) hx hb hts (fun w h => List.mem_cons_of_mem _ (gx_12 w h)) hown hK hP 0 (by decide) rfl rfl 15 (by decide) (hts _ (List.mem_cons_of_mem _ mw_627)) (fun _ h9 => h9) (congrArg (fun z => some (Value.int z)) (show f 0 15 = v_3 from ev_3.symm)) dX12_one_1 ?_
  refine lv_if_lt (tgt := 9) hx hb dX12_one_4 (by decide) (fun c => ?_) (fun c => ?_)
  · skip
    have c_83 : v_3.toInt < 0 := (by have z := bn_lt c; have k1 : (0 : Int32).toInt = 0 := (by decide); omega)
    refine lv_aload_n hx hb dX12_one_9 rfl (lv_at hl 0 rfl) ?_
    have q_85 : (f 0 13).toInt = v_5.toInt := (congrArg Int32.toInt (show f 0 13 = v_5 from ev_5.symm))
    obtain ⟨v_86, ev_86⟩ : ∃ z : Int32, z = f 0 14 := ⟨_, rfl⟩
    have q_87 : 0 ≤ v_86.toInt ∧ v_86.toInt ≤ 120 := by rw [ev_86]; exact hI 0 14
    have q_88 : (f 0 14).toInt = v_86.toInt := (congrArg Int32.toInt (show f 0 14 = v_86 from ev_86.symm))
    refine sg_calli (va_runV (As := []) (rest := []) ⟨hx, hb, hml, hown, hts⟩ (kX12_byteAt l D ca za h hh f L Q hI H.size) (cwV 0 hts (gw_V (fun _ h => List.mem_cons_of_mem _ h) mw_840 mw_841 mw_842 mw_619 mw_839) rfl rfl rfl (by decide +kernel) ⟨Nat.le_of_ble_eq_true rfl, Nat.le_of_ble_eq_true rfl⟩) (sg_preV (ci := 12) (C := RX12) (T := TX12) (N := 55) hA hK hP hS hZ 0 (by decide) rfl rfl) rfl rfl hl.1 rfl (lv_room (Nat.le_of_ble_eq_true rfl)) dX12_one_10 ⟨Nat.le_refl _, Nat.le_refl _⟩) hA hS (fun r_92 f_89 L_90 Q_91 H locs hq hP hS => ?_)
    obtain ⟨⟨ef9, eL9, eQ9⟩, hq, p_93⟩ := hq
    rw [ef9, eL9, eQ9] at hP; clear ef9 eL9 eQ9
    refine lv_istore_n (lv' := [(1, .int r_92), (0, .ref (h 0))]) hx hb dX12_one_13 rfl hl (by decide) rfl (fun ls hl => ?_)
    refine lv_iload_n hx hb dX12_one_14 rfl (lv_at hl 0 rfl) ?_
    refine lv_bipush (v := 33) hx hb dX12_one_15 (by decide) ?_
    refine lv_icmp_eq (tgt := 32) hx hb dX12_one_17 (by decide) (fun c => ?_) (fun c => ?_)
    · skip
      have c_94 : r_92.toInt = 33 := (by have z := Int32.toInt_inj.mpr c; have k1 : (33 : Int32).toInt = 33 := (by decide); omega)
      refine lv_aload_n hx hb dX12_one_32 rfl (lv_at hl 1 rfl) ?_
      have c_96 : v_1 = 0 := Int32.toInt_inj.mp (by have k9 : (0 : Int32).toInt = 0 := (by decide); omega)
      refine sg_get (ci := 12) (v := .int 0) (C := RX12) (T := TX12) (N := 55) hx hb hts (fun w h => List.mem_cons_of_mem _ (gx_12 w h)) hown hK hP 0 (by decide) rfl rfl 16 (by decide) (hts _ (List.mem_cons_of_mem _ mw_628)) (fun _ h9 => h9) (congrArg (fun z => some (Value.int z)) (show f 0 16 = 0 from (Eq.trans ev_1.symm c_96))) dX12_one_33 ?_
      refine lv_bipush (v := 6) hx hb dX12_one_36 (by decide) ?_
      refine lv_icmp_ne (tgt := 46) hx hb dX12_one_38 (by decide) (fun c => ?_) (fun c => absurd c (by decide))
      refine lv_aload_n hx hb dX12_one_46 rfl (lv_at hl 1 rfl) ?_
      refine lv_dup hx hb dX12_one_47 rfl ?_
      refine sg_get (ci := 12) (v := .int 0) (C := RX12) (T := TX12) (N := 55) hx hb hts (fun w h => List.mem_cons_of_mem _ (gx_12 w h)) hown hK hP 0 (by decide) rfl rfl 16 (by decide) (hts _ (List.mem_cons_of_mem _ mw_628)) (fun _ h9 => h9) (congrArg (fun z => some (Value.int z)) (show f 0 16 = 0 from (Eq.trans ev_1.symm c_96))) dX12_one_48 ?_
      refine lv_iconst (v := 1) hx hb dX12_one_51 (by decide) ?_
      refine lv_iadd hx hb dX12_one_52 ?_
      refine W.eq (g2 := F0 m 53 ls [.int 1, .ref (h 0)]) (by rw [show (0 + 1 : Int32) = 1 from by decide]) ?_
      refine sg_put (ci := 12) (x := 1) (ty := .int) (C := RX12) (T := TX12) (N := 55) hx hb hts (fun w h => List.mem_cons_of_mem _ (gx_12 w h)) tyX12 tyX12_ok nmX12 hown hh hA hK hP hS 0 (by decide) rfl rfl 16 (by decide) (hts _ (List.mem_cons_of_mem _ mw_628)) (fun _ h9 => h9) rfl rfl (by decide +kernel) rfl rfl (Nat.le_of_ble_eq_true rfl) dX12_one_53 (fun f_97 H locs ef_97 hP hS => ?_)
      have hI : sgI loM hiM f_97 := by rw [ef_97]; exact sgI.put hI 0 16 (show 0 ≤ (1 : Int32).toInt ∧ (1 : Int32).toInt ≤ 6 from by decide)
      have hF : sgK WkX12_one_0 f f_97 := sgK.put hF ef_97 (by rfl)
      refine lv_aload_n hx hb dX12_one_56 rfl (lv_at hl 1 rfl) ?_
      refine lv_dup hx hb dX12_one_57 rfl ?_
      refine sg_get (ci := 12) (v := .int v_5) (C := RX12) (T := TX12) (N := 55) hx hb hts (fun w h => List.mem_cons_of_mem _ (gx_12 w h)) hown hK hP 0 (by decide) rfl rfl 13 (by decide) (hts _ (List.mem_cons_of_mem _ mw_625)) (fun _ h9 => h9) (congrArg (fun z => some (Value.int z)) (show f_97 0 13 = v_5 from (by rw [ef_97, sg_up_s, sgu_n (by decide)]; exact ev_5.symm))) dX12_one_58 ?_
      refine lv_iconst (v := 1) hx hb dX12_one_61 (by decide) ?_
      refine lv_iadd hx hb dX12_one_62 ?_
      refine lv_topi (fun v_98 ev_98 => ?_)
      have q_99 : v_98.toInt = v_5.toInt + 1 := by rw [ev_98]; have k1 : (1 : Int32).toInt = 1 := (by decide); exact (bn_addI (by omega) (by omega)).trans (by omega)
      refine sg_put (ci := 12) (x := v_98) (ty := .int) (C := RX12) (T := TX12) (N := 55) hx hb hts (fun w h => List.mem_cons_of_mem _ (gx_12 w h)) tyX12 tyX12_ok nmX12 hown hh hA hK hP hS 0 (by decide) rfl rfl 13 (by decide) (hts _ (List.mem_cons_of_mem _ mw_625)) (fun _ h9 => h9) rfl rfl (by decide +kernel) rfl rfl (Nat.le_of_ble_eq_true rfl) dX12_one_63 (fun f_100 H locs ef_100 hP hS => ?_)
      have hI : sgI loM hiM f_100 := by rw [ef_100]; exact sgI.put hI 0 13 (show 0 ≤ (v_98 : Int32).toInt ∧ (v_98 : Int32).toInt ≤ 120 from by omega)
      have hF : sgK WkX12_one_0 f f_100 := sgK.put hF ef_100 (by rfl)
      refine lv_iload_n hx hb dX12_one_66 rfl (lv_at hl 0 rfl) ?_
      refine lv_bipush (v := 40) hx hb dX12_one_67 (by decide) ?_
      refine lv_icmp_ne (tgt := 79) hx hb dX12_one_69 (by decide) (fun c => ?_) (fun c => ?_)
      · skip
        have c_101 : r_92.toInt ≠ 40 := (by have z := bn_ne c; have k1 : (40 : Int32).toInt = 40 := (by decide); omega)
        refine lv_aload_n hx hb dX12_one_79 rfl (lv_at hl 1 rfl) ?_
        have q_103 : (f_100 0 16).toInt = 1 := (congrArg Int32.toInt (show f_100 0 16 = 1 from (by rw [ef_100, sg_up_s, sgu_n (by decide)]; exact (by rw [ef_97, sg_up_s, sgu_s])))).trans (by decide)
        have q_104 : (f_100 0 15).toInt = v_3.toInt := (congrArg Int32.toInt (show f_100 0 15 = v_3 from (by rw [ef_100, sg_up_s, sgu_n (by decide)]; exact (by rw [ef_97, sg_up_s, sgu_n (by decide)]; exact ev_3.symm))))
        have q_105 : (f_100 0 16).toInt = 1 := (congrArg Int32.toInt (show f_100 0 16 = 1 from (by rw [ef_100, sg_up_s, sgu_n (by decide)]; exact (by rw [ef_97, sg_up_s, sgu_s])))).trans (by decide)
        have q_106 : (f_100 0 13).toInt = v_98.toInt := (congrArg Int32.toInt (show f_100 0 13 = v_98 from (by rw [ef_100, sg_up_s, sgu_s])))
        refine sg_calli (va_runV (As := []) (rest := []) ⟨hx, hb, hml, hown, hts⟩ (kX12_one_1 l D ca za h hh f_100 L Q hI (by omega) (by omega) H.size) (cwV 0 hts (gw_V (fun _ h => List.mem_cons_of_mem _ h) mw_789 mw_790 mw_791 mw_619 mw_788) rfl rfl rfl (by decide +kernel) ⟨Nat.le_of_ble_eq_true rfl, Nat.le_of_ble_eq_true rfl⟩) (sg_preV (ci := 12) (C := RX12) (T := TX12) (N := 55) hA hK hP hS hZ 0 (by decide) rfl rfl) rfl rfl hl.1 rfl (lv_room (Nat.le_of_ble_eq_true rfl)) dX12_one_80 ⟨Nat.le_refl _, Nat.le_refl _⟩) hA hS (fun r_110 f_107 L_108 Q_109 H locs hq hP hS => ?_)
        obtain ⟨⟨hI, hk_f_107, eL9, eQ9⟩, hq, p_111, p_112, p_113⟩ := hq
        rw [eL9, eQ9] at hP; clear eL9 eQ9
        have hF : sgK WkX12_one_0 f f_107 := sgK.tr hF hk_f_107 (by decide)
        obtain ⟨v_114, ev_114⟩ : ∃ z : Int32, z = f_107 0 13 := ⟨_, rfl⟩
        have q_115 : 0 ≤ v_114.toInt ∧ v_114.toInt ≤ 120 := by rw [ev_114]; exact hI 0 13
        have q_116 : (f_107 0 13).toInt = v_114.toInt := (congrArg Int32.toInt (show f_107 0 13 = v_114 from ev_114.symm))
        obtain ⟨v_117, ev_117⟩ : ∃ z : Int32, z = f_107 0 16 := ⟨_, rfl⟩
        have q_118 : 0 ≤ v_117.toInt ∧ v_117.toInt ≤ 6 := by rw [ev_117]; exact hI 0 16
        have q_119 : (f_107 0 16).toInt = v_117.toInt := (congrArg Int32.toInt (show f_107 0 16 = v_117 from ev_117.symm))
        obtain ⟨v_120, ev_120⟩ : ∃ z : Int32, z = f_107 0 15 := ⟨_, rfl⟩
        have q_121 : (-1) ≤ v_120.toInt ∧ v_120.toInt ≤ 120 := by rw [ev_120]; exact hI 0 15
        have q_122 : (f_107 0 15).toInt = v_120.toInt := (congrArg Int32.toInt (show f_107 0 15 = v_120 from ev_120.symm))
        have q_123 : (f_107 0 16).toInt = v_117.toInt := (congrArg Int32.toInt (show f_107 0 16 = v_117 from ev_117.symm))
        refine lv_istore_n (lv' := [(2, .int r_110), (1, .int r_92), (0, .ref (h 0))]) hx hb dX12_one_83 rfl hl (by decide) rfl (fun ls hl => ?_)
        refine lv_iload_n hx hb dX12_one_84 rfl (lv_at hl 1 rfl) ?_
        refine lv_bipush (v := 40) hx hb dX12_one_85 (by decide) ?_
        refine lv_icmp_ne (tgt := 104) hx hb dX12_one_87 (by decide) (fun c => ?_) (fun c => ?_)
        · skip
          have c_124 : r_92.toInt ≠ 40 := (by have z := bn_ne c; have k1 : (40 : Int32).toInt = 40 := (by decide); omega)
          refine lv_aload_n hx hb dX12_one_104 rfl (lv_at hl 2 rfl) ?_
          refine lv_dup hx hb dX12_one_105 rfl ?_
          refine sg_get (ci := 12) (v := .int v_117) (C := RX12) (T := TX12) (N := 55) hx hb hts (fun w h => List.mem_cons_of_mem _ (gx_12 w h)) hown hK hP 0 (by decide) rfl rfl 16 (by decide) (hts _ (List.mem_cons_of_mem _ mw_628)) (fun _ h9 => h9) (congrArg (fun z => some (Value.int z)) (show f_107 0 16 = v_117 from ev_117.symm)) dX12_one_106 ?_
          refine lv_iconst (v := 1) hx hb dX12_one_109 (by decide) ?_
          refine lv_isub hx hb dX12_one_110 ?_
          refine lv_topi (fun v_126 ev_126 => ?_)
          have q_127 : v_126.toInt = v_117.toInt - 1 := by rw [ev_126]; have k1 : (1 : Int32).toInt = 1 := (by decide); exact (bn_subI (by omega) (by omega)).trans (by omega)
          refine sg_put (ci := 12) (x := v_126) (ty := .int) (C := RX12) (T := TX12) (N := 55) hx hb hts (fun w h => List.mem_cons_of_mem _ (gx_12 w h)) tyX12 tyX12_ok nmX12 hown hh hA hK hP hS 0 (by decide) rfl rfl 16 (by decide) (hts _ (List.mem_cons_of_mem _ mw_628)) (fun _ h9 => h9) rfl rfl (by decide +kernel) rfl rfl (Nat.le_of_ble_eq_true rfl) dX12_one_111 (fun f_128 H locs ef_128 hP hS => ?_)
          have hI : sgI loM hiM f_128 := by rw [ef_128]; exact sgI.put hI 0 16 (show 0 ≤ (v_126 : Int32).toInt ∧ (v_126 : Int32).toInt ≤ 6 from by omega)
          have hF : sgK WkX12_one_0 f f_128 := sgK.put hF ef_128 (by rfl)
          refine lv_iload_n hx hb dX12_one_114 rfl (lv_at hl 1 rfl) ?_
          refine lv_bipush (v := 40) hx hb dX12_one_115 (by decide) ?_
          refine lv_icmp_ne (tgt := 124) hx hb dX12_one_117 (by decide) (fun c => ?_) (fun c => ?_)
          · skip
            have c_129 : r_92.toInt ≠ 40 := (by have z := bn_ne c; have k1 : (40 : Int32).toInt = 40 := (by decide); omega)
            refine lv_iload_n hx hb dX12_one_124 rfl (lv_at hl 1 rfl) ?_
            refine lv_bipush (v := 45) hx hb dX12_one_125 (by decide) ?_
            refine lv_icmp_ne (tgt := 135) hx hb dX12_one_127 (by decide) (fun c => ?_) (fun c => ?_)
            · skip
              have c_131 : r_92.toInt ≠ 45 := (by have z := bn_ne c; have k1 : (45 : Int32).toInt = 45 := (by decide); omega)
              refine lv_iload_n hx hb dX12_one_135 rfl (lv_at hl 0 rfl) ?_
              refine lv_if_ne (tgt := 143) hx hb dX12_one_136 (by decide) (fun c => ?_) (fun c => ?_)
              · skip
                have c_133 : r_110.toInt ≠ 0 := (by have z := bn_ne c; have k1 : (0 : Int32).toInt = 0 := (by decide); omega)
                refine lv_iconst (v := 0) hx hb dX12_one_143 (by decide) ?_
                have q_135 : (f_128 0 13).toInt = v_114.toInt := (congrArg Int32.toInt (show f_128 0 13 = v_114 from (by rw [ef_128, sg_up_s, sgu_n (by decide)]; exact ev_114.symm)))
                have q_136 : (f_128 0 16).toInt = v_126.toInt := (congrArg Int32.toInt (show f_128 0 16 = v_126 from (by rw [ef_128, sg_up_s, sgu_s])))
                have q_137 : (f_128 0 15).toInt = v_120.toInt := (congrArg Int32.toInt (show f_128 0 15 = v_120 from (by rw [ef_128, sg_up_s, sgu_n (by decide)]; exact ev_120.symm)))
                have q_138 : (f_128 0 16).toInt = v_126.toInt := (congrArg Int32.toInt (show f_128 0 16 = v_126 from (by rw [ef_128, sg_up_s, sgu_s])))
                have k99 : (0 : Int32).toInt = 0 := (by decide)
                exact hret _ _ _ _ (0) f_128 L Q dX12_one_144 hP hS ⟨⟨hI, hF, rfl, rfl⟩, trivial, (by omega), (by omega), (by omega)⟩
              · skip
                have c_134 : r_110.toInt = 0 := (by have z := Int32.toInt_inj.mpr c; have k1 : (0 : Int32).toInt = 0 := (by decide); omega)
                refine lv_iconst (v := 1) hx hb dX12_one_139 (by decide) ?_
                refine lv_goto (tgt := 144) hx hb dX12_one_140 (by decide) ?_
                have q_139 : (f_128 0 13).toInt = v_114.toInt := (congrArg Int32.toInt (show f_128 0 13 = v_114 from (by rw [ef_128, sg_up_s, sgu_n (by decide)]; exact ev_114.symm)))
                have q_140 : (f_128 0 16).toInt = v_126.toInt := (congrArg Int32.toInt (show f_128 0 16 = v_126 from (by rw [ef_128, sg_up_s, sgu_s])))
                have q_141 : (f_128 0 15).toInt = v_120.toInt := (congrArg Int32.toInt (show f_128 0 15 = v_120 from (by rw [ef_128, sg_up_s, sgu_n (by decide)]; exact ev_120.symm)))
                have q_142 : (f_128 0 16).toInt = v_126.toInt := (congrArg Int32.toInt (show f_128 0 16 = v_126 from (by rw [ef_128, sg_up_s, sgu_s])))
                have k99 : (1 : Int32).toInt = 1 := (by decide)
                exact hret _ _ _ _ (1) f_128 L Q dX12_one_144 hP hS ⟨⟨hI, hF, rfl, rfl⟩, trivial, (by omega), (by omega), (by omega)⟩
            · skip
              exfalso; have c_132 : r_92.toInt = 45 := (by have z := Int32.toInt_inj.mpr c; have k1 : (45 : Int32).toInt = 45 := (by decide); omega); omega
          · skip
            exfalso; have c_130 : r_92.toInt = 40 := (by have z := Int32.toInt_inj.mpr c; have k1 : (40 : Int32).toInt = 40 := (by decide); omega); omega
        · skip
          exfalso; have c_125 : r_92.toInt = 40 := (by have z := Int32.toInt_inj.mpr c; have k1 : (40 : Int32).toInt = 40 := (by decide); omega); omega
      · skip
        exfalso; have c_102 : r_92.toInt = 40 := (by have z := Int32.toInt_inj.mpr c; have k1 : (40 : Int32).toInt = 40 := (by decide); omega); omega
    · skip
      have c_95 : r_92.toInt ≠ 33 := (by have z := bn_ne c; have k1 : (33 : Int32).toInt = 33 := (by decide); omega)
      refine lv_iload_n hx hb dX12_one_20 rfl (lv_at hl 0 rfl) ?_
      refine lv_bipush (v := 45) hx hb dX12_one_21 (by decide) ?_
      refine lv_icmp_eq (tgt := 32) hx hb dX12_one_23 (by decide) (fun c => ?_) (fun c => ?_)
      · skip
        have c_143 : r_92.toInt = 45 := (by have z := Int32.toInt_inj.mpr c; have k1 : (45 : Int32).toInt = 45 := (by decide); omega)
        refine lv_aload_n hx hb dX12_one_32 rfl (lv_at hl 1 rfl) ?_
        have c_145 : v_1 = 0 := Int32.toInt_inj.mp (by have k9 : (0 : Int32).toInt = 0 := (by decide); omega)
        refine sg_get (ci := 12) (v := .int 0) (C := RX12) (T := TX12) (N := 55) hx hb hts (fun w h => List.mem_cons_of_mem _ (gx_12 w h)) hown hK hP 0 (by decide) rfl rfl 16 (by decide) (hts _ (List.mem_cons_of_mem _ mw_628)) (fun _ h9 => h9) (congrArg (fun z => some (Value.int z)) (show f 0 16 = 0 from (Eq.trans ev_1.symm c_145))) dX12_one_33 ?_
        refine lv_bipush (v := 6) hx hb dX12_one_36 (by decide) ?_
        refine lv_icmp_ne (tgt := 46) hx hb dX12_one_38 (by decide) (fun c => ?_) (fun c => absurd c (by decide))
        refine lv_aload_n hx hb dX12_one_46 rfl (lv_at hl 1 rfl) ?_
        refine lv_dup hx hb dX12_one_47 rfl ?_
        refine sg_get (ci := 12) (v := .int 0) (C := RX12) (T := TX12) (N := 55) hx hb hts (fun w h => List.mem_cons_of_mem _ (gx_12 w h)) hown hK hP 0 (by decide) rfl rfl 16 (by decide) (hts _ (List.mem_cons_of_mem _ mw_628)) (fun _ h9 => h9) (congrArg (fun z => some (Value.int z)) (show f 0 16 = 0 from (Eq.trans ev_1.symm c_145))) dX12_one_48 ?_
        refine lv_iconst (v := 1) hx hb dX12_one_51 (by decide) ?_
        refine lv_iadd hx hb dX12_one_52 ?_
        refine W.eq (g2 := F0 m 53 ls [.int 1, .ref (h 0)]) (by rw [show (0 + 1 : Int32) = 1 from by decide]) ?_
        refine sg_put (ci := 12) (x := 1) (ty := .int) (C := RX12) (T := TX12) (N := 55) hx hb hts (fun w h => List.mem_cons_of_mem _ (gx_12 w h)) tyX12 tyX12_ok nmX12 hown hh hA hK hP hS 0 (by decide) rfl rfl 16 (by decide) (hts _ (List.mem_cons_of_mem _ mw_628)) (fun _ h9 => h9) rfl rfl (by decide +kernel) rfl rfl (Nat.le_of_ble_eq_true rfl) dX12_one_53 (fun f_146 H locs ef_146 hP hS => ?_)
        have hI : sgI loM hiM f_146 := by rw [ef_146]; exact sgI.put hI 0 16 (show 0 ≤ (1 : Int32).toInt ∧ (1 : Int32).toInt ≤ 6 from by decide)
        have hF : sgK WkX12_one_0 f f_146 := sgK.put hF ef_146 (by rfl)
        refine lv_aload_n hx hb dX12_one_56 rfl (lv_at hl 1 rfl) ?_
        refine lv_dup hx hb dX12_one_57 rfl ?_
        refine sg_get (ci := 12) (v := .int v_5) (C := RX12) (T := TX12) (N := 55) hx hb hts (fun w h => List.mem_cons_of_mem _ (gx_12 w h)) hown hK hP 0 (by decide) rfl rfl 13 (by decide) (hts _ (List.mem_cons_of_mem _ mw_625)) (fun _ h9 => h9) (congrArg (fun z => some (Value.int z)) (show f_146 0 13 = v_5 from (by rw [ef_146, sg_up_s, sgu_n (by decide)]; exact ev_5.symm))) dX12_one_58 ?_
        refine lv_iconst (v := 1) hx hb dX12_one_61 (by decide) ?_
        refine lv_iadd hx hb dX12_one_62 ?_
        refine lv_topi (fun v_147 ev_147 => ?_)
        have q_148 : v_147.toInt = v_5.toInt + 1 := by rw [ev_147]; have k1 : (1 : Int32).toInt = 1 := (by decide); exact (bn_addI (by omega) (by omega)).trans (by omega)
        refine sg_put (ci := 12) (x := v_147) (ty := .int) (C := RX12) (T := TX12) (N := 55) hx hb hts (fun w h => List.mem_cons_of_mem _ (gx_12 w h)) tyX12 tyX12_ok nmX12 hown hh hA hK hP hS 0 (by decide) rfl rfl 13 (by decide) (hts _ (List.mem_cons_of_mem _ mw_625)) (fun _ h9 => h9) rfl rfl (by decide +kernel) rfl rfl (Nat.le_of_ble_eq_true rfl) dX12_one_63 (fun f_149 H locs ef_149 hP hS => ?_)
        have hI : sgI loM hiM f_149 := by rw [ef_149]; exact sgI.put hI 0 13 (show 0 ≤ (v_147 : Int32).toInt ∧ (v_147 : Int32).toInt ≤ 120 from by omega)
        have hF : sgK WkX12_one_0 f f_149 := sgK.put hF ef_149 (by rfl)
        refine lv_iload_n hx hb dX12_one_66 rfl (lv_at hl 0 rfl) ?_
        refine lv_bipush (v := 40) hx hb dX12_one_67 (by decide) ?_
        refine lv_icmp_ne (tgt := 79) hx hb dX12_one_69 (by decide) (fun c => ?_) (fun c => ?_)
        · skip
          have c_150 : r_92.toInt ≠ 40 := (by have z := bn_ne c; have k1 : (40 : Int32).toInt = 40 := (by decide); omega)
          refine lv_aload_n hx hb dX12_one_79 rfl (lv_at hl 1 rfl) ?_
          have q_152 : (f_149 0 16).toInt = 1 := (congrArg Int32.toInt (show f_149 0 16 = 1 from (by rw [ef_149, sg_up_s, sgu_n (by decide)]; exact (by rw [ef_146, sg_up_s, sgu_s])))).trans (by decide)
          have q_153 : (f_149 0 15).toInt = v_3.toInt := (congrArg Int32.toInt (show f_149 0 15 = v_3 from (by rw [ef_149, sg_up_s, sgu_n (by decide)]; exact (by rw [ef_146, sg_up_s, sgu_n (by decide)]; exact ev_3.symm))))
          have q_154 : (f_149 0 16).toInt = 1 := (congrArg Int32.toInt (show f_149 0 16 = 1 from (by rw [ef_149, sg_up_s, sgu_n (by decide)]; exact (by rw [ef_146, sg_up_s, sgu_s])))).trans (by decide)
          have q_155 : (f_149 0 13).toInt = v_147.toInt := (congrArg Int32.toInt (show f_149 0 13 = v_147 from (by rw [ef_149, sg_up_s, sgu_s])))
          refine sg_calli (va_runV (As := []) (rest := []) ⟨hx, hb, hml, hown, hts⟩ (kX12_one_1 l D ca za h hh f_149 L Q hI (by omega) (by omega) H.size) (cwV 0 hts (gw_V (fun _ h => List.mem_cons_of_mem _ h) mw_789 mw_790 mw_791 mw_619 mw_788) rfl rfl rfl (by decide +kernel) ⟨Nat.le_of_ble_eq_true rfl, Nat.le_of_ble_eq_true rfl⟩) (sg_preV (ci := 12) (C := RX12) (T := TX12) (N := 55) hA hK hP hS hZ 0 (by decide) rfl rfl) rfl rfl hl.1 rfl (lv_room (Nat.le_of_ble_eq_true rfl)) dX12_one_80 ⟨Nat.le_refl _, Nat.le_refl _⟩) hA hS (fun r_159 f_156 L_157 Q_158 H locs hq hP hS => ?_)
          obtain ⟨⟨hI, hk_f_156, eL9, eQ9⟩, hq, p_160, p_161, p_162⟩ := hq
          rw [eL9, eQ9] at hP; clear eL9 eQ9
          have hF : sgK WkX12_one_0 f f_156 := sgK.tr hF hk_f_156 (by decide)
          obtain ⟨v_163, ev_163⟩ : ∃ z : Int32, z = f_156 0 13 := ⟨_, rfl⟩
          have q_164 : 0 ≤ v_163.toInt ∧ v_163.toInt ≤ 120 := by rw [ev_163]; exact hI 0 13
          have q_165 : (f_156 0 13).toInt = v_163.toInt := (congrArg Int32.toInt (show f_156 0 13 = v_163 from ev_163.symm))
          obtain ⟨v_166, ev_166⟩ : ∃ z : Int32, z = f_156 0 16 := ⟨_, rfl⟩
          have q_167 : 0 ≤ v_166.toInt ∧ v_166.toInt ≤ 6 := by rw [ev_166]; exact hI 0 16
          have q_168 : (f_156 0 16).toInt = v_166.toInt := (congrArg Int32.toInt (show f_156 0 16 = v_166 from ev_166.symm))
          obtain ⟨v_169, ev_169⟩ : ∃ z : Int32, z = f_156 0 15 := ⟨_, rfl⟩
          have q_170 : (-1) ≤ v_169.toInt ∧ v_169.toInt ≤ 120 := by rw [ev_169]; exact hI 0 15
          have q_171 : (f_156 0 15).toInt = v_169.toInt := (congrArg Int32.toInt (show f_156 0 15 = v_169 from ev_169.symm))
          have q_172 : (f_156 0 16).toInt = v_166.toInt := (congrArg Int32.toInt (show f_156 0 16 = v_166 from ev_166.symm))
          refine lv_istore_n (lv' := [(2, .int r_159), (1, .int r_92), (0, .ref (h 0))]) hx hb dX12_one_83 rfl hl (by decide) rfl (fun ls hl => ?_)
          refine lv_iload_n hx hb dX12_one_84 rfl (lv_at hl 1 rfl) ?_
          refine lv_bipush (v := 40) hx hb dX12_one_85 (by decide) ?_
          refine lv_icmp_ne (tgt := 104) hx hb dX12_one_87 (by decide) (fun c => ?_) (fun c => ?_)
          · skip
            have c_173 : r_92.toInt ≠ 40 := (by have z := bn_ne c; have k1 : (40 : Int32).toInt = 40 := (by decide); omega)
            refine lv_aload_n hx hb dX12_one_104 rfl (lv_at hl 2 rfl) ?_
            refine lv_dup hx hb dX12_one_105 rfl ?_
            refine sg_get (ci := 12) (v := .int v_166) (C := RX12) (T := TX12) (N := 55) hx hb hts (fun w h => List.mem_cons_of_mem _ (gx_12 w h)) hown hK hP 0 (by decide) rfl rfl 16 (by decide) (hts _ (List.mem_cons_of_mem _ mw_628)) (fun _ h9 => h9) (congrArg (fun z => some (Value.int z)) (show f_156 0 16 = v_166 from ev_166.symm)) dX12_one_106 ?_
            refine lv_iconst (v := 1) hx hb dX12_one_109 (by decide) ?_
            refine lv_isub hx hb dX12_one_110 ?_
            refine lv_topi (fun v_175 ev_175 => ?_)
            have q_176 : v_175.toInt = v_166.toInt - 1 := by rw [ev_175]; have k1 : (1 : Int32).toInt = 1 := (by decide); exact (bn_subI (by omega) (by omega)).trans (by omega)
            refine sg_put (ci := 12) (x := v_175) (ty := .int) (C := RX12) (T := TX12) (N := 55) hx hb hts (fun w h => List.mem_cons_of_mem _ (gx_12 w h)) tyX12 tyX12_ok nmX12 hown hh hA hK hP hS 0 (by decide) rfl rfl 16 (by decide) (hts _ (List.mem_cons_of_mem _ mw_628)) (fun _ h9 => h9) rfl rfl (by decide +kernel) rfl rfl (Nat.le_of_ble_eq_true rfl) dX12_one_111 (fun f_177 H locs ef_177 hP hS => ?_)
            have hI : sgI loM hiM f_177 := by rw [ef_177]; exact sgI.put hI 0 16 (show 0 ≤ (v_175 : Int32).toInt ∧ (v_175 : Int32).toInt ≤ 6 from by omega)
            have hF : sgK WkX12_one_0 f f_177 := sgK.put hF ef_177 (by rfl)
            refine lv_iload_n hx hb dX12_one_114 rfl (lv_at hl 1 rfl) ?_
            refine lv_bipush (v := 40) hx hb dX12_one_115 (by decide) ?_
            refine lv_icmp_ne (tgt := 124) hx hb dX12_one_117 (by decide) (fun c => ?_) (fun c => ?_)
            · skip
              have c_178 : r_92.toInt ≠ 40 := (by have z := bn_ne c; have k1 : (40 : Int32).toInt = 40 := (by decide); omega)
              refine lv_iload_n hx hb dX12_one_124 rfl (lv_at hl 1 rfl) ?_
              refine lv_bipush (v := 45) hx hb dX12_one_125 (by decide) ?_
              refine lv_icmp_ne (tgt := 135) hx hb dX12_one_127 (by decide) (fun c => ?_) (fun c => ?_)
              · skip
                exfalso; have c_180 : r_92.toInt ≠ 45 := (by have z := bn_ne c; have k1 : (45 : Int32).toInt = 45 := (by decide); omega); omega
              · skip
                have c_181 : r_92.toInt = 45 := (by have z := Int32.toInt_inj.mpr c; have k1 : (45 : Int32).toInt = 45 := (by decide); omega)
                refine lv_iload_n hx hb dX12_one_130 rfl (lv_at hl 0 rfl) ?_
                refine lv_ineg hx hb dX12_one_131 ?_
                refine lv_topi (fun v_182 ev_182 => ?_)
                refine lv_goto (tgt := 144) hx hb dX12_one_132 (by decide) ?_
                have q_183 : (f_177 0 13).toInt = v_163.toInt := (congrArg Int32.toInt (show f_177 0 13 = v_163 from (by rw [ef_177, sg_up_s, sgu_n (by decide)]; exact ev_163.symm)))
                have q_184 : (f_177 0 16).toInt = v_175.toInt := (congrArg Int32.toInt (show f_177 0 16 = v_175 from (by rw [ef_177, sg_up_s, sgu_s])))
                have q_185 : (f_177 0 15).toInt = v_169.toInt := (congrArg Int32.toInt (show f_177 0 15 = v_169 from (by rw [ef_177, sg_up_s, sgu_n (by decide)]; exact ev_169.symm)))
                have q_186 : (f_177 0 16).toInt = v_175.toInt := (congrArg Int32.toInt (show f_177 0 16 = v_175 from (by rw [ef_177, sg_up_s, sgu_s])))
                exact hret _ _ _ _ (v_182) f_177 L Q dX12_one_144 hP hS ⟨⟨hI, hF, rfl, rfl⟩, trivial, (by omega), (by omega), (by omega)⟩
            · skip
              exfalso; have c_179 : r_92.toInt = 40 := (by have z := Int32.toInt_inj.mpr c; have k1 : (40 : Int32).toInt = 40 := (by decide); omega); omega
          · skip
            exfalso; have c_174 : r_92.toInt = 40 := (by have z := Int32.toInt_inj.mpr c; have k1 : (40 : Int32).toInt = 40 := (by decide); omega); omega
        · skip
          exfalso; have c_151 : r_92.toInt = 40 := (by have z := Int32.toInt_inj.mpr c; have k1 : (40 : Int32).toInt = 40 := (by decide); omega); omega
      · skip
        have c_144 : r_92.toInt ≠ 45 := (by have z := bn_ne c; have k1 : (45 : Int32).toInt = 45 := (by decide); omega)
        refine lv_iload_n hx hb dX12_one_26 rfl (lv_at hl 0 rfl) ?_
        refine lv_bipush (v := 40) hx hb dX12_one_27 (by decide) ?_
        refine lv_icmp_ne (tgt := 145) hx hb dX12_one_29 (by decide) (fun c => ?_) (fun c => ?_)
        · skip
          have c_187 : r_92.toInt ≠ 40 := (by have z := bn_ne c; have k1 : (40 : Int32).toInt = 40 := (by decide); omega)
          refine lv_iload_n hx hb dX12_one_145 rfl (lv_at hl 0 rfl) ?_
          refine sg_calli (va_runS (As := [.int r_92]) (rest := []) ⟨hx, hb, hml, hown, hts⟩ (kX12_nameOf l D ca za h hh f L Q hI r_92 (by omega) H.size) (va_cwS 1 hts (gw_S (fun _ h => List.mem_cons_of_mem _ h) mw_869 mw_870 mw_619 mw_868) rfl rfl rfl (by decide +kernel) ⟨Nat.le_of_ble_eq_true rfl, Nat.le_of_ble_eq_true rfl⟩) (sg_preS hA hK hP hS hZ) rfl rfl hl.1 rfl (lv_room (Nat.le_of_ble_eq_true rfl)) dX12_one_146 ⟨Nat.le_refl _, Nat.le_refl _⟩) hA hS (fun r_192 f_189 L_190 Q_191 H locs hq hP hS => ?_)
          obtain ⟨⟨ef9, eL9, eQ9⟩, hq, p_193⟩ := hq
          rw [ef9, eL9, eQ9] at hP; clear ef9 eL9 eQ9
          refine lv_istore_n (lv' := [(2, .int r_192), (1, .int r_92), (0, .ref (h 0))]) hx hb dX12_one_149 rfl hl (by decide) rfl (fun ls hl => ?_)
          refine lv_iload_n hx hb dX12_one_150 rfl (lv_at hl 0 rfl) ?_
          refine lv_if_lt (tgt := 171) hx hb dX12_one_151 (by decide) (fun c => ?_) (fun c => ?_)
          · skip
            have c_194 : r_192.toInt < 0 := (by have z := bn_lt c; have k1 : (0 : Int32).toInt = 0 := (by decide); omega)
            refine lv_iconst (v := 0) hx hb dX12_one_171 (by decide) ?_
            refine lv_istore_n (lv' := [(3, .int 0), (2, .int r_192), (1, .int r_92), (0, .ref (h 0))]) hx hb dX12_one_172 rfl hl (by decide) rfl (fun ls hl => ?_)
            refine lv_iconst (v := 0) hx hb dX12_one_173 (by decide) ?_
            refine lv_istore (lv' := [(4, .int 0), (3, .int 0), (2, .int r_192), (1, .int r_92), (0, .ref (h 0))]) hx hb dX12_one_174 hl (by decide) rfl (fun ls hl => ?_)
            exact loop_176 5 0 0 f _ _ _ (by have kc0 : (0 : Int32).toInt = 0 := (by decide); have kc1 : (0 : Int32).toInt = 0 := (by decide); omega) (by have zz0_15 : (f 0 15).toInt = v_3.toInt := (congrArg Int32.toInt (show f 0 15 = v_3 from ev_3.symm)); omega) (by decide) (by have kc0 : (0 : Int32).toInt = 0 := (by decide); have kc1 : (0 : Int32).toInt = 0 := (by decide); have zz0_13 : (f 0 13).toInt = v_5.toInt := (congrArg Int32.toInt (show f 0 13 = v_5 from ev_5.symm)); omega) (by have kc0 : (0 : Int32).toInt = 0 := (by decide); have kc1 : (0 : Int32).toInt = 0 := (by decide); have zz0_16 : (f 0 16).toInt = v_1.toInt := (congrArg Int32.toInt (show f 0 16 = v_1 from ev_1.symm)); omega) (by have kc0 : (0 : Int32).toInt = 0 := (by decide); have kc1 : (0 : Int32).toInt = 0 := (by decide); have zz0_15 : (f 0 15).toInt = v_3.toInt := (congrArg Int32.toInt (show f 0 15 = v_3 from ev_3.symm)); have zz0_16 : (f 0 16).toInt = v_1.toInt := (congrArg Int32.toInt (show f 0 16 = v_1 from ev_1.symm)); omega) hI hF hP hS (lv_sub hl [4, 1, 0] rfl)
          · skip
            have c_195 : 0 ≤ r_192.toInt := (by have z := bn_nlt c; have k1 : (0 : Int32).toInt = 0 := (by decide); omega)
            refine lv_aload_n hx hb dX12_one_154 rfl (lv_at hl 2 rfl) ?_
            refine lv_dup hx hb dX12_one_155 rfl ?_
            refine sg_get (ci := 12) (v := .int v_5) (C := RX12) (T := TX12) (N := 55) hx hb hts (fun w h => List.mem_cons_of_mem _ (gx_12 w h)) hown hK hP 0 (by decide) rfl rfl 13 (by decide) (hts _ (List.mem_cons_of_mem _ mw_625)) (fun _ h9 => h9) (congrArg (fun z => some (Value.int z)) (show f 0 13 = v_5 from ev_5.symm)) dX12_one_156 ?_
            refine lv_iconst (v := 1) hx hb dX12_one_159 (by decide) ?_
            refine lv_iadd hx hb dX12_one_160 ?_
            refine lv_topi (fun v_196 ev_196 => ?_)
            have q_197 : v_196.toInt = v_5.toInt + 1 := by rw [ev_196]; have k1 : (1 : Int32).toInt = 1 := (by decide); exact (bn_addI (by omega) (by omega)).trans (by omega)
            refine sg_put (ci := 12) (x := v_196) (ty := .int) (C := RX12) (T := TX12) (N := 55) hx hb hts (fun w h => List.mem_cons_of_mem _ (gx_12 w h)) tyX12 tyX12_ok nmX12 hown hh hA hK hP hS 0 (by decide) rfl rfl 13 (by decide) (hts _ (List.mem_cons_of_mem _ mw_625)) (fun _ h9 => h9) rfl rfl (by decide +kernel) rfl rfl (Nat.le_of_ble_eq_true rfl) dX12_one_161 (fun f_198 H locs ef_198 hP hS => ?_)
            have hI : sgI loM hiM f_198 := by rw [ef_198]; exact sgI.put hI 0 13 (show 0 ≤ (v_196 : Int32).toInt ∧ (v_196 : Int32).toInt ≤ 120 from by omega)
            have hF : sgK WkX12_one_0 f f_198 := sgK.put hF ef_198 (by rfl)
            refine lv_aload_n hx hb dX12_one_164 rfl (lv_at hl 2 rfl) ?_
            refine sg_get (ci := 12) (v := .ref (h 8)) (C := RX12) (T := TX12) (N := 55) hx hb hts (fun w h => List.mem_cons_of_mem _ (gx_12 w h)) hown hK hP 0 (by decide) rfl rfl 17 (by decide) (hts _ (List.mem_cons_of_mem _ mw_871)) (fun _ h9 => h9) rfl dX12_one_165 ?_
            refine lv_iload_n hx hb dX12_one_168 rfl (lv_at hl 0 rfl) ?_
            refine sg_iald hx hb hK hP 8 (by decide) 0 rfl rfl (i := r_192) (vp_in_iff.mpr ⟨by omega, by omega⟩) dX12_one_169 ?_
            refine lv_topi (fun v_199 ev_199 => ?_)
            have q_200 : 0 ≤ v_199.toInt ∧ v_199.toInt ≤ 60 := by rw [ev_199]; exact hI 8 _
            have q_201 : (f_198 0 13).toInt = v_196.toInt := (congrArg Int32.toInt (show f_198 0 13 = v_196 from (by rw [ef_198, sg_up_s, sgu_s])))
            have q_202 : (f_198 0 16).toInt = v_1.toInt := (congrArg Int32.toInt (show f_198 0 16 = v_1 from (by rw [ef_198, sg_up_s, sgu_n (by decide)]; exact ev_1.symm)))
            have q_203 : (f_198 0 15).toInt = v_3.toInt := (congrArg Int32.toInt (show f_198 0 15 = v_3 from (by rw [ef_198, sg_up_s, sgu_n (by decide)]; exact ev_3.symm)))
            have q_204 : (f_198 0 16).toInt = v_1.toInt := (congrArg Int32.toInt (show f_198 0 16 = v_1 from (by rw [ef_198, sg_up_s, sgu_n (by decide)]; exact ev_1.symm)))
            exact hret _ _ _ _ (v_199) f_198 L Q dX12_one_170 hP hS ⟨⟨hI, hF, rfl, rfl⟩, trivial, (by omega), (by omega), (by omega)⟩
        · skip
          have c_188 : r_92.toInt = 40 := (by have z := Int32.toInt_inj.mpr c; have k1 : (40 : Int32).toInt = 40 := (by decide); omega)
          refine lv_aload_n hx hb dX12_one_32 rfl (lv_at hl 1 rfl) ?_
          have c_205 : v_1 = 0 := Int32.toInt_inj.mp (by have k9 : (0 : Int32).toInt = 0 := (by decide); omega)
          refine sg_get (ci := 12) (v := .int 0) (C := RX12) (T := TX12) (N := 55) hx hb hts (fun w h => List.mem_cons_of_mem _ (gx_12 w h)) hown hK hP 0 (by decide) rfl rfl 16 (by decide) (hts _ (List.mem_cons_of_mem _ mw_628)) (fun _ h9 => h9) (congrArg (fun z => some (Value.int z)) (show f 0 16 = 0 from (Eq.trans ev_1.symm c_205))) dX12_one_33 ?_
          refine lv_bipush (v := 6) hx hb dX12_one_36 (by decide) ?_
          refine lv_icmp_ne (tgt := 46) hx hb dX12_one_38 (by decide) (fun c => ?_) (fun c => absurd c (by decide))
          refine lv_aload_n hx hb dX12_one_46 rfl (lv_at hl 1 rfl) ?_
          refine lv_dup hx hb dX12_one_47 rfl ?_
          refine sg_get (ci := 12) (v := .int 0) (C := RX12) (T := TX12) (N := 55) hx hb hts (fun w h => List.mem_cons_of_mem _ (gx_12 w h)) hown hK hP 0 (by decide) rfl rfl 16 (by decide) (hts _ (List.mem_cons_of_mem _ mw_628)) (fun _ h9 => h9) (congrArg (fun z => some (Value.int z)) (show f 0 16 = 0 from (Eq.trans ev_1.symm c_205))) dX12_one_48 ?_
          refine lv_iconst (v := 1) hx hb dX12_one_51 (by decide) ?_
          refine lv_iadd hx hb dX12_one_52 ?_
          refine W.eq (g2 := F0 m 53 ls [.int 1, .ref (h 0)]) (by rw [show (0 + 1 : Int32) = 1 from by decide]) ?_
          refine sg_put (ci := 12) (x := 1) (ty := .int) (C := RX12) (T := TX12) (N := 55) hx hb hts (fun w h => List.mem_cons_of_mem _ (gx_12 w h)) tyX12 tyX12_ok nmX12 hown hh hA hK hP hS 0 (by decide) rfl rfl 16 (by decide) (hts _ (List.mem_cons_of_mem _ mw_628)) (fun _ h9 => h9) rfl rfl (by decide +kernel) rfl rfl (Nat.le_of_ble_eq_true rfl) dX12_one_53 (fun f_206 H locs ef_206 hP hS => ?_)
          have hI : sgI loM hiM f_206 := by rw [ef_206]; exact sgI.put hI 0 16 (show 0 ≤ (1 : Int32).toInt ∧ (1 : Int32).toInt ≤ 6 from by decide)
          have hF : sgK WkX12_one_0 f f_206 := sgK.put hF ef_206 (by rfl)
          refine lv_aload_n hx hb dX12_one_56 rfl (lv_at hl 1 rfl) ?_
          refine lv_dup hx hb dX12_one_57 rfl ?_
          refine sg_get (ci := 12) (v := .int v_5) (C := RX12) (T := TX12) (N := 55) hx hb hts (fun w h => List.mem_cons_of_mem _ (gx_12 w h)) hown hK hP 0 (by decide) rfl rfl 13 (by decide) (hts _ (List.mem_cons_of_mem _ mw_625)) (fun _ h9 => h9) (congrArg (fun z => some (Value.int z)) (show f_206 0 13 = v_5 from (by rw [ef_206, sg_up_s, sgu_n (by decide)]; exact ev_5.symm))) dX12_one_58 ?_
          refine lv_iconst (v := 1) hx hb dX12_one_61 (by decide) ?_
          refine lv_iadd hx hb dX12_one_62 ?_
          refine lv_topi (fun v_207 ev_207 => ?_)
          have q_208 : v_207.toInt = v_5.toInt + 1 := by rw [ev_207]; have k1 : (1 : Int32).toInt = 1 := (by decide); exact (bn_addI (by omega) (by omega)).trans (by omega)
          refine sg_put (ci := 12) (x := v_207) (ty := .int) (C := RX12) (T := TX12) (N := 55) hx hb hts (fun w h => List.mem_cons_of_mem _ (gx_12 w h)) tyX12 tyX12_ok nmX12 hown hh hA hK hP hS 0 (by decide) rfl rfl 13 (by decide) (hts _ (List.mem_cons_of_mem _ mw_625)) (fun _ h9 => h9) rfl rfl (by decide +kernel) rfl rfl (Nat.le_of_ble_eq_true rfl) dX12_one_63 (fun f_209 H locs ef_209 hP hS => ?_)
          have hI : sgI loM hiM f_209 := by rw [ef_209]; exact sgI.put hI 0 13 (show 0 ≤ (v_207 : Int32).toInt ∧ (v_207 : Int32).toInt ≤ 120 from by omega)
          have hF : sgK WkX12_one_0 f f_209 := sgK.put hF ef_209 (by rfl)
          refine lv_iload_n hx hb dX12_one_66 rfl (lv_at hl 0 rfl) ?_
          refine lv_bipush (v := 40) hx hb dX12_one_67 (by decide) ?_
          refine lv_icmp_ne (tgt := 79) hx hb dX12_one_69 (by decide) (fun c => ?_) (fun c => ?_)
          · skip
            exfalso; have c_210 : r_92.toInt ≠ 40 := (by have z := bn_ne c; have k1 : (40 : Int32).toInt = 40 := (by decide); omega); omega
          · skip
            have c_211 : r_92.toInt = 40 := (by have z := Int32.toInt_inj.mpr c; have k1 : (40 : Int32).toInt = 40 := (by decide); omega)
            refine lv_aload_n hx hb dX12_one_72 rfl (lv_at hl 1 rfl) ?_
            have q_212 : (f_209 0 16).toInt = 1 := (congrArg Int32.toInt (show f_209 0 16 = 1 from (by rw [ef_209, sg_up_s, sgu_n (by decide)]; exact (by rw [ef_206, sg_up_s, sgu_s])))).trans (by decide)
            have q_213 : (f_209 0 15).toInt = v_3.toInt := (congrArg Int32.toInt (show f_209 0 15 = v_3 from (by rw [ef_209, sg_up_s, sgu_n (by decide)]; exact (by rw [ef_206, sg_up_s, sgu_n (by decide)]; exact ev_3.symm))))
            have q_214 : (f_209 0 16).toInt = 1 := (congrArg Int32.toInt (show f_209 0 16 = 1 from (by rw [ef_209, sg_up_s, sgu_n (by decide)]; exact (by rw [ef_206, sg_up_s, sgu_s])))).trans (by decide)
            have q_215 : (f_209 0 13).toInt = v_207.toInt := (congrArg Int32.toInt (show f_209 0 13 = v_207 from (by rw [ef_209, sg_up_s, sgu_s])))
            refine sg_calli (va_runV (As := []) (rest := []) ⟨hx, hb, hml, hown, hts⟩ (kX12_either_1 l D ca za h hh f_209 L Q hI (by omega) (by omega) H.size) (cwV 0 hts (gw_V (fun _ h => List.mem_cons_of_mem _ h) mw_893 mw_894 mw_895 mw_619 mw_892) rfl rfl rfl (by decide +kernel) ⟨Nat.le_of_ble_eq_true rfl, Nat.le_of_ble_eq_true rfl⟩) (sg_preV (ci := 12) (C := RX12) (T := TX12) (N := 55) hA hK hP hS hZ 0 (by decide) rfl rfl) rfl rfl hl.1 rfl (lv_room (Nat.le_of_ble_eq_true rfl)) dX12_one_73 ⟨Nat.le_refl _, Nat.le_refl _⟩) hA hS (fun r_219 f_216 L_217 Q_218 H locs hq hP hS => ?_)
            obtain ⟨⟨hI, hk_f_216, eL9, eQ9⟩, hq, p_220, p_221, p_222⟩ := hq
            rw [eL9, eQ9] at hP; clear eL9 eQ9
            have hF : sgK WkX12_one_0 f f_216 := sgK.tr hF hk_f_216 (by decide)
            obtain ⟨v_223, ev_223⟩ : ∃ z : Int32, z = f_216 0 13 := ⟨_, rfl⟩
            have q_224 : 0 ≤ v_223.toInt ∧ v_223.toInt ≤ 120 := by rw [ev_223]; exact hI 0 13
            have q_225 : (f_216 0 13).toInt = v_223.toInt := (congrArg Int32.toInt (show f_216 0 13 = v_223 from ev_223.symm))
            obtain ⟨v_226, ev_226⟩ : ∃ z : Int32, z = f_216 0 16 := ⟨_, rfl⟩
            have q_227 : 0 ≤ v_226.toInt ∧ v_226.toInt ≤ 6 := by rw [ev_226]; exact hI 0 16
            have q_228 : (f_216 0 16).toInt = v_226.toInt := (congrArg Int32.toInt (show f_216 0 16 = v_226 from ev_226.symm))
            obtain ⟨v_229, ev_229⟩ : ∃ z : Int32, z = f_216 0 15 := ⟨_, rfl⟩
            have q_230 : (-1) ≤ v_229.toInt ∧ v_229.toInt ≤ 120 := by rw [ev_229]; exact hI 0 15
            have q_231 : (f_216 0 15).toInt = v_229.toInt := (congrArg Int32.toInt (show f_216 0 15 = v_229 from ev_229.symm))
            have q_232 : (f_216 0 16).toInt = v_226.toInt := (congrArg Int32.toInt (show f_216 0 16 = v_226 from ev_226.symm))
            refine lv_goto (tgt := 83) hx hb dX12_one_76 (by decide) ?_
            refine lv_istore_n (lv' := [(2, .int r_219), (1, .int r_92), (0, .ref (h 0))]) hx hb dX12_one_83 rfl hl (by decide) rfl (fun ls hl => ?_)
            refine lv_iload_n hx hb dX12_one_84 rfl (lv_at hl 1 rfl) ?_
            refine lv_bipush (v := 40) hx hb dX12_one_85 (by decide) ?_
            refine lv_icmp_ne (tgt := 104) hx hb dX12_one_87 (by decide) (fun c => ?_) (fun c => ?_)
            · skip
              exfalso; have c_233 : r_92.toInt ≠ 40 := (by have z := bn_ne c; have k1 : (40 : Int32).toInt = 40 := (by decide); omega); omega
            · skip
              have c_234 : r_92.toInt = 40 := (by have z := Int32.toInt_inj.mpr c; have k1 : (40 : Int32).toInt = 40 := (by decide); omega)
              refine lv_aload_n hx hb dX12_one_90 rfl (lv_at hl 2 rfl) ?_
              refine lv_bipush (v := 41) hx hb dX12_one_91 (by decide) ?_
              have q_235 : (f_216 0 15).toInt = v_229.toInt := (congrArg Int32.toInt (show f_216 0 15 = v_229 from ev_229.symm))
              have q_236 : (f_216 0 13).toInt = v_223.toInt := (congrArg Int32.toInt (show f_216 0 13 = v_223 from ev_223.symm))
              have q_237 : (f_216 0 14).toInt = v_86.toInt := (congrArg Int32.toInt (show f_216 0 14 = v_86 from ((hk_f_216 0 14 (by decide)).trans (by rw [ef_209, sg_up_s, sgu_n (by decide)]; exact (by rw [ef_206, sg_up_s, sgu_n (by decide)]; exact ev_86.symm)))))
              have q_238 : (f_216 0 13).toInt = v_223.toInt := (congrArg Int32.toInt (show f_216 0 13 = v_223 from ev_223.symm))
              have q_239 : (f_216 0 13).toInt = v_223.toInt := (congrArg Int32.toInt (show f_216 0 13 = v_223 from ev_223.symm))
              refine sg_calli (va_runV (As := [.int 41]) (rest := []) ⟨hx, hb, hml, hown, hts⟩ (kX12_takes_41 l D ca za h hh f_216 L Q hI H.size) (cwV 1 hts (gw_V (fun _ h => List.mem_cons_of_mem _ h) mw_877 mw_878 mw_879 mw_619 mw_876) rfl rfl rfl (by decide +kernel) ⟨Nat.le_of_ble_eq_true rfl, Nat.le_of_ble_eq_true rfl⟩) (sg_preV (ci := 12) (C := RX12) (T := TX12) (N := 55) hA hK hP hS hZ 0 (by decide) rfl rfl) rfl rfl hl.1 rfl (lv_room (Nat.le_of_ble_eq_true rfl)) dX12_one_93 ⟨Nat.le_refl _, Nat.le_refl _⟩) hA hS (fun r_243 f_240 L_241 Q_242 H locs hq hP hS => ?_)
              obtain ⟨⟨hI, hk_f_240, eL9, eQ9⟩, hq⟩ := hq
              rw [eL9, eQ9] at hP; clear eL9 eQ9
              have hF : sgK WkX12_one_0 f f_240 := sgK.tr hF hk_f_240 (by decide)
              obtain ⟨v_244, ev_244⟩ : ∃ z : Int32, z = f_240 0 13 := ⟨_, rfl⟩
              have q_245 : 0 ≤ v_244.toInt ∧ v_244.toInt ≤ 120 := by rw [ev_244]; exact hI 0 13
              have q_246 : (f_240 0 13).toInt = v_244.toInt := (congrArg Int32.toInt (show f_240 0 13 = v_244 from ev_244.symm))
              have q_247 : (f_240 0 13).toInt = v_244.toInt := (congrArg Int32.toInt (show f_240 0 13 = v_244 from ev_244.symm))
              have k_248 : (41 : Int32).toInt = 41 := by decide
              rcases hq with ⟨rfl, hq⟩ | ⟨rfl, hq⟩
              · skip
                have q_249 := hq
                refine lv_if_ne (tgt := 104) hx hb dX12_one_96 (by decide) (fun c => ?_) (fun c => absurd c (by decide))
                refine lv_aload_n hx hb dX12_one_104 rfl (lv_at hl 2 rfl) ?_
                refine lv_dup hx hb dX12_one_105 rfl ?_
                refine sg_get (ci := 12) (v := .int v_226) (C := RX12) (T := TX12) (N := 55) hx hb hts (fun w h => List.mem_cons_of_mem _ (gx_12 w h)) hown hK hP 0 (by decide) rfl rfl 16 (by decide) (hts _ (List.mem_cons_of_mem _ mw_628)) (fun _ h9 => h9) (congrArg (fun z => some (Value.int z)) (show f_240 0 16 = v_226 from ((hk_f_240 0 16 (by decide)).trans ev_226.symm))) dX12_one_106 ?_
                refine lv_iconst (v := 1) hx hb dX12_one_109 (by decide) ?_
                refine lv_isub hx hb dX12_one_110 ?_
                refine lv_topi (fun v_250 ev_250 => ?_)
                have q_251 : v_250.toInt = v_226.toInt - 1 := by rw [ev_250]; have k1 : (1 : Int32).toInt = 1 := (by decide); exact (bn_subI (by omega) (by omega)).trans (by omega)
                refine sg_put (ci := 12) (x := v_250) (ty := .int) (C := RX12) (T := TX12) (N := 55) hx hb hts (fun w h => List.mem_cons_of_mem _ (gx_12 w h)) tyX12 tyX12_ok nmX12 hown hh hA hK hP hS 0 (by decide) rfl rfl 16 (by decide) (hts _ (List.mem_cons_of_mem _ mw_628)) (fun _ h9 => h9) rfl rfl (by decide +kernel) rfl rfl (Nat.le_of_ble_eq_true rfl) dX12_one_111 (fun f_252 H locs ef_252 hP hS => ?_)
                have hI : sgI loM hiM f_252 := by rw [ef_252]; exact sgI.put hI 0 16 (show 0 ≤ (v_250 : Int32).toInt ∧ (v_250 : Int32).toInt ≤ 6 from by omega)
                have hF : sgK WkX12_one_0 f f_252 := sgK.put hF ef_252 (by rfl)
                refine lv_iload_n hx hb dX12_one_114 rfl (lv_at hl 1 rfl) ?_
                refine lv_bipush (v := 40) hx hb dX12_one_115 (by decide) ?_
                refine lv_icmp_ne (tgt := 124) hx hb dX12_one_117 (by decide) (fun c => ?_) (fun c => ?_)
                · skip
                  exfalso; have c_253 : r_92.toInt ≠ 40 := (by have z := bn_ne c; have k1 : (40 : Int32).toInt = 40 := (by decide); omega); omega
                · skip
                  have c_254 : r_92.toInt = 40 := (by have z := Int32.toInt_inj.mpr c; have k1 : (40 : Int32).toInt = 40 := (by decide); omega)
                  refine lv_iload_n hx hb dX12_one_120 rfl (lv_at hl 0 rfl) ?_
                  refine lv_goto (tgt := 144) hx hb dX12_one_121 (by decide) ?_
                  have q_255 : (f_252 0 13).toInt = v_244.toInt := (congrArg Int32.toInt (show f_252 0 13 = v_244 from (by rw [ef_252, sg_up_s, sgu_n (by decide)]; exact ev_244.symm)))
                  have q_256 : (f_252 0 16).toInt = v_250.toInt := (congrArg Int32.toInt (show f_252 0 16 = v_250 from (by rw [ef_252, sg_up_s, sgu_s])))
                  have q_257 : (f_252 0 15).toInt = v_229.toInt := (congrArg Int32.toInt (show f_252 0 15 = v_229 from (by rw [ef_252, sg_up_s, sgu_n (by decide)]; exact ((hk_f_240 0 15 (by decide)).trans ev_229.symm))))
                  have q_258 : (f_252 0 16).toInt = v_250.toInt := (congrArg Int32.toInt (show f_252 0 16 = v_250 from (by rw [ef_252, sg_up_s, sgu_s])))
                  exact hret _ _ _ _ (r_219) f_252 L Q dX12_one_144 hP hS ⟨⟨hI, hF, rfl, rfl⟩, trivial, (by omega), (by omega), (by omega)⟩
              · skip
                have q_259 := hq
                refine lv_if_ne (tgt := 104) hx hb dX12_one_96 (by decide) (fun c => absurd c (by decide)) (fun c => ?_)
                refine lv_aload_n hx hb dX12_one_99 rfl (lv_at hl 2 rfl) ?_
                refine sg_calli (va_runV (As := []) (rest := []) ⟨hx, hb, hml, hown, hts⟩ (kX12_wrong l D ca za h hh f_240 L Q hI H.size) (cwV 0 hts (gw_V (fun _ h => List.mem_cons_of_mem _ h) mw_889 mw_890 mw_891 mw_619 mw_888) rfl rfl rfl (by decide +kernel) ⟨Nat.le_of_ble_eq_true rfl, Nat.le_of_ble_eq_true rfl⟩) (sg_preV (ci := 12) (C := RX12) (T := TX12) (N := 55) hA hK hP hS hZ 0 (by decide) rfl rfl) rfl rfl hl.1 rfl (lv_room (Nat.le_of_ble_eq_true rfl)) dX12_one_100 ⟨Nat.le_refl _, Nat.le_refl _⟩) hA hS (fun r_263 f_260 L_261 Q_262 H locs hq hP hS => ?_)
                obtain ⟨⟨hI, hk_f_260, eL9, eQ9⟩, hq, p_264⟩ := hq
                rw [eL9, eQ9] at hP; clear eL9 eQ9
                have hF : sgK WkX12_one_0 f f_260 := sgK.tr hF hk_f_260 (by decide)
                obtain ⟨v_265, ev_265⟩ : ∃ z : Int32, z = f_260 0 15 := ⟨_, rfl⟩
                have q_266 : (-1) ≤ v_265.toInt ∧ v_265.toInt ≤ 120 := by rw [ev_265]; exact hI 0 15
                have q_267 : (f_260 0 15).toInt = v_265.toInt := (congrArg Int32.toInt (show f_260 0 15 = v_265 from ev_265.symm))
                obtain rfl : r_263 = 0 := Int32.toInt_inj.mp (by have k9 : (0 : Int32).toInt = 0 := (by decide); omega)
                have q_268 : (f_260 0 13).toInt = v_244.toInt := (congrArg Int32.toInt (show f_260 0 13 = v_244 from ((hk_f_260 0 13 (by decide)).trans ev_244.symm)))
                have q_269 : (f_260 0 16).toInt = v_226.toInt := (congrArg Int32.toInt (show f_260 0 16 = v_226 from ((hk_f_260 0 16 (by decide)).trans ((hk_f_240 0 16 (by decide)).trans ev_226.symm))))
                have q_270 : (f_260 0 15).toInt = v_265.toInt := (congrArg Int32.toInt (show f_260 0 15 = v_265 from ev_265.symm))
                have q_271 : (f_260 0 16).toInt = v_226.toInt := (congrArg Int32.toInt (show f_260 0 16 = v_226 from ((hk_f_260 0 16 (by decide)).trans ((hk_f_240 0 16 (by decide)).trans ev_226.symm))))
                have k99 : (0 : Int32).toInt = 0 := (by decide)
                exact hret _ _ _ _ (0) f_260 L Q dX12_one_103 hP hS ⟨⟨hI, hF, rfl, rfl⟩, trivial, (by omega), (by omega), (by omega)⟩
  · skip
    have c_84 : 0 ≤ v_3.toInt := (by have z := bn_nlt c; have k1 : (0 : Int32).toInt = 0 := (by decide); omega)
    refine lv_iconst (v := 0) hx hb dX12_one_7 (by decide) ?_
    have q_272 : (f 0 13).toInt = v_5.toInt := (congrArg Int32.toInt (show f 0 13 = v_5 from ev_5.symm))
    have q_273 : (f 0 16).toInt = v_1.toInt := (congrArg Int32.toInt (show f 0 16 = v_1 from ev_1.symm))
    have q_274 : (f 0 15).toInt = v_3.toInt := (congrArg Int32.toInt (show f 0 15 = v_3 from ev_3.symm))
    have q_275 : (f 0 16).toInt = v_1.toInt := (congrArg Int32.toInt (show f 0 16 = v_1 from ev_1.symm))
    have k99 : (0 : Int32).toInt = 0 := (by decide)
    exact hret _ _ _ _ (0) f L Q dX12_one_8 hP hS ⟨⟨hI, hF, rfl, rfl⟩, trivial, (by omega), (by omega), (by omega)⟩
