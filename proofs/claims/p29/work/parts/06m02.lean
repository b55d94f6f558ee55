/-! contracts of any state. Laid by a program (wip/tool) -/
abbrev WkX12_compared_4 : List (Nat × Nat × Option Nat) := [(0, 0, some 13), (0, 0, some 15), (0, 0, some 16)]
set_option maxHeartbeats 4000000 in
set_option maxRecDepth 100000 in
theorem kX12_compared_4 (l : Launch) (D : va_G) (ca : Nat → ClassId) (za h : Nat → Nat) (hh : sgH 26 h) (f : sg_F) (L : sg_L) (Q : sg_Q) (hI : sgI loM hiM f) (p0 : 4 ≤ (f 0 16).toInt) (p1 : 0 ≤ (f 0 15).toInt ∨ (f 0 16).toInt = 4) (sz : Nat) : Met l yX12_compared gwX12_compared { frames := 16, cells := 0, slots := 0, locals := 364 } (sgP D vwCl (tyX ca) 26 h (eM ca h) zcM za f L Q sz [.ref (h 0)]) (sgQi D vwCl 26 h (eM ca h) sz (fun r f1 L1 Q1 => ((sgI loM hiM f1 ∧ sgK WkX12_compared_4 f f1 ∧ L1 = L ∧ Q1 = Q) ∧ True ∧ ((f 0 13).toInt ≤ (f1 0 13).toInt) ∧ (4 ≤ (f1 0 16).toInt) ∧ (0 ≤ (f1 0 15).toInt ∨ (f1 0 16).toInt = 4) ∧ (r, f1) = sX12_compared_4 f L))) 0 0 (sgA 26 h sz) := by
  refine sg_ofWi (cc := cX12_compared) (maxL := 4) RX12 (by decide) rfl rfl (Nat.le_of_ble_eq_true rfl) ?_
  intro p e s m below meth cd Qz ls hx hb hml hown hts hK hZ hP hS hl hret
  have hA := sgY.self (n := 26) (h := h) (sz := s.heap.size)
  have hl : lv_has ls 4 [(0, .ref (h 0))] := hl
  obtain ⟨H, hH⟩ : ∃ z : Heap, z = s.heap := ⟨_, rfl⟩
  obtain ⟨locs, hlo⟩ : ∃ z : List Loc, z = [] := ⟨_, rfl⟩
  have hP : va_P D vwCl (sgw 26 h (eM ca h) f L Q) H := by rw [hH]; exact hP
  have hS : va_S (sgA 26 h s.heap.size) s.heap H locs := by rw [hH, hlo]; exact hS
  suffices hgo : W p l e ({ frames := 16, cells := 0, slots := 0, locals := 364 }) s m ([.ref (h 0)] : List Value).toArray below meth cd H locs 0 0 Qz (F0 m 0 ls []) by rw [hH, hlo] at hgo; exact hgo
  clear hH hlo
  obtain ⟨sp, hsp⟩ : ∃ z : Int32 × sg_F, z = sX12_compared_4 f L := ⟨_, rfl⟩
  have hs : sp = sX12_compared_4 f L := hsp
  obtain ⟨v_1, ev_1⟩ : ∃ z : Int32, z = f 0 16 := ⟨_, rfl⟩
  have q_2 : 0 ≤ v_1.toInt ∧ v_1.toInt ≤ 6 := by rw [ev_1]; exact hI 0 16
  obtain ⟨v_3, ev_3⟩ : ∃ z : Int32, z = f 0 15 := ⟨_, rfl⟩
  have q_4 : (-1) ≤ v_3.toInt ∧ v_3.toInt ≤ 120 := by rw [ev_3]; exact hI 0 15
  obtain ⟨v_5, ev_5⟩ : ∃ z : Int32, z = f 0 13 := ⟨_, rfl⟩
  have q_6 : 0 ≤ v_5.toInt ∧ v_5.toInt ≤ 120 := by rw [ev_5]; exact hI 0 13
  have o_7 : (f 0 16).toInt = v_1.toInt := (congrArg Int32.toInt (show f 0 16 = v_1 from ev_1.symm))
  have o_8 : (f 0 15).toInt = v_3.toInt := (congrArg Int32.toInt (show f 0 15 = v_3 from ev_3.symm))
  have o_9 : (f 0 13).toInt = v_5.toInt := (congrArg Int32.toInt (show f 0 13 = v_5 from ev_5.symm))
  have hF : sgK WkX12_compared_4 f f := sgK.rf
  refine lv_aload_n hx hb dX12_compared_0 rfl (lv_at hl 0 rfl) ?_
  have q_10 : (f 0 16).toInt = v_1.toInt := (congrArg Int32.toInt (show f 0 16 = v_1 from ev_1.symm))
  have q_11 : (f 0 15).toInt = v_3.toInt := (congrArg Int32.toInt (show f 0 15 = v_3 from ev_3.symm))
  have q_13 : (f 0 13).toInt = v_5.toInt := (congrArg Int32.toInt (show f 0 13 = v_5 from ev_5.symm))
  refine sg_calli (va_runV (As := []) (rest := []) ⟨hx, hb, hml, hown, hts⟩ (kX12_sums_4 l D ca za h hh f L Q hI (by omega) (by omega) H.size) (sl_c12_sums_15_0_0_341_12 hts ⟨Nat.le_of_ble_eq_true rfl, Nat.le_of_ble_eq_true rfl⟩) (sl_vM_0 hA hK hP hS hZ) rfl rfl hl.1 rfl (lv_room (Nat.le_of_ble_eq_true rfl)) dX12_compared_1 ⟨Nat.le_refl _, Nat.le_refl _⟩) hA hS (fun r_17 f_14 L_15 Q_16 H locs hq hP hS => ?_)
  obtain ⟨⟨hI, hk_f_14, eL9, eQ9⟩, hq, p_18, p_19, p_20, u_21⟩ := hq
  rw [eL9, eQ9] at hP; clear eL9 eQ9
  have hF : sgK WkX12_compared_4 f f_14 := sgK.tr hF hk_f_14 (by decide +kernel)
  obtain ⟨v_22, ev_22⟩ : ∃ z : Int32, z = f_14 0 13 := ⟨_, rfl⟩
  have q_23 : 0 ≤ v_22.toInt ∧ v_22.toInt ≤ 120 := by rw [ev_22]; exact hI 0 13
  have q_24 : (f_14 0 13).toInt = v_22.toInt := (congrArg Int32.toInt (show f_14 0 13 = v_22 from ev_22.symm))
  obtain ⟨v_25, ev_25⟩ : ∃ z : Int32, z = f_14 0 16 := ⟨_, rfl⟩
  have q_26 : 0 ≤ v_25.toInt ∧ v_25.toInt ≤ 6 := by rw [ev_25]; exact hI 0 16
  have q_27 : (f_14 0 16).toInt = v_25.toInt := (congrArg Int32.toInt (show f_14 0 16 = v_25 from ev_25.symm))
  obtain ⟨v_28, ev_28⟩ : ∃ z : Int32, z = f_14 0 15 := ⟨_, rfl⟩
  have q_29 : (-1) ≤ v_28.toInt ∧ v_28.toInt ≤ 120 := by rw [ev_28]; exact hI 0 15
  have q_30 : (f_14 0 15).toInt = v_28.toInt := (congrArg Int32.toInt (show f_14 0 15 = v_28 from ev_28.symm))
  refine lv_istore_n (lv' := [(1, .int r_17), (0, .ref (h 0))]) hx hb dX12_compared_4 rfl hl (by decide) rfl (fun ls hl => ?_)
  refine lv_aload_n hx hb dX12_compared_5 rfl (lv_at hl 1 rfl) ?_
  obtain ⟨v_33, ev_33⟩ : ∃ z : Int32, z = f_14 0 14 := ⟨_, rfl⟩
  have q_34 : 0 ≤ v_33.toInt ∧ v_33.toInt ≤ 120 := by rw [ev_33]; exact hI 0 14
  have q_35 : (f_14 0 14).toInt = v_33.toInt := (congrArg Int32.toInt (show f_14 0 14 = v_33 from ev_33.symm))
  refine sg_calli (va_runV (As := []) (rest := []) ⟨hx, hb, hml, hown, hts⟩ (kX12_byteAt l D ca za h hh f_14 L Q hI H.size) (sl_c12_byteAt_0_0_0_0_12 hts ⟨Nat.le_of_ble_eq_true rfl, Nat.le_of_ble_eq_true rfl⟩) (sl_vM_0 hA hK hP hS hZ) rfl rfl hl.1 rfl (lv_room (Nat.le_of_ble_eq_true rfl)) dX12_compared_6 ⟨Nat.le_refl _, Nat.le_refl _⟩) hA hS (fun r_39 f_36 L_37 Q_38 H locs hq hP hS => ?_)
  obtain ⟨⟨ef9, eL9, eQ9⟩, hq, p_40, u_41⟩ := hq
  replace hs := hs.trans (spl_e ev_1 (spl_e ev_3 (spl_e ev_5 (spl2_e u_21 (spl_e ev_22 (spl_e ev_25 (spl_e ev_28 (spl_e ev_33 (spl_e u_41 rfl)))))))))
  rw [ef9, eL9, eQ9] at hP; clear ef9 eL9 eQ9
  refine lv_istore_n (lv' := [(2, .int r_39), (1, .int r_17), (0, .ref (h 0))]) hx hb dX12_compared_9 rfl hl (by decide) rfl (fun ls hl => ?_)
  refine lv_aload_n hx hb dX12_compared_10 rfl (lv_at hl 2 rfl) ?_
  refine sl_gM_0_15_12 (v := v_28) hx hb hts hown hK hP (show f_14 0 15 = v_28 from ev_28.symm) dX12_compared_11 ?_
  refine lv_if_ge (tgt := 35) hx hb dX12_compared_14 (by decide) (fun c => ?_) (fun c => ?_)
  · skip
    have c_42 : 0 ≤ v_28.toInt := (by first | exact (cm_le0 ti_0 c) | (have z := bn_le c; have k1 : (0 : Int32).toInt = 0 := ti_0; omega))
    refine lv_iload_n hx hb dX12_compared_35 rfl (lv_at hl 1 rfl) ?_
    exact hret _ _ _ _ (r_17) f_14 L Q dX12_compared_36 hP hS ⟨⟨hI, hF, rfl, rfl⟩, trivial, (by omega), (by omega), (by omega), (Eq.trans (Eq.symm (hs.trans ((if_neg (Int.not_lt.mpr c_42)).trans rfl))) hsp)⟩
  · skip
    have c_43 : v_28.toInt < 0 := (by first | exact (cm_nle0 ti_0 c) | (have z := bn_nle c; have k1 : (0 : Int32).toInt = 0 := ti_0; omega))
    replace hs := hs.trans ((if_pos c_43).trans rfl)
    refine lv_iload_n hx hb dX12_compared_17 rfl (lv_at hl 0 rfl) ?_
    refine lv_bipush (v := 60) hx hb dX12_compared_18 bp_60 ?_
    refine lv_icmp_eq (tgt := 37) hx hb dX12_compared_20 (by decide) (fun c => ?_) (fun c => ?_)
    · skip
      have c_48 : r_39.toInt = 60 := (by first | exact (cm_eq1 ti_60 c) | (have z := Int32.toInt_inj.mpr c; have k1 : (60 : Int32).toInt = 60 := ti_60; omega))
      refine lv_aload_n hx hb dX12_compared_37 rfl (lv_at hl 2 rfl) ?_
      refine lv_dup hx hb dX12_compared_38 rfl ?_
      refine sl_gM_0_13_12 (v := v_22) hx hb hts hown hK hP (show f_14 0 13 = v_22 from ev_22.symm) dX12_compared_39 ?_
      refine lv_iconst (v := 1) hx hb dX12_compared_42 ic_1 ?_
      refine lv_iadd hx hb dX12_compared_43 ?_
      refine lv_topi (fun v_50 ev_50 => ?_)
      have q_51 : v_50.toInt = v_22.toInt + 1 := by rw [ev_50]; first | exact cm_add ti_1 (by omega) (by omega) | (have k1 : (1 : Int32).toInt = 1 := ti_1; exact (bn_addI (by omega) (by omega)).trans (by omega))
      refine sl_pM_0_13_12 (x := v_50) hx hb hts hown hh hA hK hP hS dX12_compared_44 (fun f_52 H locs ef_52 hP hS => ?_)
      have hI : sgI loM hiM f_52 := by rw [ef_52]; exact sgI.put hI 0 13 (show 0 ≤ (v_50 : Int32).toInt ∧ (v_50 : Int32).toInt ≤ 120 from ⟨by omega, by omega⟩)
      have hF : sgK WkX12_compared_4 f f_52 := sgK.put hF ef_52 (by rfl)
      refine lv_aload_n hx hb dX12_compared_47 rfl (lv_at hl 2 rfl) ?_
      have q_53 : (f_52 0 16).toInt = v_25.toInt := (congrArg Int32.toInt (show f_52 0 16 = v_25 from (by rw [ef_52, sg_up_s, sgu_n (by decide)]; exact ev_25.symm)))
      have q_54 : (f_52 0 15).toInt = v_28.toInt := (congrArg Int32.toInt (show f_52 0 15 = v_28 from (by rw [ef_52, sg_up_s, sgu_n (by decide)]; exact ev_28.symm)))
      have q_56 : (f_52 0 13).toInt = v_50.toInt := (congrArg Int32.toInt (show f_52 0 13 = v_50 from (by rw [ef_52, sg_up_s, sgu_s])))
      refine sg_calli (va_runV (As := []) (rest := []) ⟨hx, hb, hml, hown, hts⟩ (kX12_sums_4 l D ca za h hh f_52 L Q hI (by omega) (by omega) H.size) (sl_c12_sums_15_0_0_341_12 hts ⟨Nat.le_of_ble_eq_true rfl, Nat.le_of_ble_eq_true rfl⟩) (sl_vM_0 hA hK hP hS hZ) rfl rfl hl.1 rfl (lv_room (Nat.le_of_ble_eq_true rfl)) dX12_compared_48 ⟨Nat.le_refl _, Nat.le_refl _⟩) hA hS (fun r_60 f_57 L_58 Q_59 H locs hq hP hS => ?_)
      obtain ⟨⟨hI, hk_f_57, eL9, eQ9⟩, hq, p_61, p_62, p_63, u_64⟩ := hq
      rw [eL9, eQ9] at hP; clear eL9 eQ9
      have hF : sgK WkX12_compared_4 f f_57 := sgK.tr hF hk_f_57 (by decide +kernel)
      obtain ⟨v_65, ev_65⟩ : ∃ z : Int32, z = f_57 0 13 := ⟨_, rfl⟩
      have q_66 : 0 ≤ v_65.toInt ∧ v_65.toInt ≤ 120 := by rw [ev_65]; exact hI 0 13
      have q_67 : (f_57 0 13).toInt = v_65.toInt := (congrArg Int32.toInt (show f_57 0 13 = v_65 from ev_65.symm))
      obtain ⟨v_68, ev_68⟩ : ∃ z : Int32, z = f_57 0 16 := ⟨_, rfl⟩
      have q_69 : 0 ≤ v_68.toInt ∧ v_68.toInt ≤ 6 := by rw [ev_68]; exact hI 0 16
      have q_70 : (f_57 0 16).toInt = v_68.toInt := (congrArg Int32.toInt (show f_57 0 16 = v_68 from ev_68.symm))
      obtain ⟨v_71, ev_71⟩ : ∃ z : Int32, z = f_57 0 15 := ⟨_, rfl⟩
      replace hs := hs.trans ((if_pos c_48).trans (spl_e ev_50 (spl_e ef_52 (spl2_e u_64 (spl_e ev_65 (spl_e ev_68 (spl_e ev_71 rfl)))))))
      have q_72 : (-1) ≤ v_71.toInt ∧ v_71.toInt ≤ 120 := by rw [ev_71]; exact hI 0 15
      have q_73 : (f_57 0 15).toInt = v_71.toInt := (congrArg Int32.toInt (show f_57 0 15 = v_71 from ev_71.symm))
      refine lv_istore_n (lv' := [(3, .int r_60), (2, .int r_39), (1, .int r_17), (0, .ref (h 0))]) hx hb dX12_compared_51 rfl hl (by decide) rfl (fun ls hl => ?_)
      refine lv_iload_n hx hb dX12_compared_52 rfl (lv_at hl 1 rfl) ?_
      refine lv_bipush (v := 60) hx hb dX12_compared_53 bp_60 ?_
      refine lv_icmp_ne (tgt := 66) hx hb dX12_compared_55 (by decide) (fun c => ?_) (fun c => ?_)
      · skip
        exfalso; have c_75 : r_39.toInt ≠ 60 := (by first | exact (cm_ne1 ti_60 c) | (have z := bn_ne c; have k1 : (60 : Int32).toInt = 60 := ti_60; omega)); first | exact absurd (by assumption) c_75 | omega
      · skip
        have c_76 : r_39.toInt = 60 := (by first | exact (cm_eq1 ti_60 c) | (have z := Int32.toInt_inj.mpr c; have k1 : (60 : Int32).toInt = 60 := ti_60; omega))
        refine lv_iload_n hx hb dX12_compared_58 rfl (lv_at hl 2 rfl) ?_
        refine lv_iload_n hx hb dX12_compared_59 rfl (lv_at hl 0 rfl) ?_
        refine lv_icmp_ge (tgt := 89) hx hb dX12_compared_60 (by decide) (fun c => ?_) (fun c => ?_)
        · skip
          have c_77 : r_60.toInt ≤ r_17.toInt := (by first | exact (bn_le c) | (have z := bn_le c; omega))
          refine lv_iconst (v := 0) hx hb dX12_compared_89 ic_0 ?_
          have k99 : (0 : Int32).toInt = 0 := ti_0
          exact hret _ _ _ _ (0) f_57 L Q dX12_compared_90 hP hS ⟨⟨hI, hF, rfl, rfl⟩, trivial, (by omega), (by omega), (by omega), (Eq.trans (Eq.symm (hs.trans ((if_neg (Int.not_lt.mpr c_77)).trans rfl))) hsp)⟩
        · skip
          have c_78 : r_17.toInt < r_60.toInt := (by first | exact (bn_nle c) | (have z := bn_nle c; omega))
          refine lv_goto (tgt := 85) hx hb dX12_compared_63 (by decide) ?_
          refine lv_iconst (v := 1) hx hb dX12_compared_85 ic_1 ?_
          refine lv_goto (tgt := 90) hx hb dX12_compared_86 (by decide) ?_
          have k99 : (1 : Int32).toInt = 1 := ti_1
          exact hret _ _ _ _ (1) f_57 L Q dX12_compared_90 hP hS ⟨⟨hI, hF, rfl, rfl⟩, trivial, (by omega), (by omega), (by omega), (Eq.trans (Eq.symm (hs.trans ((if_pos c_78).trans rfl))) hsp)⟩
    · skip
      have c_49 : r_39.toInt ≠ 60 := (by first | exact (cm_ne1 ti_60 c) | (have z := bn_ne c; have k1 : (60 : Int32).toInt = 60 := ti_60; omega))
      replace hs := hs.trans ((if_neg c_49).trans rfl)
      refine lv_iload_n hx hb dX12_compared_23 rfl (lv_at hl 0 rfl) ?_
      refine lv_bipush (v := 61) hx hb dX12_compared_24 bp_61 ?_
      refine lv_icmp_eq (tgt := 37) hx hb dX12_compared_26 (by decide) (fun c => ?_) (fun c => ?_)
      · skip
        have c_87 : r_39.toInt = 61 := (by first | exact (cm_eq1 ti_61 c) | (have z := Int32.toInt_inj.mpr c; have k1 : (61 : Int32).toInt = 61 := ti_61; omega))
        refine lv_aload_n hx hb dX12_compared_37 rfl (lv_at hl 2 rfl) ?_
        refine lv_dup hx hb dX12_compared_38 rfl ?_
        refine sl_gM_0_13_12 (v := v_22) hx hb hts hown hK hP (show f_14 0 13 = v_22 from ev_22.symm) dX12_compared_39 ?_
        refine lv_iconst (v := 1) hx hb dX12_compared_42 ic_1 ?_
        refine lv_iadd hx hb dX12_compared_43 ?_
        refine lv_topi (fun v_89 ev_89 => ?_)
        have q_90 : v_89.toInt = v_22.toInt + 1 := by rw [ev_89]; first | exact cm_add ti_1 (by omega) (by omega) | (have k1 : (1 : Int32).toInt = 1 := ti_1; exact (bn_addI (by omega) (by omega)).trans (by omega))
        refine sl_pM_0_13_12 (x := v_89) hx hb hts hown hh hA hK hP hS dX12_compared_44 (fun f_91 H locs ef_91 hP hS => ?_)
        have hI : sgI loM hiM f_91 := by rw [ef_91]; exact sgI.put hI 0 13 (show 0 ≤ (v_89 : Int32).toInt ∧ (v_89 : Int32).toInt ≤ 120 from ⟨by omega, by omega⟩)
        have hF : sgK WkX12_compared_4 f f_91 := sgK.put hF ef_91 (by rfl)
        refine lv_aload_n hx hb dX12_compared_47 rfl (lv_at hl 2 rfl) ?_
        have q_92 : (f_91 0 16).toInt = v_25.toInt := (congrArg Int32.toInt (show f_91 0 16 = v_25 from (by rw [ef_91, sg_up_s, sgu_n (by decide)]; exact ev_25.symm)))
        have q_93 : (f_91 0 15).toInt = v_28.toInt := (congrArg Int32.toInt (show f_91 0 15 = v_28 from (by rw [ef_91, sg_up_s, sgu_n (by decide)]; exact ev_28.symm)))
        have q_95 : (f_91 0 13).toInt = v_89.toInt := (congrArg Int32.toInt (show f_91 0 13 = v_89 from (by rw [ef_91, sg_up_s, sgu_s])))
        refine sg_calli (va_runV (As := []) (rest := []) ⟨hx, hb, hml, hown, hts⟩ (kX12_sums_4 l D ca za h hh f_91 L Q hI (by omega) (by omega) H.size) (sl_c12_sums_15_0_0_341_12 hts ⟨Nat.le_of_ble_eq_true rfl, Nat.le_of_ble_eq_true rfl⟩) (sl_vM_0 hA hK hP hS hZ) rfl rfl hl.1 rfl (lv_room (Nat.le_of_ble_eq_true rfl)) dX12_compared_48 ⟨Nat.le_refl _, Nat.le_refl _⟩) hA hS (fun r_99 f_96 L_97 Q_98 H locs hq hP hS => ?_)
        obtain ⟨⟨hI, hk_f_96, eL9, eQ9⟩, hq, p_100, p_101, p_102, u_103⟩ := hq
        rw [eL9, eQ9] at hP; clear eL9 eQ9
        have hF : sgK WkX12_compared_4 f f_96 := sgK.tr hF hk_f_96 (by decide +kernel)
        obtain ⟨v_104, ev_104⟩ : ∃ z : Int32, z = f_96 0 13 := ⟨_, rfl⟩
        have q_105 : 0 ≤ v_104.toInt ∧ v_104.toInt ≤ 120 := by rw [ev_104]; exact hI 0 13
        have q_106 : (f_96 0 13).toInt = v_104.toInt := (congrArg Int32.toInt (show f_96 0 13 = v_104 from ev_104.symm))
        obtain ⟨v_107, ev_107⟩ : ∃ z : Int32, z = f_96 0 16 := ⟨_, rfl⟩
        have q_108 : 0 ≤ v_107.toInt ∧ v_107.toInt ≤ 6 := by rw [ev_107]; exact hI 0 16
        have q_109 : (f_96 0 16).toInt = v_107.toInt := (congrArg Int32.toInt (show f_96 0 16 = v_107 from ev_107.symm))
        obtain ⟨v_110, ev_110⟩ : ∃ z : Int32, z = f_96 0 15 := ⟨_, rfl⟩
        replace hs := hs.trans ((if_pos c_87).trans (spl_e ev_89 (spl_e ef_91 (spl2_e u_103 (spl_e ev_104 (spl_e ev_107 (spl_e ev_110 rfl)))))))
        have q_111 : (-1) ≤ v_110.toInt ∧ v_110.toInt ≤ 120 := by rw [ev_110]; exact hI 0 15
        have q_112 : (f_96 0 15).toInt = v_110.toInt := (congrArg Int32.toInt (show f_96 0 15 = v_110 from ev_110.symm))
        refine lv_istore_n (lv' := [(3, .int r_99), (2, .int r_39), (1, .int r_17), (0, .ref (h 0))]) hx hb dX12_compared_51 rfl hl (by decide) rfl (fun ls hl => ?_)
        refine lv_iload_n hx hb dX12_compared_52 rfl (lv_at hl 1 rfl) ?_
        refine lv_bipush (v := 60) hx hb dX12_compared_53 bp_60 ?_
        refine lv_icmp_ne (tgt := 66) hx hb dX12_compared_55 (by decide) (fun c => ?_) (fun c => ?_)
        · skip
          have c_114 : r_39.toInt ≠ 60 := (by first | exact (cm_ne1 ti_60 c) | (have z := bn_ne c; have k1 : (60 : Int32).toInt = 60 := ti_60; omega))
          refine lv_iload_n hx hb dX12_compared_66 rfl (lv_at hl 1 rfl) ?_
          refine lv_bipush (v := 61) hx hb dX12_compared_67 bp_61 ?_
          refine lv_icmp_ne (tgt := 80) hx hb dX12_compared_69 (by decide) (fun c => ?_) (fun c => ?_)
          · skip
            exfalso; have c_116 : r_39.toInt ≠ 61 := (by first | exact (cm_ne1 ti_61 c) | (have z := bn_ne c; have k1 : (61 : Int32).toInt = 61 := ti_61; omega)); first | exact absurd (by assumption) c_116 | omega
          · skip
            have c_117 : r_39.toInt = 61 := (by first | exact (cm_eq1 ti_61 c) | (have z := Int32.toInt_inj.mpr c; have k1 : (61 : Int32).toInt = 61 := ti_61; omega))
            refine lv_iload_n hx hb dX12_compared_72 rfl (lv_at hl 2 rfl) ?_
            refine lv_iload_n hx hb dX12_compared_73 rfl (lv_at hl 0 rfl) ?_
            refine lv_icmp_ne (tgt := 89) hx hb dX12_compared_74 (by decide) (fun c => ?_) (fun c => ?_)
            · skip
              have c_118 : r_17.toInt ≠ r_99.toInt := (by first | exact (bn_ne c) | (have z := bn_ne c; omega))
              refine lv_iconst (v := 0) hx hb dX12_compared_89 ic_0 ?_
              have k99 : (0 : Int32).toInt = 0 := ti_0
              exact hret _ _ _ _ (0) f_96 L Q dX12_compared_90 hP hS ⟨⟨hI, hF, rfl, rfl⟩, trivial, (by omega), (by omega), (by omega), (Eq.trans (Eq.symm (hs.trans ((if_neg c_118).trans rfl))) hsp)⟩
            · skip
              have c_119 : r_17.toInt = r_99.toInt := (by first | exact (Int32.toInt_inj.mpr c) | (have z := Int32.toInt_inj.mpr c; omega))
              refine lv_goto (tgt := 85) hx hb dX12_compared_77 (by decide) ?_
              refine lv_iconst (v := 1) hx hb dX12_compared_85 ic_1 ?_
              refine lv_goto (tgt := 90) hx hb dX12_compared_86 (by decide) ?_
              have k99 : (1 : Int32).toInt = 1 := ti_1
              exact hret _ _ _ _ (1) f_96 L Q dX12_compared_90 hP hS ⟨⟨hI, hF, rfl, rfl⟩, trivial, (by omega), (by omega), (by omega), (Eq.trans (Eq.symm (hs.trans ((if_pos c_119).trans rfl))) hsp)⟩
        · skip
          exfalso; have c_115 : r_39.toInt = 60 := (by first | exact (cm_eq1 ti_60 c) | (have z := Int32.toInt_inj.mpr c; have k1 : (60 : Int32).toInt = 60 := ti_60; omega)); first | exact absurd c_115 (by assumption) | omega
      · skip
        have c_88 : r_39.toInt ≠ 61 := (by first | exact (cm_ne1 ti_61 c) | (have z := bn_ne c; have k1 : (61 : Int32).toInt = 61 := ti_61; omega))
        replace hs := hs.trans ((if_neg c_88).trans rfl)
        refine lv_iload_n hx hb dX12_compared_29 rfl (lv_at hl 0 rfl) ?_
        refine lv_bipush (v := 62) hx hb dX12_compared_30 bp_62 ?_
        refine lv_icmp_eq (tgt := 37) hx hb dX12_compared_32 (by decide) (fun c => ?_) (fun c => ?_)
        · skip
          have c_128 : r_39.toInt = 62 := (by first | exact (cm_eq1 ti_62 c) | (have z := Int32.toInt_inj.mpr c; have k1 : (62 : Int32).toInt = 62 := ti_62; omega))
          refine lv_aload_n hx hb dX12_compared_37 rfl (lv_at hl 2 rfl) ?_
          refine lv_dup hx hb dX12_compared_38 rfl ?_
          refine sl_gM_0_13_12 (v := v_22) hx hb hts hown hK hP (show f_14 0 13 = v_22 from ev_22.symm) dX12_compared_39 ?_
          refine lv_iconst (v := 1) hx hb dX12_compared_42 ic_1 ?_
          refine lv_iadd hx hb dX12_compared_43 ?_
          refine lv_topi (fun v_130 ev_130 => ?_)
          have q_131 : v_130.toInt = v_22.toInt + 1 := by rw [ev_130]; first | exact cm_add ti_1 (by omega) (by omega) | (have k1 : (1 : Int32).toInt = 1 := ti_1; exact (bn_addI (by omega) (by omega)).trans (by omega))
          refine sl_pM_0_13_12 (x := v_130) hx hb hts hown hh hA hK hP hS dX12_compared_44 (fun f_132 H locs ef_132 hP hS => ?_)
          have hI : sgI loM hiM f_132 := by rw [ef_132]; exact sgI.put hI 0 13 (show 0 ≤ (v_130 : Int32).toInt ∧ (v_130 : Int32).toInt ≤ 120 from ⟨by omega, by omega⟩)
          have hF : sgK WkX12_compared_4 f f_132 := sgK.put hF ef_132 (by rfl)
          refine lv_aload_n hx hb dX12_compared_47 rfl (lv_at hl 2 rfl) ?_
          have q_133 : (f_132 0 16).toInt = v_25.toInt := (congrArg Int32.toInt (show f_132 0 16 = v_25 from (by rw [ef_132, sg_up_s, sgu_n (by decide)]; exact ev_25.symm)))
          have q_134 : (f_132 0 15).toInt = v_28.toInt := (congrArg Int32.toInt (show f_132 0 15 = v_28 from (by rw [ef_132, sg_up_s, sgu_n (by decide)]; exact ev_28.symm)))
          have q_136 : (f_132 0 13).toInt = v_130.toInt := (congrArg Int32.toInt (show f_132 0 13 = v_130 from (by rw [ef_132, sg_up_s, sgu_s])))
          refine sg_calli (va_runV (As := []) (rest := []) ⟨hx, hb, hml, hown, hts⟩ (kX12_sums_4 l D ca za h hh f_132 L Q hI (by omega) (by omega) H.size) (sl_c12_sums_15_0_0_341_12 hts ⟨Nat.le_of_ble_eq_true rfl, Nat.le_of_ble_eq_true rfl⟩) (sl_vM_0 hA hK hP hS hZ) rfl rfl hl.1 rfl (lv_room (Nat.le_of_ble_eq_true rfl)) dX12_compared_48 ⟨Nat.le_refl _, Nat.le_refl _⟩) hA hS (fun r_140 f_137 L_138 Q_139 H locs hq hP hS => ?_)
          obtain ⟨⟨hI, hk_f_137, eL9, eQ9⟩, hq, p_141, p_142, p_143, u_144⟩ := hq
          rw [eL9, eQ9] at hP; clear eL9 eQ9
          have hF : sgK WkX12_compared_4 f f_137 := sgK.tr hF hk_f_137 (by decide +kernel)
          obtain ⟨v_145, ev_145⟩ : ∃ z : Int32, z = f_137 0 13 := ⟨_, rfl⟩
          have q_146 : 0 ≤ v_145.toInt ∧ v_145.toInt ≤ 120 := by rw [ev_145]; exact hI 0 13
          have q_147 : (f_137 0 13).toInt = v_145.toInt := (congrArg Int32.toInt (show f_137 0 13 = v_145 from ev_145.symm))
          obtain ⟨v_148, ev_148⟩ : ∃ z : Int32, z = f_137 0 16 := ⟨_, rfl⟩
          have q_149 : 0 ≤ v_148.toInt ∧ v_148.toInt ≤ 6 := by rw [ev_148]; exact hI 0 16
          have q_150 : (f_137 0 16).toInt = v_148.toInt := (congrArg Int32.toInt (show f_137 0 16 = v_148 from ev_148.symm))
          obtain ⟨v_151, ev_151⟩ : ∃ z : Int32, z = f_137 0 15 := ⟨_, rfl⟩
          replace hs := hs.trans ((if_pos c_128).trans (spl_e ev_130 (spl_e ef_132 (spl2_e u_144 (spl_e ev_145 (spl_e ev_148 (spl_e ev_151 rfl)))))))
          have q_152 : (-1) ≤ v_151.toInt ∧ v_151.toInt ≤ 120 := by rw [ev_151]; exact hI 0 15
          have q_153 : (f_137 0 15).toInt = v_151.toInt := (congrArg Int32.toInt (show f_137 0 15 = v_151 from ev_151.symm))
          refine lv_istore_n (lv' := [(3, .int r_140), (2, .int r_39), (1, .int r_17), (0, .ref (h 0))]) hx hb dX12_compared_51 rfl hl (by decide) rfl (fun ls hl => ?_)
          refine lv_iload_n hx hb dX12_compared_52 rfl (lv_at hl 1 rfl) ?_
          refine lv_bipush (v := 60) hx hb dX12_compared_53 bp_60 ?_
          refine lv_icmp_ne (tgt := 66) hx hb dX12_compared_55 (by decide) (fun c => ?_) (fun c => ?_)
          · skip
            have c_155 : r_39.toInt ≠ 60 := (by first | exact (cm_ne1 ti_60 c) | (have z := bn_ne c; have k1 : (60 : Int32).toInt = 60 := ti_60; omega))
            refine lv_iload_n hx hb dX12_compared_66 rfl (lv_at hl 1 rfl) ?_
            refine lv_bipush (v := 61) hx hb dX12_compared_67 bp_61 ?_
            refine lv_icmp_ne (tgt := 80) hx hb dX12_compared_69 (by decide) (fun c => ?_) (fun c => ?_)
            · skip
              have c_157 : r_39.toInt ≠ 61 := (by first | exact (cm_ne1 ti_61 c) | (have z := bn_ne c; have k1 : (61 : Int32).toInt = 61 := ti_61; omega))
              refine lv_iload_n hx hb dX12_compared_80 rfl (lv_at hl 2 rfl) ?_
              refine lv_iload_n hx hb dX12_compared_81 rfl (lv_at hl 0 rfl) ?_
              refine lv_icmp_le (tgt := 89) hx hb dX12_compared_82 (by decide) (fun c => ?_) (fun c => ?_)
              · skip
                have c_159 : r_17.toInt ≤ r_140.toInt := (by first | exact (bn_le c) | (have z := bn_le c; omega))
                refine lv_iconst (v := 0) hx hb dX12_compared_89 ic_0 ?_
                have k99 : (0 : Int32).toInt = 0 := ti_0
                exact hret _ _ _ _ (0) f_137 L Q dX12_compared_90 hP hS ⟨⟨hI, hF, rfl, rfl⟩, trivial, (by omega), (by omega), (by omega), (Eq.trans (Eq.symm (hs.trans ((if_neg (Int.not_lt.mpr c_159)).trans rfl))) hsp)⟩
              · skip
                have c_160 : r_140.toInt < r_17.toInt := (by first | exact (bn_nle c) | (have z := bn_nle c; omega))
                refine lv_iconst (v := 1) hx hb dX12_compared_85 ic_1 ?_
                refine lv_goto (tgt := 90) hx hb dX12_compared_86 (by decide) ?_
                have k99 : (1 : Int32).toInt = 1 := ti_1
                exact hret _ _ _ _ (1) f_137 L Q dX12_compared_90 hP hS ⟨⟨hI, hF, rfl, rfl⟩, trivial, (by omega), (by omega), (by omega), (Eq.trans (Eq.symm (hs.trans ((if_pos c_160).trans rfl))) hsp)⟩
            · skip
              exfalso; have c_158 : r_39.toInt = 61 := (by first | exact (cm_eq1 ti_61 c) | (have z := Int32.toInt_inj.mpr c; have k1 : (61 : Int32).toInt = 61 := ti_61; omega)); first | exact absurd c_158 (by assumption) | omega
          · skip
            exfalso; have c_156 : r_39.toInt = 60 := (by first | exact (cm_eq1 ti_60 c) | (have z := Int32.toInt_inj.mpr c; have k1 : (60 : Int32).toInt = 60 := ti_60; omega)); first | exact absurd c_156 (by assumption) | omega
        · skip
          have c_129 : r_39.toInt ≠ 62 := (by first | exact (cm_ne1 ti_62 c) | (have z := bn_ne c; have k1 : (62 : Int32).toInt = 62 := ti_62; omega))
          refine lv_iload_n hx hb dX12_compared_35 rfl (lv_at hl 1 rfl) ?_
          exact hret _ _ _ _ (r_17) f_14 L Q dX12_compared_36 hP hS ⟨⟨hI, hF, rfl, rfl⟩, trivial, (by omega), (by omega), (by omega), (Eq.trans (Eq.symm (hs.trans ((if_neg c_129).trans rfl))) hsp)⟩

abbrev WkX12_both_4 : List (Nat × Nat × Option Nat) := [(0, 0, some 13), (0, 0, some 15), (0, 0, some 16)]
set_option maxHeartbeats 4000000 in
set_option maxRecDepth 100000 in
theorem kX12_both_4 (l : Launch) (D : va_G) (ca : Nat → ClassId) (za h : Nat → Nat) (hh : sgH 26 h) (f : sg_F) (L : sg_L) (Q : sg_Q) (hI : sgI loM hiM f) (p0 : 4 ≤ (f 0 16).toInt) (p1 : 0 ≤ (f 0 15).toInt ∨ (f 0 16).toInt = 4) (sz : Nat) : Met l yX12_both gwX12_both { frames := 17, cells := 0, slots := 0, locals := 387 } (sgP D vwCl (tyX ca) 26 h (eM ca h) zcM za f L Q sz [.ref (h 0)]) (sgQi D vwCl 26 h (eM ca h) sz (fun r f1 L1 Q1 => ((sgI loM hiM f1 ∧ sgK WkX12_both_4 f f1 ∧ L1 = L ∧ Q1 = Q) ∧ True ∧ ((f 0 13).toInt ≤ (f1 0 13).toInt) ∧ (4 ≤ (f1 0 16).toInt) ∧ (0 ≤ (f1 0 15).toInt ∨ (f1 0 16).toInt = 4) ∧ (r, f1) = sX12_both_4 f L))) 0 0 (sgA 26 h sz) := by
  refine sg_ofWi (cc := cX12_both) (maxL := 3) RX12 (by decide) rfl rfl (Nat.le_of_ble_eq_true rfl) ?_
  intro p e s m below meth cd Qz ls hx hb hml hown hts hK hZ hP hS hl hret
  have hA := sgY.self (n := 26) (h := h) (sz := s.heap.size)
  have hl : lv_has ls 3 [(0, .ref (h 0))] := hl
  obtain ⟨H, hH⟩ : ∃ z : Heap, z = s.heap := ⟨_, rfl⟩
  obtain ⟨locs, hlo⟩ : ∃ z : List Loc, z = [] := ⟨_, rfl⟩
  have hP : va_P D vwCl (sgw 26 h (eM ca h) f L Q) H := by rw [hH]; exact hP
  have hS : va_S (sgA 26 h s.heap.size) s.heap H locs := by rw [hH, hlo]; exact hS
  suffices hgo : W p l e ({ frames := 17, cells := 0, slots := 0, locals := 387 }) s m ([.ref (h 0)] : List Value).toArray below meth cd H locs 0 0 Qz (F0 m 0 ls []) by rw [hH, hlo] at hgo; exact hgo
  clear hH hlo
  obtain ⟨sp, hsp⟩ : ∃ z : Int32 × sg_F, z = sX12_both_4 f L := ⟨_, rfl⟩
  have hs : sp = sX12_both_4 f L := hsp
  obtain ⟨v_1, ev_1⟩ : ∃ z : Int32, z = f 0 16 := ⟨_, rfl⟩
  have q_2 : 0 ≤ v_1.toInt ∧ v_1.toInt ≤ 6 := by rw [ev_1]; exact hI 0 16
  obtain ⟨v_3, ev_3⟩ : ∃ z : Int32, z = f 0 15 := ⟨_, rfl⟩
  have q_4 : (-1) ≤ v_3.toInt ∧ v_3.toInt ≤ 120 := by rw [ev_3]; exact hI 0 15
  obtain ⟨v_5, ev_5⟩ : ∃ z : Int32, z = f 0 13 := ⟨_, rfl⟩
  have q_6 : 0 ≤ v_5.toInt ∧ v_5.toInt ≤ 120 := by rw [ev_5]; exact hI 0 13
  have o_7 : (f 0 16).toInt = v_1.toInt := (congrArg Int32.toInt (show f 0 16 = v_1 from ev_1.symm))
  have o_8 : (f 0 15).toInt = v_3.toInt := (congrArg Int32.toInt (show f 0 15 = v_3 from ev_3.symm))
  have o_9 : (f 0 13).toInt = v_5.toInt := (congrArg Int32.toInt (show f 0 13 = v_5 from ev_5.symm))
  have hF : sgK WkX12_both_4 f f := sgK.rf
  have loop_5 : ∀ (n_5 : Nat) (y1_5 : Int32) (fp_5 : sg_F) (H : Heap) (locs : List Loc) (ls : Array Slot), sp = sX12_both_4_l5 n_5 y1_5 fp_5 L → 120 - (fp_5 0 13).toInt < (n_5 : Int) → (f 0 13).toInt ≤ (fp_5 0 13).toInt → 4 ≤ (fp_5 0 16).toInt → 0 ≤ (fp_5 0 15).toInt ∨ (fp_5 0 16).toInt = 4 → sgI loM hiM fp_5 → sgK WkX12_both_4 f fp_5 → va_P D vwCl (sgw 26 h (eM ca h) fp_5 L Q) H → va_S (sgA 26 h s.heap.size) s.heap H locs → lv_has ls 3 [(0, .ref (h 0)), (1, .int y1_5)] → W p l e ({ frames := 17, cells := 0, slots := 0, locals := 387 }) s m ([.ref (h 0)] : List Value).toArray below meth cd H locs 0 0 Qz (F0 m 5 ls []) := by
    intro n_5
    induction n_5 with
    | zero => intro y1_5 fp_5 H locs ls hs hm_5 hg0_5 hg1_5 hg2_5 hI hF hP hS hl; have zb := (show 0 ≤ (fp_5 0 13).toInt ∧ (fp_5 0 13).toInt ≤ 120 from hI 0 13); exact absurd hm_5 (by omega)
    | succ n_5 ih_5 =>
      intro y1_5 fp_5 H locs ls hs hm_5 hg0_5 hg1_5 hg2_5 hI hF hP hS hl
      have hs : sp = sX12_both_4_h5 (sX12_both_4_l5 n_5) y1_5 fp_5 L := hs
      obtain ⟨v_10, ev_10⟩ : ∃ z : Int32, z = fp_5 0 13 := ⟨_, rfl⟩
      have q_11 : 0 ≤ v_10.toInt ∧ v_10.toInt ≤ 120 := by rw [ev_10]; exact hI 0 13
      have q_12 : (fp_5 0 13).toInt = v_10.toInt := by rw [ev_10]
      obtain ⟨v_13, ev_13⟩ : ∃ z : Int32, z = fp_5 0 16 := ⟨_, rfl⟩
      have q_14 : 0 ≤ v_13.toInt ∧ v_13.toInt ≤ 6 := by rw [ev_13]; exact hI 0 16
      have q_15 : (fp_5 0 16).toInt = v_13.toInt := by rw [ev_13]
      obtain ⟨v_16, ev_16⟩ : ∃ z : Int32, z = fp_5 0 15 := ⟨_, rfl⟩
      have q_17 : (-1) ≤ v_16.toInt ∧ v_16.toInt ≤ 120 := by rw [ev_16]; exact hI 0 15
      have q_18 : (fp_5 0 15).toInt = v_16.toInt := by rw [ev_16]
      refine lv_aload_n hx hb dX12_both_5 rfl (lv_at hl 0 rfl) ?_
      refine lv_bipush (v := 38) hx hb dX12_both_6 bp_38 ?_
      obtain ⟨v_21, ev_21⟩ : ∃ z : Int32, z = fp_5 0 14 := ⟨_, rfl⟩
      have q_22 : 0 ≤ v_21.toInt ∧ v_21.toInt ≤ 120 := by rw [ev_21]; exact hI 0 14
      have q_23 : (fp_5 0 14).toInt = v_21.toInt := (congrArg Int32.toInt (show fp_5 0 14 = v_21 from ev_21.symm))
      refine sg_calli (va_runV (As := [.int 38]) (rest := []) ⟨hx, hb, hml, hown, hts⟩ (kX12_takes_38 l D ca za h hh fp_5 L Q hI H.size) (sl_c12_takes_1_0_0_20_12 hts ⟨Nat.le_of_ble_eq_true rfl, Nat.le_of_ble_eq_true rfl⟩) (sl_vM_0 hA hK hP hS hZ) rfl rfl hl.1 rfl (lv_room (Nat.le_of_ble_eq_true rfl)) dX12_both_8 ⟨Nat.le_refl _, Nat.le_refl _⟩) hA hS (fun r_29 f_26 L_27 Q_28 H locs hq hP hS => ?_)
      obtain ⟨⟨hI, hk_f_26, eL9, eQ9⟩, hq, u_30⟩ := hq
      rw [eL9, eQ9] at hP; clear eL9 eQ9
      have hF : sgK WkX12_both_4 f f_26 := sgK.tr hF hk_f_26 (by decide +kernel)
      obtain ⟨v_31, ev_31⟩ : ∃ z : Int32, z = f_26 0 13 := ⟨_, rfl⟩
      replace hs := hs.trans (spl_e ev_10 (spl_e ev_13 (spl_e ev_16 (spl_e ev_21 (spl2_e u_30 (spl_e ev_31 rfl))))))
      have q_32 : 0 ≤ v_31.toInt ∧ v_31.toInt ≤ 120 := by rw [ev_31]; exact hI 0 13
      have q_33 : (f_26 0 13).toInt = v_31.toInt := (congrArg Int32.toInt (show f_26 0 13 = v_31 from ev_31.symm))
      have k_35 : (38 : Int32).toInt = 38 := by decide
      rcases hq with ⟨rfl, hq⟩ | ⟨rfl, hq⟩
      · skip
        have hc_36 := hq
        refine lv_if_eq (tgt := 36) hx hb dX12_both_11 (by decide) (fun c => absurd c (by decide)) (fun c => ?_)
        refine lv_aload_n hx hb dX12_both_14 rfl (lv_at hl 0 rfl) ?_
        have q_37 : (f_26 0 16).toInt = v_13.toInt := (congrArg Int32.toInt (show f_26 0 16 = v_13 from ((hk_f_26 0 16 (by decide)).trans ev_13.symm)))
        have q_38 : (f_26 0 15).toInt = v_16.toInt := (congrArg Int32.toInt (show f_26 0 15 = v_16 from ((hk_f_26 0 15 (by decide)).trans ev_16.symm)))
        refine sg_calli (va_runV (As := []) (rest := []) ⟨hx, hb, hml, hown, hts⟩ (kX12_compared_4 l D ca za h hh f_26 L Q hI (by omega) (by omega) H.size) (sl_c12_compared_16_0_0_364_12 hts ⟨Nat.le_of_ble_eq_true rfl, Nat.le_of_ble_eq_true rfl⟩) (sl_vM_0 hA hK hP hS hZ) rfl rfl hl.1 rfl (lv_room (Nat.le_of_ble_eq_true rfl)) dX12_both_15 ⟨Nat.le_refl _, Nat.le_refl _⟩) hA hS (fun r_44 f_41 L_42 Q_43 H locs hq hP hS => ?_)
        obtain ⟨⟨hI, hk_f_41, eL9, eQ9⟩, hq, p_45, p_46, p_47, u_48⟩ := hq
        rw [eL9, eQ9] at hP; clear eL9 eQ9
        have hF : sgK WkX12_both_4 f f_41 := sgK.tr hF hk_f_41 (by decide +kernel)
        obtain ⟨v_49, ev_49⟩ : ∃ z : Int32, z = f_41 0 13 := ⟨_, rfl⟩
        have q_50 : 0 ≤ v_49.toInt ∧ v_49.toInt ≤ 120 := by rw [ev_49]; exact hI 0 13
        have q_51 : (f_41 0 13).toInt = v_49.toInt := (congrArg Int32.toInt (show f_41 0 13 = v_49 from ev_49.symm))
        obtain ⟨v_52, ev_52⟩ : ∃ z : Int32, z = f_41 0 16 := ⟨_, rfl⟩
        have q_53 : 0 ≤ v_52.toInt ∧ v_52.toInt ≤ 6 := by rw [ev_52]; exact hI 0 16
        have q_54 : (f_41 0 16).toInt = v_52.toInt := (congrArg Int32.toInt (show f_41 0 16 = v_52 from ev_52.symm))
        obtain ⟨v_55, ev_55⟩ : ∃ z : Int32, z = f_41 0 15 := ⟨_, rfl⟩
        replace hs := hs.trans ((if_pos rfl).trans (spl2_e u_48 (spl_e ev_49 (spl_e ev_52 (spl_e ev_55 rfl)))))
        have q_56 : (-1) ≤ v_55.toInt ∧ v_55.toInt ≤ 120 := by rw [ev_55]; exact hI 0 15
        have q_57 : (f_41 0 15).toInt = v_55.toInt := (congrArg Int32.toInt (show f_41 0 15 = v_55 from ev_55.symm))
        refine lv_istore_n (lv' := [(2, .int r_44), (0, .ref (h 0)), (1, .int y1_5)]) hx hb dX12_both_18 rfl hl (by decide) rfl (fun ls hl => ?_)
        refine lv_iload_n hx hb dX12_both_19 rfl (lv_at hl 2 rfl) ?_
        refine lv_if_eq (tgt := 31) hx hb dX12_both_20 (by decide) (fun c => ?_) (fun c => ?_)
        · skip
          have c_59 : y1_5.toInt = 0 := (by first | exact (cm_eq1 ti_0 c) | (have z := Int32.toInt_inj.mpr c; have k1 : (0 : Int32).toInt = 0 := ti_0; omega))
          refine lv_iconst (v := 0) hx hb dX12_both_31 ic_0 ?_
          refine lv_istore_n (lv' := [(1, .int 0), (2, .int r_44), (0, .ref (h 0))]) hx hb dX12_both_32 rfl hl (by decide) rfl (fun ls hl => ?_)
          refine lv_goto (tgt := 5) hx hb dX12_both_33 (by decide) ?_
          exact ih_5 0 f_41 _ _ _ (hs.trans ((if_pos c_59).trans rfl)) (by have kc0 : (0 : Int32).toInt = 0 := ti_0; have zz0_13 : (f_41 0 13).toInt = v_49.toInt := (congrArg Int32.toInt (show f_41 0 13 = v_49 from ev_49.symm)); omega) (by have kc0 : (0 : Int32).toInt = 0 := ti_0; have zz0_13 : (f_41 0 13).toInt = v_49.toInt := (congrArg Int32.toInt (show f_41 0 13 = v_49 from ev_49.symm)); omega) (by have kc0 : (0 : Int32).toInt = 0 := ti_0; have zz0_16 : (f_41 0 16).toInt = v_52.toInt := (congrArg Int32.toInt (show f_41 0 16 = v_52 from ev_52.symm)); omega) (by have kc0 : (0 : Int32).toInt = 0 := ti_0; have zz0_15 : (f_41 0 15).toInt = v_55.toInt := (congrArg Int32.toInt (show f_41 0 15 = v_55 from ev_55.symm)); have zz0_16 : (f_41 0 16).toInt = v_52.toInt := (congrArg Int32.toInt (show f_41 0 16 = v_52 from ev_52.symm)); omega) hI hF hP hS (lv_sub hl [2, 0] rfl)
        · skip
          have c_60 : y1_5.toInt ≠ 0 := (by first | exact (cm_ne1 ti_0 c) | (have z := bn_ne c; have k1 : (0 : Int32).toInt = 0 := ti_0; omega))
          replace hs := hs.trans ((if_neg c_60).trans rfl)
          refine lv_iload_n hx hb dX12_both_23 rfl (lv_at hl 0 rfl) ?_
          refine lv_if_eq (tgt := 31) hx hb dX12_both_24 (by decide) (fun c => ?_) (fun c => ?_)
          · skip
            have c_61 : r_44.toInt = 0 := (by first | exact (cm_eq1 ti_0 c) | (have z := Int32.toInt_inj.mpr c; have k1 : (0 : Int32).toInt = 0 := ti_0; omega))
            refine lv_iconst (v := 0) hx hb dX12_both_31 ic_0 ?_
            refine lv_istore_n (lv' := [(1, .int 0), (2, .int r_44), (0, .ref (h 0))]) hx hb dX12_both_32 rfl hl (by decide) rfl (fun ls hl => ?_)
            refine lv_goto (tgt := 5) hx hb dX12_both_33 (by decide) ?_
            exact ih_5 0 f_41 _ _ _ (hs.trans ((if_pos c_61).trans rfl)) (by have kc0 : (0 : Int32).toInt = 0 := ti_0; have zz0_13 : (f_41 0 13).toInt = v_49.toInt := (congrArg Int32.toInt (show f_41 0 13 = v_49 from ev_49.symm)); omega) (by have kc0 : (0 : Int32).toInt = 0 := ti_0; have zz0_13 : (f_41 0 13).toInt = v_49.toInt := (congrArg Int32.toInt (show f_41 0 13 = v_49 from ev_49.symm)); omega) (by have kc0 : (0 : Int32).toInt = 0 := ti_0; have zz0_16 : (f_41 0 16).toInt = v_52.toInt := (congrArg Int32.toInt (show f_41 0 16 = v_52 from ev_52.symm)); omega) (by have kc0 : (0 : Int32).toInt = 0 := ti_0; have zz0_15 : (f_41 0 15).toInt = v_55.toInt := (congrArg Int32.toInt (show f_41 0 15 = v_55 from ev_55.symm)); have zz0_16 : (f_41 0 16).toInt = v_52.toInt := (congrArg Int32.toInt (show f_41 0 16 = v_52 from ev_52.symm)); omega) hI hF hP hS (lv_sub hl [2, 0] rfl)
          · skip
            have c_62 : r_44.toInt ≠ 0 := (by first | exact (cm_ne1 ti_0 c) | (have z := bn_ne c; have k1 : (0 : Int32).toInt = 0 := ti_0; omega))
            refine lv_iconst (v := 1) hx hb dX12_both_27 ic_1 ?_
            refine lv_goto (tgt := 32) hx hb dX12_both_28 (by decide) ?_
            refine lv_istore_n (lv' := [(1, .int 1), (2, .int r_44), (0, .ref (h 0))]) hx hb dX12_both_32 rfl hl (by decide) rfl (fun ls hl => ?_)
            refine lv_goto (tgt := 5) hx hb dX12_both_33 (by decide) ?_
            exact ih_5 1 f_41 _ _ _ (hs.trans ((if_neg c_62).trans rfl)) (by have kc0 : (1 : Int32).toInt = 1 := ti_1; have zz0_13 : (f_41 0 13).toInt = v_49.toInt := (congrArg Int32.toInt (show f_41 0 13 = v_49 from ev_49.symm)); omega) (by have kc0 : (1 : Int32).toInt = 1 := ti_1; have zz0_13 : (f_41 0 13).toInt = v_49.toInt := (congrArg Int32.toInt (show f_41 0 13 = v_49 from ev_49.symm)); omega) (by have kc0 : (1 : Int32).toInt = 1 := ti_1; have zz0_16 : (f_41 0 16).toInt = v_52.toInt := (congrArg Int32.toInt (show f_41 0 16 = v_52 from ev_52.symm)); omega) (by have kc0 : (1 : Int32).toInt = 1 := ti_1; have zz0_15 : (f_41 0 15).toInt = v_55.toInt := (congrArg Int32.toInt (show f_41 0 15 = v_55 from ev_55.symm)); have zz0_16 : (f_41 0 16).toInt = v_52.toInt := (congrArg Int32.toInt (show f_41 0 16 = v_52 from ev_52.symm)); omega) hI hF hP hS (lv_sub hl [2, 0] rfl)
      · skip
        have hc_36 := hq
        refine lv_if_eq (tgt := 36) hx hb dX12_both_11 (by decide) (fun c => ?_) (fun c => absurd c (by decide))
        refine lv_iload_n hx hb dX12_both_36 rfl (lv_at hl 1 rfl) ?_
        have q_64 : (f_26 0 16).toInt = v_13.toInt := (congrArg Int32.toInt (show f_26 0 16 = v_13 from ((hk_f_26 0 16 (by decide)).trans ev_13.symm)))
        have q_65 : (f_26 0 15).toInt = v_16.toInt := (congrArg Int32.toInt (show f_26 0 15 = v_16 from ((hk_f_26 0 15 (by decide)).trans ev_16.symm)))
        exact hret _ _ _ _ (y1_5) f_26 L Q dX12_both_37 hP hS ⟨⟨hI, hF, rfl, rfl⟩, trivial, (by omega), (by omega), (by omega), (Eq.trans (Eq.symm (hs.trans ((if_neg (by decide)).trans rfl))) hsp)⟩
  refine lv_aload_n hx hb dX12_both_0 rfl (lv_at hl 0 rfl) ?_
  have q_67 : (f 0 16).toInt = v_1.toInt := (congrArg Int32.toInt (show f 0 16 = v_1 from ev_1.symm))
  have q_68 : (f 0 15).toInt = v_3.toInt := (congrArg Int32.toInt (show f 0 15 = v_3 from ev_3.symm))
  have q_70 : (f 0 13).toInt = v_5.toInt := (congrArg Int32.toInt (show f 0 13 = v_5 from ev_5.symm))
  refine sg_calli (va_runV (As := []) (rest := []) ⟨hx, hb, hml, hown, hts⟩ (kX12_compared_4 l D ca za h hh f L Q hI (by omega) (by omega) H.size) (sl_c12_compared_16_0_0_364_12 hts ⟨Nat.le_of_ble_eq_true rfl, Nat.le_of_ble_eq_true rfl⟩) (sl_vM_0 hA hK hP hS hZ) rfl rfl hl.1 rfl (lv_room (Nat.le_of_ble_eq_true rfl)) dX12_both_1 ⟨Nat.le_refl _, Nat.le_refl _⟩) hA hS (fun r_74 f_71 L_72 Q_73 H locs hq hP hS => ?_)
  obtain ⟨⟨hI, hk_f_71, eL9, eQ9⟩, hq, p_75, p_76, p_77, u_78⟩ := hq
  rw [eL9, eQ9] at hP; clear eL9 eQ9
  have hF : sgK WkX12_both_4 f f_71 := sgK.tr hF hk_f_71 (by decide +kernel)
  obtain ⟨v_79, ev_79⟩ : ∃ z : Int32, z = f_71 0 13 := ⟨_, rfl⟩
  have q_80 : 0 ≤ v_79.toInt ∧ v_79.toInt ≤ 120 := by rw [ev_79]; exact hI 0 13
  have q_81 : (f_71 0 13).toInt = v_79.toInt := (congrArg Int32.toInt (show f_71 0 13 = v_79 from ev_79.symm))
  obtain ⟨v_82, ev_82⟩ : ∃ z : Int32, z = f_71 0 16 := ⟨_, rfl⟩
  have q_83 : 0 ≤ v_82.toInt ∧ v_82.toInt ≤ 6 := by rw [ev_82]; exact hI 0 16
  have q_84 : (f_71 0 16).toInt = v_82.toInt := (congrArg Int32.toInt (show f_71 0 16 = v_82 from ev_82.symm))
  obtain ⟨v_85, ev_85⟩ : ∃ z : Int32, z = f_71 0 15 := ⟨_, rfl⟩
  have q_86 : (-1) ≤ v_85.toInt ∧ v_85.toInt ≤ 120 := by rw [ev_85]; exact hI 0 15
  have q_87 : (f_71 0 15).toInt = v_85.toInt := (congrArg Int32.toInt (show f_71 0 15 = v_85 from ev_85.symm))
  refine lv_istore_n (lv' := [(1, .int r_74), (0, .ref (h 0))]) hx hb dX12_both_4 rfl hl (by decide) rfl (fun ls hl => ?_)
  exact loop_5 121 r_74 f_71 _ _ _ (hs.trans ((spl_e ev_1 (spl_e ev_3 (spl_e ev_5 (spl2_e u_78 (spl_e ev_79 (spl_e ev_82 (spl_e ev_85 rfl))))))))) (by have zz0_13 : (f_71 0 13).toInt = v_79.toInt := (congrArg Int32.toInt (show f_71 0 13 = v_79 from ev_79.symm)); omega) (by have zz0_13 : (f_71 0 13).toInt = v_79.toInt := (congrArg Int32.toInt (show f_71 0 13 = v_79 from ev_79.symm)); omega) (by have zz0_16 : (f_71 0 16).toInt = v_82.toInt := (congrArg Int32.toInt (show f_71 0 16 = v_82 from ev_82.symm)); omega) (by have zz0_15 : (f_71 0 15).toInt = v_85.toInt := (congrArg Int32.toInt (show f_71 0 15 = v_85 from ev_85.symm)); have zz0_16 : (f_71 0 16).toInt = v_82.toInt := (congrArg Int32.toInt (show f_71 0 16 = v_82 from ev_82.symm)); omega) hI hF hP hS (lv_sub hl [1, 0] rfl)

abbrev WkX12_either_4 : List (Nat × Nat × Option Nat) := [(0, 0, some 13), (0, 0, some 15), (0, 0, some 16)]
set_option maxHeartbeats 4000000 in
set_option maxRecDepth 100000 in
theorem kX12_either_4 (l : Launch) (D : va_G) (ca : Nat → ClassId) (za h : Nat → Nat) (hh : sgH 26 h) (f : sg_F) (L : sg_L) (Q : sg_Q) (hI : sgI loM hiM f) (p0 : 4 ≤ (f 0 16).toInt) (p1 : 0 ≤ (f 0 15).toInt ∨ (f 0 16).toInt = 4) (sz : Nat) : Met l yX12_either gwX12_either { frames := 18, cells := 0, slots := 0, locals := 409 } (sgP D vwCl (tyX ca) 26 h (eM ca h) zcM za f L Q sz [.ref (h 0)]) (sgQi D vwCl 26 h (eM ca h) sz (fun r f1 L1 Q1 => ((sgI loM hiM f1 ∧ sgK WkX12_either_4 f f1 ∧ L1 = L ∧ Q1 = Q) ∧ True ∧ ((f 0 13).toInt ≤ (f1 0 13).toInt) ∧ (4 ≤ (f1 0 16).toInt) ∧ (0 ≤ (f1 0 15).toInt ∨ (f1 0 16).toInt = 4) ∧ (r, f1) = sX12_either_4 f L))) 0 0 (sgA 26 h sz) := by
  refine sg_ofWi (cc := cX12_either) (maxL := 3) RX12 (by decide) rfl rfl (Nat.le_of_ble_eq_true rfl) ?_
  intro p e s m below meth cd Qz ls hx hb hml hown hts hK hZ hP hS hl hret
  have hA := sgY.self (n := 26) (h := h) (sz := s.heap.size)
  have hl : lv_has ls 3 [(0, .ref (h 0))] := hl
  obtain ⟨H, hH⟩ : ∃ z : Heap, z = s.heap := ⟨_, rfl⟩
  obtain ⟨locs, hlo⟩ : ∃ z : List Loc, z = [] := ⟨_, rfl⟩
  have hP : va_P D vwCl (sgw 26 h (eM ca h) f L Q) H := by rw [hH]; exact hP
  have hS : va_S (sgA 26 h s.heap.size) s.heap H locs := by rw [hH, hlo]; exact hS
  suffices hgo : W p l e ({ frames := 18, cells := 0, slots := 0, locals := 409 }) s m ([.ref (h 0)] : List Value).toArray below meth cd H locs 0 0 Qz (F0 m 0 ls []) by rw [hH, hlo] at hgo; exact hgo
  clear hH hlo
  obtain ⟨sp, hsp⟩ : ∃ z : Int32 × sg_F, z = sX12_either_4 f L := ⟨_, rfl⟩
  have hs : sp = sX12_either_4 f L := hsp
  obtain ⟨v_1, ev_1⟩ : ∃ z : Int32, z = f 0 16 := ⟨_, rfl⟩
  have q_2 : 0 ≤ v_1.toInt ∧ v_1.toInt ≤ 6 := by rw [ev_1]; exact hI 0 16
  obtain ⟨v_3, ev_3⟩ : ∃ z : Int32, z = f 0 15 := ⟨_, rfl⟩
  have q_4 : (-1) ≤ v_3.toInt ∧ v_3.toInt ≤ 120 := by rw [ev_3]; exact hI 0 15
  obtain ⟨v_5, ev_5⟩ : ∃ z : Int32, z = f 0 13 := ⟨_, rfl⟩
  have q_6 : 0 ≤ v_5.toInt ∧ v_5.toInt ≤ 120 := by rw [ev_5]; exact hI 0 13
  have o_7 : (f 0 16).toInt = v_1.toInt := (congrArg Int32.toInt (show f 0 16 = v_1 from ev_1.symm))
  have o_8 : (f 0 15).toInt = v_3.toInt := (congrArg Int32.toInt (show f 0 15 = v_3 from ev_3.symm))
  have o_9 : (f 0 13).toInt = v_5.toInt := (congrArg Int32.toInt (show f 0 13 = v_5 from ev_5.symm))
  have hF : sgK WkX12_either_4 f f := sgK.rf
  have loop_5 : ∀ (n_5 : Nat) (y1_5 : Int32) (fp_5 : sg_F) (H : Heap) (locs : List Loc) (ls : Array Slot), sp = sX12_either_4_l5 n_5 y1_5 fp_5 L → 120 - (fp_5 0 13).toInt < (n_5 : Int) → (f 0 13).toInt ≤ (fp_5 0 13).toInt → 4 ≤ (fp_5 0 16).toInt → 0 ≤ (fp_5 0 15).toInt ∨ (fp_5 0 16).toInt = 4 → sgI loM hiM fp_5 → sgK WkX12_either_4 f fp_5 → va_P D vwCl (sgw 26 h (eM ca h) fp_5 L Q) H → va_S (sgA 26 h s.heap.size) s.heap H locs → lv_has ls 3 [(0, .ref (h 0)), (1, .int y1_5)] → W p l e ({ frames := 18, cells := 0, slots := 0, locals := 409 }) s m ([.ref (h 0)] : List Value).toArray below meth cd H locs 0 0 Qz (F0 m 5 ls []) := by
    intro n_5
    induction n_5 with
    | zero => intro y1_5 fp_5 H locs ls hs hm_5 hg0_5 hg1_5 hg2_5 hI hF hP hS hl; have zb := (show 0 ≤ (fp_5 0 13).toInt ∧ (fp_5 0 13).toInt ≤ 120 from hI 0 13); exact absurd hm_5 (by omega)
    | succ n_5 ih_5 =>
      intro y1_5 fp_5 H locs ls hs hm_5 hg0_5 hg1_5 hg2_5 hI hF hP hS hl
      have hs : sp = sX12_either_4_h5 (sX12_either_4_l5 n_5) y1_5 fp_5 L := hs
      obtain ⟨v_10, ev_10⟩ : ∃ z : Int32, z = fp_5 0 13 := ⟨_, rfl⟩
      have q_11 : 0 ≤ v_10.toInt ∧ v_10.toInt ≤ 120 := by rw [ev_10]; exact hI 0 13
      have q_12 : (fp_5 0 13).toInt = v_10.toInt := by rw [ev_10]
      obtain ⟨v_13, ev_13⟩ : ∃ z : Int32, z = fp_5 0 16 := ⟨_, rfl⟩
      have q_14 : 0 ≤ v_13.toInt ∧ v_13.toInt ≤ 6 := by rw [ev_13]; exact hI 0 16
      have q_15 : (fp_5 0 16).toInt = v_13.toInt := by rw [ev_13]
      obtain ⟨v_16, ev_16⟩ : ∃ z : Int32, z = fp_5 0 15 := ⟨_, rfl⟩
      have q_17 : (-1) ≤ v_16.toInt ∧ v_16.toInt ≤ 120 := by rw [ev_16]; exact hI 0 15
      have q_18 : (fp_5 0 15).toInt = v_16.toInt := by rw [ev_16]
      refine lv_aload_n hx hb dX12_either_5 rfl (lv_at hl 0 rfl) ?_
      refine lv_bipush (v := 124) hx hb dX12_either_6 bp_124 ?_
      obtain ⟨v_21, ev_21⟩ : ∃ z : Int32, z = fp_5 0 14 := ⟨_, rfl⟩
      have q_22 : 0 ≤ v_21.toInt ∧ v_21.toInt ≤ 120 := by rw [ev_21]; exact hI 0 14
      have q_23 : (fp_5 0 14).toInt = v_21.toInt := (congrArg Int32.toInt (show fp_5 0 14 = v_21 from ev_21.symm))
      refine sg_calli (va_runV (As := [.int 124]) (rest := []) ⟨hx, hb, hml, hown, hts⟩ (kX12_takes_124 l D ca za h hh fp_5 L Q hI H.size) (sl_c12_takes_1_0_0_20_12 hts ⟨Nat.le_of_ble_eq_true rfl, Nat.le_of_ble_eq_true rfl⟩) (sl_vM_0 hA hK hP hS hZ) rfl rfl hl.1 rfl (lv_room (Nat.le_of_ble_eq_true rfl)) dX12_either_8 ⟨Nat.le_refl _, Nat.le_refl _⟩) hA hS (fun r_29 f_26 L_27 Q_28 H locs hq hP hS => ?_)
      obtain ⟨⟨hI, hk_f_26, eL9, eQ9⟩, hq, u_30⟩ := hq
      rw [eL9, eQ9] at hP; clear eL9 eQ9
      have hF : sgK WkX12_either_4 f f_26 := sgK.tr hF hk_f_26 (by decide +kernel)
      obtain ⟨v_31, ev_31⟩ : ∃ z : Int32, z = f_26 0 13 := ⟨_, rfl⟩
      replace hs := hs.trans (spl_e ev_10 (spl_e ev_13 (spl_e ev_16 (spl_e ev_21 (spl2_e u_30 (spl_e ev_31 rfl))))))
      have q_32 : 0 ≤ v_31.toInt ∧ v_31.toInt ≤ 120 := by rw [ev_31]; exact hI 0 13
      have q_33 : (f_26 0 13).toInt = v_31.toInt := (congrArg Int32.toInt (show f_26 0 13 = v_31 from ev_31.symm))
      have k_35 : (124 : Int32).toInt = 124 := by decide
      rcases hq with ⟨rfl, hq⟩ | ⟨rfl, hq⟩
      · skip
        have hc_36 := hq
        refine lv_if_eq (tgt := 36) hx hb dX12_either_11 (by decide) (fun c => absurd c (by decide)) (fun c => ?_)
        refine lv_aload_n hx hb dX12_either_14 rfl (lv_at hl 0 rfl) ?_
        have q_37 : (f_26 0 16).toInt = v_13.toInt := (congrArg Int32.toInt (show f_26 0 16 = v_13 from ((hk_f_26 0 16 (by decide)).trans ev_13.symm)))
        have q_38 : (f_26 0 15).toInt = v_16.toInt := (congrArg Int32.toInt (show f_26 0 15 = v_16 from ((hk_f_26 0 15 (by decide)).trans ev_16.symm)))
        refine sg_calli (va_runV (As := []) (rest := []) ⟨hx, hb, hml, hown, hts⟩ (kX12_both_4 l D ca za h hh f_26 L Q hI (by omega) (by omega) H.size) (sl_c12_both_17_0_0_387_12 hts ⟨Nat.le_of_ble_eq_true rfl, Nat.le_of_ble_eq_true rfl⟩) (sl_vM_0 hA hK hP hS hZ) rfl rfl hl.1 rfl (lv_room (Nat.le_of_ble_eq_true rfl)) dX12_either_15 ⟨Nat.le_refl _, Nat.le_refl _⟩) hA hS (fun r_44 f_41 L_42 Q_43 H locs hq hP hS => ?_)
        obtain ⟨⟨hI, hk_f_41, eL9, eQ9⟩, hq, p_45, p_46, p_47, u_48⟩ := hq
        rw [eL9, eQ9] at hP; clear eL9 eQ9
        have hF : sgK WkX12_either_4 f f_41 := sgK.tr hF hk_f_41 (by decide +kernel)
        obtain ⟨v_49, ev_49⟩ : ∃ z : Int32, z = f_41 0 13 := ⟨_, rfl⟩
        have q_50 : 0 ≤ v_49.toInt ∧ v_49.toInt ≤ 120 := by rw [ev_49]; exact hI 0 13
        have q_51 : (f_41 0 13).toInt = v_49.toInt := (congrArg Int32.toInt (show f_41 0 13 = v_49 from ev_49.symm))
        obtain ⟨v_52, ev_52⟩ : ∃ z : Int32, z = f_41 0 16 := ⟨_, rfl⟩
        have q_53 : 0 ≤ v_52.toInt ∧ v_52.toInt ≤ 6 := by rw [ev_52]; exact hI 0 16
        have q_54 : (f_41 0 16).toInt = v_52.toInt := (congrArg Int32.toInt (show f_41 0 16 = v_52 from ev_52.symm))
        obtain ⟨v_55, ev_55⟩ : ∃ z : Int32, z = f_41 0 15 := ⟨_, rfl⟩
        replace hs := hs.trans ((if_pos rfl).trans (spl2_e u_48 (spl_e ev_49 (spl_e ev_52 (spl_e ev_55 rfl)))))
        have q_56 : (-1) ≤ v_55.toInt ∧ v_55.toInt ≤ 120 := by rw [ev_55]; exact hI 0 15
        have q_57 : (f_41 0 15).toInt = v_55.toInt := (congrArg Int32.toInt (show f_41 0 15 = v_55 from ev_55.symm))
        refine lv_istore_n (lv' := [(2, .int r_44), (0, .ref (h 0)), (1, .int y1_5)]) hx hb dX12_either_18 rfl hl (by decide) rfl (fun ls hl => ?_)
        refine lv_iload_n hx hb dX12_either_19 rfl (lv_at hl 2 rfl) ?_
        refine lv_if_ne (tgt := 27) hx hb dX12_either_20 (by decide) (fun c => ?_) (fun c => ?_)
        · skip
          have c_59 : y1_5.toInt ≠ 0 := (by first | exact (cm_ne1 ti_0 c) | (have z := bn_ne c; have k1 : (0 : Int32).toInt = 0 := ti_0; omega))
          refine lv_iconst (v := 1) hx hb dX12_either_27 ic_1 ?_
          refine lv_goto (tgt := 32) hx hb dX12_either_28 (by decide) ?_
          refine lv_istore_n (lv' := [(1, .int 1), (2, .int r_44), (0, .ref (h 0))]) hx hb dX12_either_32 rfl hl (by decide) rfl (fun ls hl => ?_)
          refine lv_goto (tgt := 5) hx hb dX12_either_33 (by decide) ?_
          exact ih_5 1 f_41 _ _ _ (hs.trans ((if_neg c_59).trans rfl)) (by have kc0 : (1 : Int32).toInt = 1 := ti_1; have zz0_13 : (f_41 0 13).toInt = v_49.toInt := (congrArg Int32.toInt (show f_41 0 13 = v_49 from ev_49.symm)); omega) (by have kc0 : (1 : Int32).toInt = 1 := ti_1; have zz0_13 : (f_41 0 13).toInt = v_49.toInt := (congrArg Int32.toInt (show f_41 0 13 = v_49 from ev_49.symm)); omega) (by have kc0 : (1 : Int32).toInt = 1 := ti_1; have zz0_16 : (f_41 0 16).toInt = v_52.toInt := (congrArg Int32.toInt (show f_41 0 16 = v_52 from ev_52.symm)); omega) (by have kc0 : (1 : Int32).toInt = 1 := ti_1; have zz0_15 : (f_41 0 15).toInt = v_55.toInt := (congrArg Int32.toInt (show f_41 0 15 = v_55 from ev_55.symm)); have zz0_16 : (f_41 0 16).toInt = v_52.toInt := (congrArg Int32.toInt (show f_41 0 16 = v_52 from ev_52.symm)); omega) hI hF hP hS (lv_sub hl [2, 0] rfl)
        · skip
          have c_60 : y1_5.toInt = 0 := (by first | exact (cm_eq1 ti_0 c) | (have z := Int32.toInt_inj.mpr c; have k1 : (0 : Int32).toInt = 0 := ti_0; omega))
          replace hs := hs.trans ((if_pos c_60).trans rfl)
          refine lv_iload_n hx hb dX12_either_23 rfl (lv_at hl 0 rfl) ?_
          refine lv_if_eq (tgt := 31) hx hb dX12_either_24 (by decide) (fun c => ?_) (fun c => ?_)
          · skip
            have c_61 : r_44.toInt = 0 := (by first | exact (cm_eq1 ti_0 c) | (have z := Int32.toInt_inj.mpr c; have k1 : (0 : Int32).toInt = 0 := ti_0; omega))
            refine lv_iconst (v := 0) hx hb dX12_either_31 ic_0 ?_
            refine lv_istore_n (lv' := [(1, .int 0), (2, .int r_44), (0, .ref (h 0))]) hx hb dX12_either_32 rfl hl (by decide) rfl (fun ls hl => ?_)
            refine lv_goto (tgt := 5) hx hb dX12_either_33 (by decide) ?_
            exact ih_5 0 f_41 _ _ _ (hs.trans ((if_pos c_61).trans rfl)) (by have kc0 : (0 : Int32).toInt = 0 := ti_0; have zz0_13 : (f_41 0 13).toInt = v_49.toInt := (congrArg Int32.toInt (show f_41 0 13 = v_49 from ev_49.symm)); omega) (by have kc0 : (0 : Int32).toInt = 0 := ti_0; have zz0_13 : (f_41 0 13).toInt = v_49.toInt := (congrArg Int32.toInt (show f_41 0 13 = v_49 from ev_49.symm)); omega) (by have kc0 : (0 : Int32).toInt = 0 := ti_0; have zz0_16 : (f_41 0 16).toInt = v_52.toInt := (congrArg Int32.toInt (show f_41 0 16 = v_52 from ev_52.symm)); omega) (by have kc0 : (0 : Int32).toInt = 0 := ti_0; have zz0_15 : (f_41 0 15).toInt = v_55.toInt := (congrArg Int32.toInt (show f_41 0 15 = v_55 from ev_55.symm)); have zz0_16 : (f_41 0 16).toInt = v_52.toInt := (congrArg Int32.toInt (show f_41 0 16 = v_52 from ev_52.symm)); omega) hI hF hP hS (lv_sub hl [2, 0] rfl)
          · skip
            have c_62 : r_44.toInt ≠ 0 := (by first | exact (cm_ne1 ti_0 c) | (have z := bn_ne c; have k1 : (0 : Int32).toInt = 0 := ti_0; omega))
            refine lv_iconst (v := 1) hx hb dX12_either_27 ic_1 ?_
            refine lv_goto (tgt := 32) hx hb dX12_either_28 (by decide) ?_
            refine lv_istore_n (lv' := [(1, .int 1), (2, .int r_44), (0, .ref (h 0))]) hx hb dX12_either_32 rfl hl (by decide) rfl (fun ls hl => ?_)
            refine lv_goto (tgt := 5) hx hb dX12_either_33 (by decide) ?_
            exact ih_5 1 f_41 _ _ _ (hs.trans ((if_neg c_62).trans rfl)) (by have kc0 : (1 : Int32).toInt = 1 := ti_1; have zz0_13 : (f_41 0 13).toInt = v_49.toInt := (congrArg Int32.toInt (show f_41 0 13 = v_49 from ev_49.symm)); omega) (by have kc0 : (1 : Int32).toInt = 1 := ti_1; have zz0_13 : (f_41 0 13).toInt = v_49.toInt := (congrArg Int32.toInt (show f_41 0 13 = v_49 from ev_49.symm)); omega) (by have kc0 : (1 : Int32).toInt = 1 := ti_1; have zz0_16 : (f_41 0 16).toInt = v_52.toInt := (congrArg Int32.toInt (show f_41 0 16 = v_52 from ev_52.symm)); omega) (by have kc0 : (1 : Int32).toInt = 1 := ti_1; have zz0_15 : (f_41 0 15).toInt = v_55.toInt := (congrArg Int32.toInt (show f_41 0 15 = v_55 from ev_55.symm)); have zz0_16 : (f_41 0 16).toInt = v_52.toInt := (congrArg Int32.toInt (show f_41 0 16 = v_52 from ev_52.symm)); omega) hI hF hP hS (lv_sub hl [2, 0] rfl)
      · skip
        have hc_36 := hq
        refine lv_if_eq (tgt := 36) hx hb dX12_either_11 (by decide) (fun c => ?_) (fun c => absurd c (by decide))
        refine lv_iload_n hx hb dX12_either_36 rfl (lv_at hl 1 rfl) ?_
        have q_64 : (f_26 0 16).toInt = v_13.toInt := (congrArg Int32.toInt (show f_26 0 16 = v_13 from ((hk_f_26 0 16 (by decide)).trans ev_13.symm)))
        have q_65 : (f_26 0 15).toInt = v_16.toInt := (congrArg Int32.toInt (show f_26 0 15 = v_16 from ((hk_f_26 0 15 (by decide)).trans ev_16.symm)))
        exact hret _ _ _ _ (y1_5) f_26 L Q dX12_either_37 hP hS ⟨⟨hI, hF, rfl, rfl⟩, trivial, (by omega), (by omega), (by omega), (Eq.trans (Eq.symm (hs.trans ((if_neg (by decide)).trans rfl))) hsp)⟩
  refine lv_aload_n hx hb dX12_either_0 rfl (lv_at hl 0 rfl) ?_
  have q_67 : (f 0 16).toInt = v_1.toInt := (congrArg Int32.toInt (show f 0 16 = v_1 from ev_1.symm))
  have q_68 : (f 0 15).toInt = v_3.toInt := (congrArg Int32.toInt (show f 0 15 = v_3 from ev_3.symm))
  have q_70 : (f 0 13).toInt = v_5.toInt := (congrArg Int32.toInt (show f 0 13 = v_5 from ev_5.symm))
  refine sg_calli (va_runV (As := []) (rest := []) ⟨hx, hb, hml, hown, hts⟩ (kX12_both_4 l D ca za h hh f L Q hI (by omega) (by omega) H.size) (sl_c12_both_17_0_0_387_12 hts ⟨Nat.le_of_ble_eq_true rfl, Nat.le_of_ble_eq_true rfl⟩) (sl_vM_0 hA hK hP hS hZ) rfl rfl hl.1 rfl (lv_room (Nat.le_of_ble_eq_true rfl)) dX12_either_1 ⟨Nat.le_refl _, Nat.le_refl _⟩) hA hS (fun r_74 f_71 L_72 Q_73 H locs hq hP hS => ?_)
  obtain ⟨⟨hI, hk_f_71, eL9, eQ9⟩, hq, p_75, p_76, p_77, u_78⟩ := hq
  rw [eL9, eQ9] at hP; clear eL9 eQ9
  have hF : sgK WkX12_either_4 f f_71 := sgK.tr hF hk_f_71 (by decide +kernel)
  obtain ⟨v_79, ev_79⟩ : ∃ z : Int32, z = f_71 0 13 := ⟨_, rfl⟩
  have q_80 : 0 ≤ v_79.toInt ∧ v_79.toInt ≤ 120 := by rw [ev_79]; exact hI 0 13
  have q_81 : (f_71 0 13).toInt = v_79.toInt := (congrArg Int32.toInt (show f_71 0 13 = v_79 from ev_79.symm))
  obtain ⟨v_82, ev_82⟩ : ∃ z : Int32, z = f_71 0 16 := ⟨_, rfl⟩
  have q_83 : 0 ≤ v_82.toInt ∧ v_82.toInt ≤ 6 := by rw [ev_82]; exact hI 0 16
  have q_84 : (f_71 0 16).toInt = v_82.toInt := (congrArg Int32.toInt (show f_71 0 16 = v_82 from ev_82.symm))
  obtain ⟨v_85, ev_85⟩ : ∃ z : Int32, z = f_71 0 15 := ⟨_, rfl⟩
  have q_86 : (-1) ≤ v_85.toInt ∧ v_85.toInt ≤ 120 := by rw [ev_85]; exact hI 0 15
  have q_87 : (f_71 0 15).toInt = v_85.toInt := (congrArg Int32.toInt (show f_71 0 15 = v_85 from ev_85.symm))
  refine lv_istore_n (lv' := [(1, .int r_74), (0, .ref (h 0))]) hx hb dX12_either_4 rfl hl (by decide) rfl (fun ls hl => ?_)
  exact loop_5 121 r_74 f_71 _ _ _ (hs.trans ((spl_e ev_1 (spl_e ev_3 (spl_e ev_5 (spl2_e u_78 (spl_e ev_79 (spl_e ev_82 (spl_e ev_85 rfl))))))))) (by have zz0_13 : (f_71 0 13).toInt = v_79.toInt := (congrArg Int32.toInt (show f_71 0 13 = v_79 from ev_79.symm)); omega) (by have zz0_13 : (f_71 0 13).toInt = v_79.toInt := (congrArg Int32.toInt (show f_71 0 13 = v_79 from ev_79.symm)); omega) (by have zz0_16 : (f_71 0 16).toInt = v_82.toInt := (congrArg Int32.toInt (show f_71 0 16 = v_82 from ev_82.symm)); omega) (by have zz0_15 : (f_71 0 15).toInt = v_85.toInt := (congrArg Int32.toInt (show f_71 0 15 = v_85 from ev_85.symm)); have zz0_16 : (f_71 0 16).toInt = v_82.toInt := (congrArg Int32.toInt (show f_71 0 16 = v_82 from ev_82.symm)); omega) hI hF hP hS (lv_sub hl [1, 0] rfl)

abbrev WkX12_one_3 : List (Nat × Nat × Option Nat) := [(0, 0, some 13), (0, 0, some 15), (0, 0, some 16)]
set_option maxHeartbeats 4000000 in
set_option maxRecDepth 100000 in
theorem kX12_one_3 (l : Launch) (D : va_G) (ca : Nat → ClassId) (za h : Nat → Nat) (hh : sgH 26 h) (f : sg_F) (L : sg_L) (Q : sg_Q) (hI : sgI loM hiM f) (p0 : 3 ≤ (f 0 16).toInt) (p1 : 0 ≤ (f 0 15).toInt ∨ (f 0 16).toInt = 3) (sz : Nat) : Met l yX12_one gwX12_one { frames := 19, cells := 0, slots := 0, locals := 431 } (sgP D vwCl (tyX ca) 26 h (eM ca h) zcM za f L Q sz [.ref (h 0)]) (sgQi D vwCl 26 h (eM ca h) sz (fun r f1 L1 Q1 => ((sgI loM hiM f1 ∧ sgK WkX12_one_3 f f1 ∧ L1 = L ∧ Q1 = Q) ∧ True ∧ ((f 0 13).toInt ≤ (f1 0 13).toInt) ∧ (3 ≤ (f1 0 16).toInt) ∧ (0 ≤ (f1 0 15).toInt ∨ (f1 0 16).toInt = 3) ∧ (r, f1) = sX12_one_3 f L))) 0 0 (sgA 26 h sz) := by
  refine sg_ofWi (cc := cX12_one) (maxL := 5) RX12 (by decide) rfl rfl (Nat.le_of_ble_eq_true rfl) ?_
  intro p e s m below meth cd Qz ls hx hb hml hown hts hK hZ hP hS hl hret
  have hA := sgY.self (n := 26) (h := h) (sz := s.heap.size)
  have hl : lv_has ls 5 [(0, .ref (h 0))] := hl
  obtain ⟨H, hH⟩ : ∃ z : Heap, z = s.heap := ⟨_, rfl⟩
  obtain ⟨locs, hlo⟩ : ∃ z : List Loc, z = [] := ⟨_, rfl⟩
  have hP : va_P D vwCl (sgw 26 h (eM ca h) f L Q) H := by rw [hH]; exact hP
  have hS : va_S (sgA 26 h s.heap.size) s.heap H locs := by rw [hH, hlo]; exact hS
  suffices hgo : W p l e ({ frames := 19, cells := 0, slots := 0, locals := 431 }) s m ([.ref (h 0)] : List Value).toArray below meth cd H locs 0 0 Qz (F0 m 0 ls []) by rw [hH, hlo] at hgo; exact hgo
  clear hH hlo
  obtain ⟨sp, hsp⟩ : ∃ z : Int32 × sg_F, z = sX12_one_3 f L := ⟨_, rfl⟩
  have hs : sp = sX12_one_3 f L := hsp
  obtain ⟨v_1, ev_1⟩ : ∃ z : Int32, z = f 0 16 := ⟨_, rfl⟩
  have q_2 : 0 ≤ v_1.toInt ∧ v_1.toInt ≤ 6 := by rw [ev_1]; exact hI 0 16
  obtain ⟨v_3, ev_3⟩ : ∃ z : Int32, z = f 0 15 := ⟨_, rfl⟩
  have q_4 : (-1) ≤ v_3.toInt ∧ v_3.toInt ≤ 120 := by rw [ev_3]; exact hI 0 15
  obtain ⟨v_5, ev_5⟩ : ∃ z : Int32, z = f 0 13 := ⟨_, rfl⟩
  replace hs := hs.trans (spl_e ev_1 (spl_e ev_3 (spl_e ev_5 rfl)))
  have q_6 : 0 ≤ v_5.toInt ∧ v_5.toInt ≤ 120 := by rw [ev_5]; exact hI 0 13
  have o_7 : (f 0 16).toInt = v_1.toInt := (congrArg Int32.toInt (show f 0 16 = v_1 from ev_1.symm))
  have o_8 : (f 0 15).toInt = v_3.toInt := (congrArg Int32.toInt (show f 0 15 = v_3 from ev_3.symm))
  have o_9 : (f 0 13).toInt = v_5.toInt := (congrArg Int32.toInt (show f 0 13 = v_5 from ev_5.symm))
  have hF : sgK WkX12_one_3 f f := sgK.rf
  have blk_229 : ∀ (y3_229 : Int32) (y4_229 : Int32) (fp_229 : sg_F) (H : Heap) (locs : List Loc) (ls : Array Slot), sp = sX12_one_3_b229 y3_229 y4_229 fp_229 L → (-1) ≤ (fp_229 0 15).toInt ∧ (fp_229 0 15).toInt ≤ (-1) → 0 ≤ y4_229.toInt ∧ y4_229.toInt ≤ 4 → (f 0 13).toInt ≤ (fp_229 0 13).toInt → 3 ≤ (fp_229 0 16).toInt → 0 ≤ (fp_229 0 15).toInt ∨ (fp_229 0 16).toInt = 3 → sgI loM hiM fp_229 → sgK WkX12_one_3 f fp_229 → va_P D vwCl (sgw 26 h (eM ca h) fp_229 L Q) H → va_S (sgA 26 h s.heap.size) s.heap H locs → lv_has ls 5 [(0, .ref (h 0)), (3, .int y3_229), (4, .int y4_229)] → W p l e ({ frames := 19, cells := 0, slots := 0, locals := 431 }) s m ([.ref (h 0)] : List Value).toArray below meth cd H locs 0 0 Qz (F0 m 229 ls []) := by
    intro y3_229 y4_229 fp_229 H locs ls hs hy0_229 hy1_229 hg0_229 hg1_229 hg2_229 hI hF hP hS hl
    obtain ⟨v_10, ev_10⟩ : ∃ z : Int32, z = fp_229 0 15 := ⟨_, rfl⟩
    have q_11 : (-1) ≤ v_10.toInt ∧ v_10.toInt ≤ 120 := by rw [ev_10]; exact hI 0 15
    have q_12 : (fp_229 0 15).toInt = v_10.toInt := by rw [ev_10]
    obtain ⟨v_13, ev_13⟩ : ∃ z : Int32, z = fp_229 0 13 := ⟨_, rfl⟩
    have q_14 : 0 ≤ v_13.toInt ∧ v_13.toInt ≤ 120 := by rw [ev_13]; exact hI 0 13
    have q_15 : (fp_229 0 13).toInt = v_13.toInt := by rw [ev_13]
    obtain ⟨v_16, ev_16⟩ : ∃ z : Int32, z = fp_229 0 16 := ⟨_, rfl⟩
    replace hs := hs.trans (spl_e ev_10 (spl_e ev_13 (spl_e ev_16 rfl)))
    have q_17 : 0 ≤ v_16.toInt ∧ v_16.toInt ≤ 6 := by rw [ev_16]; exact hI 0 16
    have q_18 : (fp_229 0 16).toInt = v_16.toInt := by rw [ev_16]
    refine lv_iload hx hb dX12_one_229 (lv_at hl 2 rfl) ?_
    refine lv_if_ne (tgt := 241) hx hb dX12_one_231 (by decide) (fun c => ?_) (fun c => ?_)
    · skip
      have c_19 : y4_229.toInt ≠ 0 := (by first | exact (cm_ne1 ti_0 c) | (have z := bn_ne c; have k1 : (0 : Int32).toInt = 0 := ti_0; omega))
      refine lv_iload_n hx hb dX12_one_241 rfl (lv_at hl 1 rfl) ?_
      exact hret _ _ _ _ (y3_229) fp_229 L Q dX12_one_242 hP hS ⟨⟨hI, hF, rfl, rfl⟩, trivial, (by omega), (by omega), (by omega), (Eq.trans (Eq.symm (hs.trans ((if_neg c_19).trans rfl))) hsp)⟩
    · skip
      have c_20 : y4_229.toInt = 0 := (by first | exact (cm_eq1 ti_0 c) | (have z := Int32.toInt_inj.mpr c; have k1 : (0 : Int32).toInt = 0 := ti_0; omega))
      refine lv_aload_n hx hb dX12_one_234 rfl (lv_at hl 0 rfl) ?_
      refine sg_calli (va_runV (As := []) (rest := []) ⟨hx, hb, hml, hown, hts⟩ (kX12_wrong l D ca za h hh fp_229 L Q hI H.size) (sl_c12_wrong_0_0_0_0_12 hts ⟨Nat.le_of_ble_eq_true rfl, Nat.le_of_ble_eq_true rfl⟩) (sl_vM_0 hA hK hP hS hZ) rfl rfl hl.1 rfl (lv_room (Nat.le_of_ble_eq_true rfl)) dX12_one_235 ⟨Nat.le_refl _, Nat.le_refl _⟩) hA hS (fun r_28 f_25 L_26 Q_27 H locs hq hP hS => ?_)
      obtain ⟨⟨hI, hk_f_25, eL9, eQ9⟩, hq, p_29, u_30⟩ := hq
      rw [eL9, eQ9] at hP; clear eL9 eQ9
      have hF : sgK WkX12_one_3 f f_25 := sgK.tr hF hk_f_25 (by decide +kernel)
      obtain ⟨v_31, ev_31⟩ : ∃ z : Int32, z = f_25 0 15 := ⟨_, rfl⟩
      have q_32 : (-1) ≤ v_31.toInt ∧ v_31.toInt ≤ 120 := by rw [ev_31]; exact hI 0 15
      have q_33 : (f_25 0 15).toInt = v_31.toInt := (congrArg Int32.toInt (show f_25 0 15 = v_31 from ev_31.symm))
      obtain rfl : r_28 = 0 := Int32.toInt_inj.mp (by have k9 : (0 : Int32).toInt = 0 := ti_0; omega)
      refine lv_goto (tgt := 242) hx hb dX12_one_238 (by decide) ?_
      have q_34 : (f_25 0 13).toInt = v_13.toInt := (congrArg Int32.toInt (show f_25 0 13 = v_13 from ((hk_f_25 0 13 (by decide)).trans ev_13.symm)))
      have q_35 : (f_25 0 16).toInt = v_16.toInt := (congrArg Int32.toInt (show f_25 0 16 = v_16 from ((hk_f_25 0 16 (by decide)).trans ev_16.symm)))
      have k99 : (0 : Int32).toInt = 0 := ti_0
      exact hret _ _ _ _ (0) f_25 L Q dX12_one_242 hP hS ⟨⟨hI, hF, rfl, rfl⟩, trivial, (by omega), (by omega), (by omega), (Eq.trans (Eq.symm (hs.trans ((if_pos c_20).trans (spl2_e u_30 (spl_e ev_31 rfl))))) hsp)⟩
  have loop_176 : ∀ (n_176 : Nat) (y3_176 : Int32) (y4_176 : Int32) (fp_176 : sg_F) (H : Heap) (locs : List Loc) (ls : Array Slot), sp = sX12_one_3_l176 n_176 y3_176 y4_176 fp_176 L → 4 - y4_176.toInt < (n_176 : Int) → (-1) ≤ (fp_176 0 15).toInt ∧ (fp_176 0 15).toInt ≤ (-1) → 0 ≤ y4_176.toInt ∧ y4_176.toInt ≤ 4 → (f 0 13).toInt ≤ (fp_176 0 13).toInt → 3 ≤ (fp_176 0 16).toInt → 0 ≤ (fp_176 0 15).toInt ∨ (fp_176 0 16).toInt = 3 → sgI loM hiM fp_176 → sgK WkX12_one_3 f fp_176 → va_P D vwCl (sgw 26 h (eM ca h) fp_176 L Q) H → va_S (sgA 26 h s.heap.size) s.heap H locs → lv_has ls 5 [(0, .ref (h 0)), (3, .int y3_176), (4, .int y4_176)] → W p l e ({ frames := 19, cells := 0, slots := 0, locals := 431 }) s m ([.ref (h 0)] : List Value).toArray below meth cd H locs 0 0 Qz (F0 m 176 ls []) := by
    intro n_176
    induction n_176 with
    | zero => intro y3_176 y4_176 fp_176 H locs ls hs hm_176 hy0_176 hy1_176 hg0_176 hg1_176 hg2_176 hI hF hP hS hl; exact absurd hm_176 (by omega)
    | succ n_176 ih_176 =>
      intro y3_176 y4_176 fp_176 H locs ls hs hm_176 hy0_176 hy1_176 hg0_176 hg1_176 hg2_176 hI hF hP hS hl
      have hs : sp = sX12_one_3_h176 (sX12_one_3_l176 n_176) y3_176 y4_176 fp_176 L := hs
      obtain ⟨v_38, ev_38⟩ : ∃ z : Int32, z = fp_176 0 15 := ⟨_, rfl⟩
      have q_39 : (-1) ≤ v_38.toInt ∧ v_38.toInt ≤ 120 := by rw [ev_38]; exact hI 0 15
      have q_40 : (fp_176 0 15).toInt = v_38.toInt := by rw [ev_38]
      obtain ⟨v_41, ev_41⟩ : ∃ z : Int32, z = fp_176 0 13 := ⟨_, rfl⟩
      have q_42 : 0 ≤ v_41.toInt ∧ v_41.toInt ≤ 120 := by rw [ev_41]; exact hI 0 13
      have q_43 : (fp_176 0 13).toInt = v_41.toInt := by rw [ev_41]
      obtain ⟨v_44, ev_44⟩ : ∃ z : Int32, z = fp_176 0 16 := ⟨_, rfl⟩
      replace hs := hs.trans (spl_e ev_38 (spl_e ev_41 (spl_e ev_44 rfl)))
      have q_45 : 0 ≤ v_44.toInt ∧ v_44.toInt ≤ 6 := by rw [ev_44]; exact hI 0 16
      have q_46 : (fp_176 0 16).toInt = v_44.toInt := by rw [ev_44]
      refine lv_iload hx hb dX12_one_176 (lv_at hl 2 rfl) ?_
      refine lv_iconst (v := 4) hx hb dX12_one_178 ic_4 ?_
      refine lv_icmp_ge (tgt := 229) hx hb dX12_one_179 (by decide) (fun c => ?_) (fun c => ?_)
      · skip
        have c_47 : 4 ≤ y4_176.toInt := (by first | exact (cm_le0 ti_4 c) | (have z := bn_le c; have k1 : (4 : Int32).toInt = 4 := ti_4; omega))
        exact blk_229 y3_176 y4_176 fp_176 _ _ _ (hs.trans ((if_neg (Int.not_lt.mpr c_47)).trans rfl)) (by have zz0_15 : (fp_176 0 15).toInt = v_38.toInt := (congrArg Int32.toInt (show fp_176 0 15 = v_38 from ev_38.symm)); exact ⟨by omega, by omega⟩) hy1_176 (by have zz0_13 : (fp_176 0 13).toInt = v_41.toInt := (congrArg Int32.toInt (show fp_176 0 13 = v_41 from ev_41.symm)); omega) (by have zz0_16 : (fp_176 0 16).toInt = v_44.toInt := (congrArg Int32.toInt (show fp_176 0 16 = v_44 from ev_44.symm)); omega) (by have zz0_15 : (fp_176 0 15).toInt = v_38.toInt := (congrArg Int32.toInt (show fp_176 0 15 = v_38 from ev_38.symm)); have zz0_16 : (fp_176 0 16).toInt = v_44.toInt := (congrArg Int32.toInt (show fp_176 0 16 = v_44 from ev_44.symm)); omega) hI hF hP hS (lv_sub hl [0, 1, 2] rfl)
      · skip
        have c_48 : y4_176.toInt < 4 := (by first | exact (cm_nle0 ti_4 c) | (have z := bn_nle c; have k1 : (4 : Int32).toInt = 4 := ti_4; omega))
        refine lv_aload_n hx hb dX12_one_182 rfl (lv_at hl 0 rfl) ?_
        obtain ⟨v_50, ev_50⟩ : ∃ z : Int32, z = fp_176 0 14 := ⟨_, rfl⟩
        have q_51 : 0 ≤ v_50.toInt ∧ v_50.toInt ≤ 120 := by rw [ev_50]; exact hI 0 14
        have q_52 : (fp_176 0 14).toInt = v_50.toInt := (congrArg Int32.toInt (show fp_176 0 14 = v_50 from ev_50.symm))
        refine sg_calli (va_runV (As := []) (rest := []) ⟨hx, hb, hml, hown, hts⟩ (kX12_byteAt l D ca za h hh fp_176 L Q hI H.size) (sl_c12_byteAt_0_0_0_0_12 hts ⟨Nat.le_of_ble_eq_true rfl, Nat.le_of_ble_eq_true rfl⟩) (sl_vM_0 hA hK hP hS hZ) rfl rfl hl.1 rfl (lv_room (Nat.le_of_ble_eq_true rfl)) dX12_one_183 ⟨Nat.le_refl _, Nat.le_refl _⟩) hA hS (fun r_56 f_53 L_54 Q_55 H locs hq hP hS => ?_)
        obtain ⟨⟨ef9, eL9, eQ9⟩, hq, p_57, u_58⟩ := hq
        replace hs := hs.trans ((if_pos c_48).trans (spl_e ev_50 (spl_e u_58 rfl)))
        rw [ef9, eL9, eQ9] at hP; clear ef9 eL9 eQ9
        refine lv_bipush (v := 48) hx hb dX12_one_186 bp_48 ?_
        refine lv_icmp_lt (tgt := 229) hx hb dX12_one_188 (by decide) (fun c => ?_) (fun c => ?_)
        · skip
          have c_59 : r_56.toInt < 48 := (by first | exact (cm_lt1 ti_48 c) | (have z := bn_lt c; have k1 : (48 : Int32).toInt = 48 := ti_48; omega))
          exact blk_229 y3_176 y4_176 fp_176 _ _ _ (hs.trans ((if_pos c_59).trans rfl)) (by have zz0_15 : (fp_176 0 15).toInt = v_38.toInt := (congrArg Int32.toInt (show fp_176 0 15 = v_38 from ev_38.symm)); exact ⟨by omega, by omega⟩) hy1_176 (by have zz0_13 : (fp_176 0 13).toInt = v_41.toInt := (congrArg Int32.toInt (show fp_176 0 13 = v_41 from ev_41.symm)); omega) (by have zz0_16 : (fp_176 0 16).toInt = v_44.toInt := (congrArg Int32.toInt (show fp_176 0 16 = v_44 from ev_44.symm)); omega) (by have zz0_15 : (fp_176 0 15).toInt = v_38.toInt := (congrArg Int32.toInt (show fp_176 0 15 = v_38 from ev_38.symm)); have zz0_16 : (fp_176 0 16).toInt = v_44.toInt := (congrArg Int32.toInt (show fp_176 0 16 = v_44 from ev_44.symm)); omega) hI hF hP hS (lv_sub hl [0, 1, 2] rfl)
        · skip
          have c_60 : 48 ≤ r_56.toInt := (by first | exact (cm_nlt1 ti_48 c) | (have z := bn_nlt c; have k1 : (48 : Int32).toInt = 48 := ti_48; omega))
          replace hs := hs.trans ((if_neg (Int.not_lt.mpr c_60)).trans rfl)
          refine lv_aload_n hx hb dX12_one_191 rfl (lv_at hl 0 rfl) ?_
          refine sg_calli (va_runV (As := []) (rest := []) ⟨hx, hb, hml, hown, hts⟩ (kX12_byteAt l D ca za h hh fp_176 L Q hI H.size) (sl_c12_byteAt_0_0_0_0_12 hts ⟨Nat.le_of_ble_eq_true rfl, Nat.le_of_ble_eq_true rfl⟩) (sl_vM_0 hA hK hP hS hZ) rfl rfl hl.1 rfl (lv_room (Nat.le_of_ble_eq_true rfl)) dX12_one_192 ⟨Nat.le_refl _, Nat.le_refl _⟩) hA hS (fun r_66 f_63 L_64 Q_65 H locs hq hP hS => ?_)
          obtain ⟨⟨ef9, eL9, eQ9⟩, hq, p_67, u_68⟩ := hq
          rw [ef9, eL9, eQ9] at hP; clear ef9 eL9 eQ9
          rw [show r_66 = r_56 from u_68.trans u_58.symm]
          refine lv_bipush (v := 57) hx hb dX12_one_195 bp_57 ?_
          refine lv_icmp_gt (tgt := 229) hx hb dX12_one_197 (by decide) (fun c => ?_) (fun c => ?_)
          · skip
            have c_69 : 57 < r_56.toInt := (by first | exact (cm_lt0 ti_57 c) | (have z := bn_lt c; have k1 : (57 : Int32).toInt = 57 := ti_57; omega))
            exact blk_229 y3_176 y4_176 fp_176 _ _ _ (hs.trans ((if_pos c_69).trans rfl)) (by have zz0_15 : (fp_176 0 15).toInt = v_38.toInt := (congrArg Int32.toInt (show fp_176 0 15 = v_38 from ev_38.symm)); exact ⟨by omega, by omega⟩) hy1_176 (by have zz0_13 : (fp_176 0 13).toInt = v_41.toInt := (congrArg Int32.toInt (show fp_176 0 13 = v_41 from ev_41.symm)); omega) (by have zz0_16 : (fp_176 0 16).toInt = v_44.toInt := (congrArg Int32.toInt (show fp_176 0 16 = v_44 from ev_44.symm)); omega) (by have zz0_15 : (fp_176 0 15).toInt = v_38.toInt := (congrArg Int32.toInt (show fp_176 0 15 = v_38 from ev_38.symm)); have zz0_16 : (fp_176 0 16).toInt = v_44.toInt := (congrArg Int32.toInt (show fp_176 0 16 = v_44 from ev_44.symm)); omega) hI hF hP hS (lv_sub hl [0, 1, 2] rfl)
          · skip
            have c_70 : r_56.toInt ≤ 57 := (by first | exact (cm_nlt0 ti_57 c) | (have z := bn_nlt c; have k1 : (57 : Int32).toInt = 57 := ti_57; omega))
            refine lv_bipush (v := 10) hx hb dX12_one_200 bp_10 ?_
            refine lv_iload_n hx hb dX12_one_202 rfl (lv_at hl 1 rfl) ?_
            refine lv_imul hx hb dX12_one_203 ?_
            refine lv_topi (fun v_71 ev_71 => ?_)
            refine lv_aload_n hx hb dX12_one_204 rfl (lv_at hl 0 rfl) ?_
            refine sg_calli (va_runV (As := []) (rest := [.int v_71]) ⟨hx, hb, hml, hown, hts⟩ (kX12_byteAt l D ca za h hh fp_176 L Q hI H.size) (sl_c12_byteAt_0_0_0_0_12 hts ⟨Nat.le_of_ble_eq_true rfl, Nat.le_of_ble_eq_true rfl⟩) (sl_vM_0 hA hK hP hS hZ) rfl rfl hl.1 rfl (lv_room (Nat.le_of_ble_eq_true rfl)) dX12_one_205 ⟨Nat.le_refl _, Nat.le_refl _⟩) hA hS (fun r_77 f_74 L_75 Q_76 H locs hq hP hS => ?_)
            obtain ⟨⟨ef9, eL9, eQ9⟩, hq, p_78, u_79⟩ := hq
            rw [ef9, eL9, eQ9] at hP; clear ef9 eL9 eQ9
            rw [show r_77 = r_56 from u_79.trans u_58.symm]
            refine lv_iadd hx hb dX12_one_208 ?_
            refine lv_topi (fun v_80 ev_80 => ?_)
            refine lv_bipush (v := 48) hx hb dX12_one_209 bp_48 ?_
            refine lv_isub hx hb dX12_one_211 ?_
            refine lv_topi (fun v_81 ev_81 => ?_)
            refine lv_istore_n (lv' := [(3, .int v_81), (0, .ref (h 0)), (4, .int y4_176)]) hx hb dX12_one_212 rfl hl (by decide) rfl (fun ls hl => ?_)
            obtain ⟨v_82, ev_82⟩ : ∃ z : Int32, z = y4_176 + 1 := ⟨_, rfl⟩
            have q_83 : v_82.toInt = y4_176.toInt + 1 := by rw [ev_82]; exact (bn_addc y4_176 1 (by decide) (by omega) (by omega))
            refine lv_iinc (v := v_82) (lv' := [(4, .int v_82), (3, .int v_81), (0, .ref (h 0))]) hx hb dX12_one_213 hl (k := 2) rfl (by rw [ev_82]; rfl) (by decide) rfl (fun ls hl => ?_)
            refine lv_aload_n hx hb dX12_one_216 rfl (lv_at hl 2 rfl) ?_
            refine lv_dup hx hb dX12_one_217 rfl ?_
            refine sl_gM_0_13_12 (v := v_41) hx hb hts hown hK hP (show fp_176 0 13 = v_41 from ev_41.symm) dX12_one_218 ?_
            refine lv_iconst (v := 1) hx hb dX12_one_221 ic_1 ?_
            refine lv_iadd hx hb dX12_one_222 ?_
            refine lv_topi (fun v_84 ev_84 => ?_)
            have q_85 : v_84.toInt = v_41.toInt + 1 := by rw [ev_84]; first | exact cm_add ti_1 (by omega) (by omega) | (have k1 : (1 : Int32).toInt = 1 := ti_1; exact (bn_addI (by omega) (by omega)).trans (by omega))
            refine sl_pM_0_13_12 (x := v_84) hx hb hts hown hh hA hK hP hS dX12_one_223 (fun f_86 H locs ef_86 hP hS => ?_)
            have hI : sgI loM hiM f_86 := by rw [ef_86]; exact sgI.put hI 0 13 (show 0 ≤ (v_84 : Int32).toInt ∧ (v_84 : Int32).toInt ≤ 120 from ⟨by omega, by omega⟩)
            have hF : sgK WkX12_one_3 f f_86 := sgK.put hF ef_86 (by rfl)
            refine lv_goto (tgt := 176) hx hb dX12_one_226 (by decide) ?_
            exact ih_176 v_81 v_82 f_86 _ _ _ (hs.trans ((if_neg (Int.not_lt.mpr c_70)).trans (spl_e ev_71 (spl_e ev_80 (spl_e ev_81 (spl_e ev_82 (spl_e ev_84 (spl_e ef_86 rfl)))))))) (by omega) (by have zz0_15 : (f_86 0 15).toInt = v_38.toInt := (congrArg Int32.toInt (show f_86 0 15 = v_38 from (by rw [ef_86, sg_up_s, sgu_n (by decide)]; exact ev_38.symm))); exact ⟨by omega, by omega⟩) ⟨by omega, by omega⟩ (by have zz0_13 : (f_86 0 13).toInt = v_84.toInt := (congrArg Int32.toInt (show f_86 0 13 = v_84 from (by rw [ef_86, sg_up_s, sgu_s]))); omega) (by have zz0_16 : (f_86 0 16).toInt = v_44.toInt := (congrArg Int32.toInt (show f_86 0 16 = v_44 from (by rw [ef_86, sg_up_s, sgu_n (by decide)]; exact ev_44.symm))); omega) (by have zz0_15 : (f_86 0 15).toInt = v_38.toInt := (congrArg Int32.toInt (show f_86 0 15 = v_38 from (by rw [ef_86, sg_up_s, sgu_n (by decide)]; exact ev_38.symm))); have zz0_16 : (f_86 0 16).toInt = v_44.toInt := (congrArg Int32.toInt (show f_86 0 16 = v_44 from (by rw [ef_86, sg_up_s, sgu_n (by decide)]; exact ev_44.symm))); omega) hI hF hP hS (lv_sub hl [2, 1, 0] rfl)
  refine lv_aload_n hx hb dX12_one_0 rfl (lv_at hl 0 rfl) ?_
  refine sl_gM_0_15_12 (v := v_3) hx hb hts hown hK hP (show f 0 15 = v_3 from ev_3.symm) dX12_one_1 ?_
  refine lv_if_lt (tgt := 9) hx hb dX12_one_4 (by decide) (fun c => ?_) (fun c => ?_)
  · skip
    have c_87 : v_3.toInt < 0 := (by first | exact (cm_lt1 ti_0 c) | (have z := bn_lt c; have k1 : (0 : Int32).toInt = 0 := ti_0; omega))
    refine lv_aload_n hx hb dX12_one_9 rfl (lv_at hl 0 rfl) ?_
    have q_89 : (f 0 13).toInt = v_5.toInt := (congrArg Int32.toInt (show f 0 13 = v_5 from ev_5.symm))
    obtain ⟨v_90, ev_90⟩ : ∃ z : Int32, z = f 0 14 := ⟨_, rfl⟩
    have q_91 : 0 ≤ v_90.toInt ∧ v_90.toInt ≤ 120 := by rw [ev_90]; exact hI 0 14
    have q_92 : (f 0 14).toInt = v_90.toInt := (congrArg Int32.toInt (show f 0 14 = v_90 from ev_90.symm))
    refine sg_calli (va_runV (As := []) (rest := []) ⟨hx, hb, hml, hown, hts⟩ (kX12_byteAt l D ca za h hh f L Q hI H.size) (sl_c12_byteAt_0_0_0_0_12 hts ⟨Nat.le_of_ble_eq_true rfl, Nat.le_of_ble_eq_true rfl⟩) (sl_vM_0 hA hK hP hS hZ) rfl rfl hl.1 rfl (lv_room (Nat.le_of_ble_eq_true rfl)) dX12_one_10 ⟨Nat.le_refl _, Nat.le_refl _⟩) hA hS (fun r_96 f_93 L_94 Q_95 H locs hq hP hS => ?_)
    obtain ⟨⟨ef9, eL9, eQ9⟩, hq, p_97, u_98⟩ := hq
    replace hs := hs.trans ((if_pos c_87).trans (spl_e ev_90 (spl_e u_98 rfl)))
    rw [ef9, eL9, eQ9] at hP; clear ef9 eL9 eQ9
    refine lv_istore_n (lv' := [(1, .int r_96), (0, .ref (h 0))]) hx hb dX12_one_13 rfl hl (by decide) rfl (fun ls hl => ?_)
    refine lv_iload_n hx hb dX12_one_14 rfl (lv_at hl 0 rfl) ?_
    refine lv_bipush (v := 33) hx hb dX12_one_15 bp_33 ?_
    refine lv_icmp_eq (tgt := 32) hx hb dX12_one_17 (by decide) (fun c => ?_) (fun c => ?_)
    · skip
      have c_99 : r_96.toInt = 33 := (by first | exact (cm_eq1 ti_33 c) | (have z := Int32.toInt_inj.mpr c; have k1 : (33 : Int32).toInt = 33 := ti_33; omega))
      refine lv_aload_n hx hb dX12_one_32 rfl (lv_at hl 1 rfl) ?_
      have c_101 : v_1 = 3 := Int32.toInt_inj.mp (by have k9 : (3 : Int32).toInt = 3 := ti_3; omega)
      refine sl_gM_0_16_12 (v := 3) hx hb hts hown hK hP (show f 0 16 = 3 from (Eq.trans ev_1.symm c_101)) dX12_one_33 ?_
      refine lv_bipush (v := 6) hx hb dX12_one_36 bp_6 ?_
      refine lv_icmp_ne (tgt := 46) hx hb dX12_one_38 (by decide) (fun c => ?_) (fun c => absurd c (by decide))
      refine lv_aload_n hx hb dX12_one_46 rfl (lv_at hl 1 rfl) ?_
      refine lv_dup hx hb dX12_one_47 rfl ?_
      refine sl_gM_0_16_12 (v := 3) hx hb hts hown hK hP (show f 0 16 = 3 from (Eq.trans ev_1.symm c_101)) dX12_one_48 ?_
      refine lv_iconst (v := 1) hx hb dX12_one_51 ic_1 ?_
      refine lv_iadd hx hb dX12_one_52 ?_
      refine W.eq (g2 := F0 m 53 ls [.int 4, .ref (h 0)]) (by rw [show (3 + 1 : Int32) = 4 from by decide]) ?_
      refine sl_pM_0_16_12 (x := 4) hx hb hts hown hh hA hK hP hS dX12_one_53 (fun f_102 H locs ef_102 hP hS => ?_)
      have hI : sgI loM hiM f_102 := by rw [ef_102]; exact sgI.put hI 0 16 (show 0 ≤ (4 : Int32).toInt ∧ (4 : Int32).toInt ≤ 6 from by decide)
      have hF : sgK WkX12_one_3 f f_102 := sgK.put hF ef_102 (by rfl)
      refine lv_aload_n hx hb dX12_one_56 rfl (lv_at hl 1 rfl) ?_
      refine lv_dup hx hb dX12_one_57 rfl ?_
      refine sl_gM_0_13_12 (v := v_5) hx hb hts hown hK hP (show f_102 0 13 = v_5 from (by rw [ef_102, sg_up_s, sgu_n (by decide)]; exact ev_5.symm)) dX12_one_58 ?_
      refine lv_iconst (v := 1) hx hb dX12_one_61 ic_1 ?_
      refine lv_iadd hx hb dX12_one_62 ?_
      refine lv_topi (fun v_103 ev_103 => ?_)
      have q_104 : v_103.toInt = v_5.toInt + 1 := by rw [ev_103]; first | exact cm_add ti_1 (by omega) (by omega) | (have k1 : (1 : Int32).toInt = 1 := ti_1; exact (bn_addI (by omega) (by omega)).trans (by omega))
      refine sl_pM_0_13_12 (x := v_103) hx hb hts hown hh hA hK hP hS dX12_one_63 (fun f_105 H locs ef_105 hP hS => ?_)
      have hI : sgI loM hiM f_105 := by rw [ef_105]; exact sgI.put hI 0 13 (show 0 ≤ (v_103 : Int32).toInt ∧ (v_103 : Int32).toInt ≤ 120 from ⟨by omega, by omega⟩)
      have hF : sgK WkX12_one_3 f f_105 := sgK.put hF ef_105 (by rfl)
      refine lv_iload_n hx hb dX12_one_66 rfl (lv_at hl 0 rfl) ?_
      refine lv_bipush (v := 40) hx hb dX12_one_67 bp_40 ?_
      refine lv_icmp_ne (tgt := 79) hx hb dX12_one_69 (by decide) (fun c => ?_) (fun c => ?_)
      · skip
        have c_106 : r_96.toInt ≠ 40 := (by first | exact (cm_ne1 ti_40 c) | (have z := bn_ne c; have k1 : (40 : Int32).toInt = 40 := ti_40; omega))
        refine lv_aload_n hx hb dX12_one_79 rfl (lv_at hl 1 rfl) ?_
        have q_108 : (f_105 0 16).toInt = 4 := (congrArg Int32.toInt (show f_105 0 16 = 4 from (by rw [ef_105, sg_up_s, sgu_n (by decide)]; exact (by rw [ef_102, sg_up_s, sgu_s])))).trans (by decide)
        have q_109 : (f_105 0 15).toInt = v_3.toInt := (congrArg Int32.toInt (show f_105 0 15 = v_3 from (by rw [ef_105, sg_up_s, sgu_n (by decide)]; exact (by rw [ef_102, sg_up_s, sgu_n (by decide)]; exact ev_3.symm))))
        have q_111 : (f_105 0 13).toInt = v_103.toInt := (congrArg Int32.toInt (show f_105 0 13 = v_103 from (by rw [ef_105, sg_up_s, sgu_s])))
        refine sg_calli (va_runV (As := []) (rest := []) ⟨hx, hb, hml, hown, hts⟩ (kX12_one_4 l D ca za h hh f_105 L Q hI (by omega) (by omega) H.size) (sl_c12_one_13_0_0_294_12 hts ⟨Nat.le_of_ble_eq_true rfl, Nat.le_of_ble_eq_true rfl⟩) (sl_vM_0 hA hK hP hS hZ) rfl rfl hl.1 rfl (lv_room (Nat.le_of_ble_eq_true rfl)) dX12_one_80 ⟨Nat.le_refl _, Nat.le_refl _⟩) hA hS (fun r_115 f_112 L_113 Q_114 H locs hq hP hS => ?_)
        obtain ⟨⟨hI, hk_f_112, eL9, eQ9⟩, hq, p_116, p_117, p_118, u_119⟩ := hq
        rw [eL9, eQ9] at hP; clear eL9 eQ9
        have hF : sgK WkX12_one_3 f f_112 := sgK.tr hF hk_f_112 (by decide +kernel)
        obtain ⟨v_120, ev_120⟩ : ∃ z : Int32, z = f_112 0 13 := ⟨_, rfl⟩
        have q_121 : 0 ≤ v_120.toInt ∧ v_120.toInt ≤ 120 := by rw [ev_120]; exact hI 0 13
        have q_122 : (f_112 0 13).toInt = v_120.toInt := (congrArg Int32.toInt (show f_112 0 13 = v_120 from ev_120.symm))
        obtain ⟨v_123, ev_123⟩ : ∃ z : Int32, z = f_112 0 16 := ⟨_, rfl⟩
        have q_124 : 0 ≤ v_123.toInt ∧ v_123.toInt ≤ 6 := by rw [ev_123]; exact hI 0 16
        have q_125 : (f_112 0 16).toInt = v_123.toInt := (congrArg Int32.toInt (show f_112 0 16 = v_123 from ev_123.symm))
        obtain ⟨v_126, ev_126⟩ : ∃ z : Int32, z = f_112 0 15 := ⟨_, rfl⟩
        have q_127 : (-1) ≤ v_126.toInt ∧ v_126.toInt ≤ 120 := by rw [ev_126]; exact hI 0 15
        have q_128 : (f_112 0 15).toInt = v_126.toInt := (congrArg Int32.toInt (show f_112 0 15 = v_126 from ev_126.symm))
        refine lv_istore_n (lv' := [(2, .int r_115), (1, .int r_96), (0, .ref (h 0))]) hx hb dX12_one_83 rfl hl (by decide) rfl (fun ls hl => ?_)
        refine lv_iload_n hx hb dX12_one_84 rfl (lv_at hl 1 rfl) ?_
        refine lv_bipush (v := 40) hx hb dX12_one_85 bp_40 ?_
        refine lv_icmp_ne (tgt := 104) hx hb dX12_one_87 (by decide) (fun c => ?_) (fun c => ?_)
        · skip
          have c_130 : r_96.toInt ≠ 40 := (by first | exact (cm_ne1 ti_40 c) | (have z := bn_ne c; have k1 : (40 : Int32).toInt = 40 := ti_40; omega))
          refine lv_aload_n hx hb dX12_one_104 rfl (lv_at hl 2 rfl) ?_
          refine lv_dup hx hb dX12_one_105 rfl ?_
          refine sl_gM_0_16_12 (v := v_123) hx hb hts hown hK hP (show f_112 0 16 = v_123 from ev_123.symm) dX12_one_106 ?_
          refine lv_iconst (v := 1) hx hb dX12_one_109 ic_1 ?_
          refine lv_isub hx hb dX12_one_110 ?_
          refine lv_topi (fun v_132 ev_132 => ?_)
          have q_133 : v_132.toInt = v_123.toInt - 1 := by rw [ev_132]; first | exact cm_sub ti_1 (by omega) (by omega) | (have k1 : (1 : Int32).toInt = 1 := ti_1; exact (bn_subI (by omega) (by omega)).trans (by omega))
          refine sl_pM_0_16_12 (x := v_132) hx hb hts hown hh hA hK hP hS dX12_one_111 (fun f_134 H locs ef_134 hP hS => ?_)
          replace hs := hs.trans ((if_pos c_99).trans (spl_e ef_102 (spl_e ev_103 (spl_e ef_105 (spl2_e u_119 (spl_e ev_120 (spl_e ev_123 (spl_e ev_126 (spl_e ev_132 (spl_e ef_134 rfl))))))))))
          have hI : sgI loM hiM f_134 := by rw [ef_134]; exact sgI.put hI 0 16 (show 0 ≤ (v_132 : Int32).toInt ∧ (v_132 : Int32).toInt ≤ 6 from ⟨by omega, by omega⟩)
          have hF : sgK WkX12_one_3 f f_134 := sgK.put hF ef_134 (by rfl)
          refine lv_iload_n hx hb dX12_one_114 rfl (lv_at hl 1 rfl) ?_
          refine lv_bipush (v := 40) hx hb dX12_one_115 bp_40 ?_
          refine lv_icmp_ne (tgt := 124) hx hb dX12_one_117 (by decide) (fun c => ?_) (fun c => ?_)
          · skip
            have c_135 : r_96.toInt ≠ 40 := (by first | exact (cm_ne1 ti_40 c) | (have z := bn_ne c; have k1 : (40 : Int32).toInt = 40 := ti_40; omega))
            refine lv_iload_n hx hb dX12_one_124 rfl (lv_at hl 1 rfl) ?_
            refine lv_bipush (v := 45) hx hb dX12_one_125 bp_45 ?_
            refine lv_icmp_ne (tgt := 135) hx hb dX12_one_127 (by decide) (fun c => ?_) (fun c => ?_)
            · skip
              have c_137 : r_96.toInt ≠ 45 := (by first | exact (cm_ne1 ti_45 c) | (have z := bn_ne c; have k1 : (45 : Int32).toInt = 45 := ti_45; omega))
              refine lv_iload_n hx hb dX12_one_135 rfl (lv_at hl 0 rfl) ?_
              refine lv_if_ne (tgt := 143) hx hb dX12_one_136 (by decide) (fun c => ?_) (fun c => ?_)
              · skip
                have c_139 : r_115.toInt ≠ 0 := (by first | exact (cm_ne1 ti_0 c) | (have z := bn_ne c; have k1 : (0 : Int32).toInt = 0 := ti_0; omega))
                refine lv_iconst (v := 0) hx hb dX12_one_143 ic_0 ?_
                have q_141 : (f_134 0 13).toInt = v_120.toInt := (congrArg Int32.toInt (show f_134 0 13 = v_120 from (by rw [ef_134, sg_up_s, sgu_n (by decide)]; exact ev_120.symm)))
                have q_142 : (f_134 0 16).toInt = v_132.toInt := (congrArg Int32.toInt (show f_134 0 16 = v_132 from (by rw [ef_134, sg_up_s, sgu_s])))
                have q_143 : (f_134 0 15).toInt = v_126.toInt := (congrArg Int32.toInt (show f_134 0 15 = v_126 from (by rw [ef_134, sg_up_s, sgu_n (by decide)]; exact ev_126.symm)))
                have k99 : (0 : Int32).toInt = 0 := ti_0
                exact hret _ _ _ _ (0) f_134 L Q dX12_one_144 hP hS ⟨⟨hI, hF, rfl, rfl⟩, trivial, (by omega), (by omega), (by omega), (Eq.trans (Eq.symm (hs.trans ((if_neg c_139).trans rfl))) hsp)⟩
              · skip
                have c_140 : r_115.toInt = 0 := (by first | exact (cm_eq1 ti_0 c) | (have z := Int32.toInt_inj.mpr c; have k1 : (0 : Int32).toInt = 0 := ti_0; omega))
                refine lv_iconst (v := 1) hx hb dX12_one_139 ic_1 ?_
                refine lv_goto (tgt := 144) hx hb dX12_one_140 (by decide) ?_
                have q_145 : (f_134 0 13).toInt = v_120.toInt := (congrArg Int32.toInt (show f_134 0 13 = v_120 from (by rw [ef_134, sg_up_s, sgu_n (by decide)]; exact ev_120.symm)))
                have q_146 : (f_134 0 16).toInt = v_132.toInt := (congrArg Int32.toInt (show f_134 0 16 = v_132 from (by rw [ef_134, sg_up_s, sgu_s])))
                have q_147 : (f_134 0 15).toInt = v_126.toInt := (congrArg Int32.toInt (show f_134 0 15 = v_126 from (by rw [ef_134, sg_up_s, sgu_n (by decide)]; exact ev_126.symm)))
                have k99 : (1 : Int32).toInt = 1 := ti_1
                exact hret _ _ _ _ (1) f_134 L Q dX12_one_144 hP hS ⟨⟨hI, hF, rfl, rfl⟩, trivial, (by omega), (by omega), (by omega), (Eq.trans (Eq.symm (hs.trans ((if_pos c_140).trans rfl))) hsp)⟩
            · skip
              exfalso; have c_138 : r_96.toInt = 45 := (by first | exact (cm_eq1 ti_45 c) | (have z := Int32.toInt_inj.mpr c; have k1 : (45 : Int32).toInt = 45 := ti_45; omega)); first | exact absurd c_138 (by assumption) | omega
          · skip
            exfalso; have c_136 : r_96.toInt = 40 := (by first | exact (cm_eq1 ti_40 c) | (have z := Int32.toInt_inj.mpr c; have k1 : (40 : Int32).toInt = 40 := ti_40; omega)); first | exact absurd c_136 (by assumption) | omega
        · skip
          exfalso; have c_131 : r_96.toInt = 40 := (by first | exact (cm_eq1 ti_40 c) | (have z := Int32.toInt_inj.mpr c; have k1 : (40 : Int32).toInt = 40 := ti_40; omega)); first | exact absurd c_131 (by assumption) | omega
      · skip
        exfalso; have c_107 : r_96.toInt = 40 := (by first | exact (cm_eq1 ti_40 c) | (have z := Int32.toInt_inj.mpr c; have k1 : (40 : Int32).toInt = 40 := ti_40; omega)); first | exact absurd c_107 (by assumption) | omega
    · skip
      have c_100 : r_96.toInt ≠ 33 := (by first | exact (cm_ne1 ti_33 c) | (have z := bn_ne c; have k1 : (33 : Int32).toInt = 33 := ti_33; omega))
      replace hs := hs.trans ((if_neg c_100).trans rfl)
      refine lv_iload_n hx hb dX12_one_20 rfl (lv_at hl 0 rfl) ?_
      refine lv_bipush (v := 45) hx hb dX12_one_21 bp_45 ?_
      refine lv_icmp_eq (tgt := 32) hx hb dX12_one_23 (by decide) (fun c => ?_) (fun c => ?_)
      · skip
        have c_149 : r_96.toInt = 45 := (by first | exact (cm_eq1 ti_45 c) | (have z := Int32.toInt_inj.mpr c; have k1 : (45 : Int32).toInt = 45 := ti_45; omega))
        refine lv_aload_n hx hb dX12_one_32 rfl (lv_at hl 1 rfl) ?_
        have c_151 : v_1 = 3 := Int32.toInt_inj.mp (by have k9 : (3 : Int32).toInt = 3 := ti_3; omega)
        refine sl_gM_0_16_12 (v := 3) hx hb hts hown hK hP (show f 0 16 = 3 from (Eq.trans ev_1.symm c_151)) dX12_one_33 ?_
        refine lv_bipush (v := 6) hx hb dX12_one_36 bp_6 ?_
        refine lv_icmp_ne (tgt := 46) hx hb dX12_one_38 (by decide) (fun c => ?_) (fun c => absurd c (by decide))
        refine lv_aload_n hx hb dX12_one_46 rfl (lv_at hl 1 rfl) ?_
        refine lv_dup hx hb dX12_one_47 rfl ?_
        refine sl_gM_0_16_12 (v := 3) hx hb hts hown hK hP (show f 0 16 = 3 from (Eq.trans ev_1.symm c_151)) dX12_one_48 ?_
        refine lv_iconst (v := 1) hx hb dX12_one_51 ic_1 ?_
        refine lv_iadd hx hb dX12_one_52 ?_
        refine W.eq (g2 := F0 m 53 ls [.int 4, .ref (h 0)]) (by rw [show (3 + 1 : Int32) = 4 from by decide]) ?_
        refine sl_pM_0_16_12 (x := 4) hx hb hts hown hh hA hK hP hS dX12_one_53 (fun f_152 H locs ef_152 hP hS => ?_)
        have hI : sgI loM hiM f_152 := by rw [ef_152]; exact sgI.put hI 0 16 (show 0 ≤ (4 : Int32).toInt ∧ (4 : Int32).toInt ≤ 6 from by decide)
        have hF : sgK WkX12_one_3 f f_152 := sgK.put hF ef_152 (by rfl)
        refine lv_aload_n hx hb dX12_one_56 rfl (lv_at hl 1 rfl) ?_
        refine lv_dup hx hb dX12_one_57 rfl ?_
        refine sl_gM_0_13_12 (v := v_5) hx hb hts hown hK hP (show f_152 0 13 = v_5 from (by rw [ef_152, sg_up_s, sgu_n (by decide)]; exact ev_5.symm)) dX12_one_58 ?_
        refine lv_iconst (v := 1) hx hb dX12_one_61 ic_1 ?_
        refine lv_iadd hx hb dX12_one_62 ?_
        refine lv_topi (fun v_153 ev_153 => ?_)
        have q_154 : v_153.toInt = v_5.toInt + 1 := by rw [ev_153]; first | exact cm_add ti_1 (by omega) (by omega) | (have k1 : (1 : Int32).toInt = 1 := ti_1; exact (bn_addI (by omega) (by omega)).trans (by omega))
        refine sl_pM_0_13_12 (x := v_153) hx hb hts hown hh hA hK hP hS dX12_one_63 (fun f_155 H locs ef_155 hP hS => ?_)
        have hI : sgI loM hiM f_155 := by rw [ef_155]; exact sgI.put hI 0 13 (show 0 ≤ (v_153 : Int32).toInt ∧ (v_153 : Int32).toInt ≤ 120 from ⟨by omega, by omega⟩)
        have hF : sgK WkX12_one_3 f f_155 := sgK.put hF ef_155 (by rfl)
        refine lv_iload_n hx hb dX12_one_66 rfl (lv_at hl 0 rfl) ?_
        refine lv_bipush (v := 40) hx hb dX12_one_67 bp_40 ?_
        refine lv_icmp_ne (tgt := 79) hx hb dX12_one_69 (by decide) (fun c => ?_) (fun c => ?_)
        · skip
          have c_156 : r_96.toInt ≠ 40 := (by first | exact (cm_ne1 ti_40 c) | (have z := bn_ne c; have k1 : (40 : Int32).toInt = 40 := ti_40; omega))
          refine lv_aload_n hx hb dX12_one_79 rfl (lv_at hl 1 rfl) ?_
          have q_158 : (f_155 0 16).toInt = 4 := (congrArg Int32.toInt (show f_155 0 16 = 4 from (by rw [ef_155, sg_up_s, sgu_n (by decide)]; exact (by rw [ef_152, sg_up_s, sgu_s])))).trans (by decide)
          have q_159 : (f_155 0 15).toInt = v_3.toInt := (congrArg Int32.toInt (show f_155 0 15 = v_3 from (by rw [ef_155, sg_up_s, sgu_n (by decide)]; exact (by rw [ef_152, sg_up_s, sgu_n (by decide)]; exact ev_3.symm))))
          have q_161 : (f_155 0 13).toInt = v_153.toInt := (congrArg Int32.toInt (show f_155 0 13 = v_153 from (by rw [ef_155, sg_up_s, sgu_s])))
          refine sg_calli (va_runV (As := []) (rest := []) ⟨hx, hb, hml, hown, hts⟩ (kX12_one_4 l D ca za h hh f_155 L Q hI (by omega) (by omega) H.size) (sl_c12_one_13_0_0_294_12 hts ⟨Nat.le_of_ble_eq_true rfl, Nat.le_of_ble_eq_true rfl⟩) (sl_vM_0 hA hK hP hS hZ) rfl rfl hl.1 rfl (lv_room (Nat.le_of_ble_eq_true rfl)) dX12_one_80 ⟨Nat.le_refl _, Nat.le_refl _⟩) hA hS (fun r_165 f_162 L_163 Q_164 H locs hq hP hS => ?_)
          obtain ⟨⟨hI, hk_f_162, eL9, eQ9⟩, hq, p_166, p_167, p_168, u_169⟩ := hq
          rw [eL9, eQ9] at hP; clear eL9 eQ9
          have hF : sgK WkX12_one_3 f f_162 := sgK.tr hF hk_f_162 (by decide +kernel)
          obtain ⟨v_170, ev_170⟩ : ∃ z : Int32, z = f_162 0 13 := ⟨_, rfl⟩
          have q_171 : 0 ≤ v_170.toInt ∧ v_170.toInt ≤ 120 := by rw [ev_170]; exact hI 0 13
          have q_172 : (f_162 0 13).toInt = v_170.toInt := (congrArg Int32.toInt (show f_162 0 13 = v_170 from ev_170.symm))
          obtain ⟨v_173, ev_173⟩ : ∃ z : Int32, z = f_162 0 16 := ⟨_, rfl⟩
          have q_174 : 0 ≤ v_173.toInt ∧ v_173.toInt ≤ 6 := by rw [ev_173]; exact hI 0 16
          have q_175 : (f_162 0 16).toInt = v_173.toInt := (congrArg Int32.toInt (show f_162 0 16 = v_173 from ev_173.symm))
          obtain ⟨v_176, ev_176⟩ : ∃ z : Int32, z = f_162 0 15 := ⟨_, rfl⟩
          have q_177 : (-1) ≤ v_176.toInt ∧ v_176.toInt ≤ 120 := by rw [ev_176]; exact hI 0 15
          have q_178 : (f_162 0 15).toInt = v_176.toInt := (congrArg Int32.toInt (show f_162 0 15 = v_176 from ev_176.symm))
          refine lv_istore_n (lv' := [(2, .int r_165), (1, .int r_96), (0, .ref (h 0))]) hx hb dX12_one_83 rfl hl (by decide) rfl (fun ls hl => ?_)
          refine lv_iload_n hx hb dX12_one_84 rfl (lv_at hl 1 rfl) ?_
          refine lv_bipush (v := 40) hx hb dX12_one_85 bp_40 ?_
          refine lv_icmp_ne (tgt := 104) hx hb dX12_one_87 (by decide) (fun c => ?_) (fun c => ?_)
          · skip
            have c_180 : r_96.toInt ≠ 40 := (by first | exact (cm_ne1 ti_40 c) | (have z := bn_ne c; have k1 : (40 : Int32).toInt = 40 := ti_40; omega))
            refine lv_aload_n hx hb dX12_one_104 rfl (lv_at hl 2 rfl) ?_
            refine lv_dup hx hb dX12_one_105 rfl ?_
            refine sl_gM_0_16_12 (v := v_173) hx hb hts hown hK hP (show f_162 0 16 = v_173 from ev_173.symm) dX12_one_106 ?_
            refine lv_iconst (v := 1) hx hb dX12_one_109 ic_1 ?_
            refine lv_isub hx hb dX12_one_110 ?_
            refine lv_topi (fun v_182 ev_182 => ?_)
            have q_183 : v_182.toInt = v_173.toInt - 1 := by rw [ev_182]; first | exact cm_sub ti_1 (by omega) (by omega) | (have k1 : (1 : Int32).toInt = 1 := ti_1; exact (bn_subI (by omega) (by omega)).trans (by omega))
            refine sl_pM_0_16_12 (x := v_182) hx hb hts hown hh hA hK hP hS dX12_one_111 (fun f_184 H locs ef_184 hP hS => ?_)
            have hI : sgI loM hiM f_184 := by rw [ef_184]; exact sgI.put hI 0 16 (show 0 ≤ (v_182 : Int32).toInt ∧ (v_182 : Int32).toInt ≤ 6 from ⟨by omega, by omega⟩)
            have hF : sgK WkX12_one_3 f f_184 := sgK.put hF ef_184 (by rfl)
            refine lv_iload_n hx hb dX12_one_114 rfl (lv_at hl 1 rfl) ?_
            refine lv_bipush (v := 40) hx hb dX12_one_115 bp_40 ?_
            refine lv_icmp_ne (tgt := 124) hx hb dX12_one_117 (by decide) (fun c => ?_) (fun c => ?_)
            · skip
              have c_185 : r_96.toInt ≠ 40 := (by first | exact (cm_ne1 ti_40 c) | (have z := bn_ne c; have k1 : (40 : Int32).toInt = 40 := ti_40; omega))
              refine lv_iload_n hx hb dX12_one_124 rfl (lv_at hl 1 rfl) ?_
              refine lv_bipush (v := 45) hx hb dX12_one_125 bp_45 ?_
              refine lv_icmp_ne (tgt := 135) hx hb dX12_one_127 (by decide) (fun c => ?_) (fun c => ?_)
              · skip
                exfalso; have c_187 : r_96.toInt ≠ 45 := (by first | exact (cm_ne1 ti_45 c) | (have z := bn_ne c; have k1 : (45 : Int32).toInt = 45 := ti_45; omega)); first | exact absurd (by assumption) c_187 | omega
              · skip
                have c_188 : r_96.toInt = 45 := (by first | exact (cm_eq1 ti_45 c) | (have z := Int32.toInt_inj.mpr c; have k1 : (45 : Int32).toInt = 45 := ti_45; omega))
                refine lv_iload_n hx hb dX12_one_130 rfl (lv_at hl 0 rfl) ?_
                refine lv_ineg hx hb dX12_one_131 ?_
                refine lv_topi (fun v_189 ev_189 => ?_)
                refine lv_goto (tgt := 144) hx hb dX12_one_132 (by decide) ?_
                have q_190 : (f_184 0 13).toInt = v_170.toInt := (congrArg Int32.toInt (show f_184 0 13 = v_170 from (by rw [ef_184, sg_up_s, sgu_n (by decide)]; exact ev_170.symm)))
                have q_191 : (f_184 0 16).toInt = v_182.toInt := (congrArg Int32.toInt (show f_184 0 16 = v_182 from (by rw [ef_184, sg_up_s, sgu_s])))
                have q_192 : (f_184 0 15).toInt = v_176.toInt := (congrArg Int32.toInt (show f_184 0 15 = v_176 from (by rw [ef_184, sg_up_s, sgu_n (by decide)]; exact ev_176.symm)))
                exact hret _ _ _ _ (v_189) f_184 L Q dX12_one_144 hP hS ⟨⟨hI, hF, rfl, rfl⟩, trivial, (by omega), (by omega), (by omega), (Eq.trans (Eq.symm (hs.trans ((if_pos c_149).trans (spl_e ef_152 (spl_e ev_153 (spl_e ef_155 (spl2_e u_169 (spl_e ev_170 (spl_e ev_173 (spl_e ev_176 (spl_e ev_182 (spl_e ef_184 (spl_e ev_189 rfl))))))))))))) hsp)⟩
            · skip
              exfalso; have c_186 : r_96.toInt = 40 := (by first | exact (cm_eq1 ti_40 c) | (have z := Int32.toInt_inj.mpr c; have k1 : (40 : Int32).toInt = 40 := ti_40; omega)); first | exact absurd c_186 (by assumption) | omega
          · skip
            exfalso; have c_181 : r_96.toInt = 40 := (by first | exact (cm_eq1 ti_40 c) | (have z := Int32.toInt_inj.mpr c; have k1 : (40 : Int32).toInt = 40 := ti_40; omega)); first | exact absurd c_181 (by assumption) | omega
        · skip
          exfalso; have c_157 : r_96.toInt = 40 := (by first | exact (cm_eq1 ti_40 c) | (have z := Int32.toInt_inj.mpr c; have k1 : (40 : Int32).toInt = 40 := ti_40; omega)); first | exact absurd c_157 (by assumption) | omega
      · skip
        have c_150 : r_96.toInt ≠ 45 := (by first | exact (cm_ne1 ti_45 c) | (have z := bn_ne c; have k1 : (45 : Int32).toInt = 45 := ti_45; omega))
        replace hs := hs.trans ((if_neg c_150).trans rfl)
        refine lv_iload_n hx hb dX12_one_26 rfl (lv_at hl 0 rfl) ?_
        refine lv_bipush (v := 40) hx hb dX12_one_27 bp_40 ?_
        refine lv_icmp_ne (tgt := 145) hx hb dX12_one_29 (by decide) (fun c => ?_) (fun c => ?_)
        · skip
          have c_194 : r_96.toInt ≠ 40 := (by first | exact (cm_ne1 ti_40 c) | (have z := bn_ne c; have k1 : (40 : Int32).toInt = 40 := ti_40; omega))
          refine lv_iload_n hx hb dX12_one_145 rfl (lv_at hl 0 rfl) ?_
          refine sg_calli (va_runS (As := [.int r_96]) (rest := []) ⟨hx, hb, hml, hown, hts⟩ (kX12_nameOf l D ca za h hh f L Q hI r_96 ⟨by omega, by omega⟩ H.size) (va_cwS 1 hts (gw_S (fun _ h => List.mem_cons_of_mem _ h) mw_869 mw_870 mw_619 mw_868) rfl rfl rfl hd_yX12_nameOf.2 ⟨Nat.le_of_ble_eq_true rfl, Nat.le_of_ble_eq_true rfl⟩) (sg_preS hA hK hP hS hZ) rfl rfl hl.1 rfl (lv_room (Nat.le_of_ble_eq_true rfl)) dX12_one_146 ⟨Nat.le_refl _, Nat.le_refl _⟩) hA hS (fun r_199 f_196 L_197 Q_198 H locs hq hP hS => ?_)
          obtain ⟨⟨ef9, eL9, eQ9⟩, hq, p_200, u_201⟩ := hq
          replace hs := hs.trans ((if_neg c_194).trans (spl_e u_201 rfl))
          rw [ef9, eL9, eQ9] at hP; clear ef9 eL9 eQ9
          refine lv_istore_n (lv' := [(2, .int r_199), (1, .int r_96), (0, .ref (h 0))]) hx hb dX12_one_149 rfl hl (by decide) rfl (fun ls hl => ?_)
          refine lv_iload_n hx hb dX12_one_150 rfl (lv_at hl 0 rfl) ?_
          refine lv_if_lt (tgt := 171) hx hb dX12_one_151 (by decide) (fun c => ?_) (fun c => ?_)
          · skip
            have c_202 : r_199.toInt < 0 := (by first | exact (cm_lt1 ti_0 c) | (have z := bn_lt c; have k1 : (0 : Int32).toInt = 0 := ti_0; omega))
            refine lv_iconst (v := 0) hx hb dX12_one_171 ic_0 ?_
            refine lv_istore_n (lv' := [(3, .int 0), (2, .int r_199), (1, .int r_96), (0, .ref (h 0))]) hx hb dX12_one_172 rfl hl (by decide) rfl (fun ls hl => ?_)
            refine lv_iconst (v := 0) hx hb dX12_one_173 ic_0 ?_
            refine lv_istore (lv' := [(4, .int 0), (3, .int 0), (2, .int r_199), (1, .int r_96), (0, .ref (h 0))]) hx hb dX12_one_174 hl (by decide) rfl (fun ls hl => ?_)
            exact loop_176 5 0 0 f _ _ _ (hs.trans ((if_pos c_202).trans rfl)) (by have kc0 : (0 : Int32).toInt = 0 := ti_0; have kc1 : (0 : Int32).toInt = 0 := ti_0; omega) (by have zz0_15 : (f 0 15).toInt = v_3.toInt := (congrArg Int32.toInt (show f 0 15 = v_3 from ev_3.symm)); exact ⟨by omega, by omega⟩) (by decide) (by have kc0 : (0 : Int32).toInt = 0 := ti_0; have kc1 : (0 : Int32).toInt = 0 := ti_0; have zz0_13 : (f 0 13).toInt = v_5.toInt := (congrArg Int32.toInt (show f 0 13 = v_5 from ev_5.symm)); omega) (by have kc0 : (0 : Int32).toInt = 0 := ti_0; have kc1 : (0 : Int32).toInt = 0 := ti_0; have zz0_16 : (f 0 16).toInt = v_1.toInt := (congrArg Int32.toInt (show f 0 16 = v_1 from ev_1.symm)); omega) (by have kc0 : (0 : Int32).toInt = 0 := ti_0; have kc1 : (0 : Int32).toInt = 0 := ti_0; have zz0_15 : (f 0 15).toInt = v_3.toInt := (congrArg Int32.toInt (show f 0 15 = v_3 from ev_3.symm)); have zz0_16 : (f 0 16).toInt = v_1.toInt := (congrArg Int32.toInt (show f 0 16 = v_1 from ev_1.symm)); omega) hI hF hP hS (lv_sub hl [4, 1, 0] rfl)
          · skip
            have c_203 : 0 ≤ r_199.toInt := (by first | exact (cm_nlt1 ti_0 c) | (have z := bn_nlt c; have k1 : (0 : Int32).toInt = 0 := ti_0; omega))
            refine lv_aload_n hx hb dX12_one_154 rfl (lv_at hl 2 rfl) ?_
            refine lv_dup hx hb dX12_one_155 rfl ?_
            refine sl_gM_0_13_12 (v := v_5) hx hb hts hown hK hP (show f 0 13 = v_5 from ev_5.symm) dX12_one_156 ?_
            refine lv_iconst (v := 1) hx hb dX12_one_159 ic_1 ?_
            refine lv_iadd hx hb dX12_one_160 ?_
            refine lv_topi (fun v_204 ev_204 => ?_)
            have q_205 : v_204.toInt = v_5.toInt + 1 := by rw [ev_204]; first | exact cm_add ti_1 (by omega) (by omega) | (have k1 : (1 : Int32).toInt = 1 := ti_1; exact (bn_addI (by omega) (by omega)).trans (by omega))
            refine sl_pM_0_13_12 (x := v_204) hx hb hts hown hh hA hK hP hS dX12_one_161 (fun f_206 H locs ef_206 hP hS => ?_)
            have hI : sgI loM hiM f_206 := by rw [ef_206]; exact sgI.put hI 0 13 (show 0 ≤ (v_204 : Int32).toInt ∧ (v_204 : Int32).toInt ≤ 120 from ⟨by omega, by omega⟩)
            have hF : sgK WkX12_one_3 f f_206 := sgK.put hF ef_206 (by rfl)
            refine lv_aload_n hx hb dX12_one_164 rfl (lv_at hl 2 rfl) ?_
            refine sl_gM_0_17_12 hx hb hts hown hK hP dX12_one_165 ?_
            refine lv_iload_n hx hb dX12_one_168 rfl (lv_at hl 0 rfl) ?_
            refine sg_iald hx hb hK hP 8 (by decide) 0 rfl rfl (i := r_199) (vp_in_iff.mpr ⟨by omega, by omega⟩) dX12_one_169 ?_
            refine lv_topi (fun v_207 ev_207 => ?_)
            have q_208 : 0 ≤ v_207.toInt ∧ v_207.toInt ≤ 60 := by rw [ev_207]; exact hI 8 _
            have q_209 : (f_206 0 13).toInt = v_204.toInt := (congrArg Int32.toInt (show f_206 0 13 = v_204 from (by rw [ef_206, sg_up_s, sgu_s])))
            have q_210 : (f_206 0 16).toInt = v_1.toInt := (congrArg Int32.toInt (show f_206 0 16 = v_1 from (by rw [ef_206, sg_up_s, sgu_n (by decide)]; exact ev_1.symm)))
            have q_211 : (f_206 0 15).toInt = v_3.toInt := (congrArg Int32.toInt (show f_206 0 15 = v_3 from (by rw [ef_206, sg_up_s, sgu_n (by decide)]; exact ev_3.symm)))
            exact hret _ _ _ _ (v_207) f_206 L Q dX12_one_170 hP hS ⟨⟨hI, hF, rfl, rfl⟩, trivial, (by omega), (by omega), (by omega), (Eq.trans (Eq.symm (hs.trans ((if_neg (Int.not_lt.mpr c_203)).trans (spl_e ev_204 (spl_e ef_206 (spl_e ev_207 rfl)))))) hsp)⟩
        · skip
          have c_195 : r_96.toInt = 40 := (by first | exact (cm_eq1 ti_40 c) | (have z := Int32.toInt_inj.mpr c; have k1 : (40 : Int32).toInt = 40 := ti_40; omega))
          refine lv_aload_n hx hb dX12_one_32 rfl (lv_at hl 1 rfl) ?_
          have c_213 : v_1 = 3 := Int32.toInt_inj.mp (by have k9 : (3 : Int32).toInt = 3 := ti_3; omega)
          refine sl_gM_0_16_12 (v := 3) hx hb hts hown hK hP (show f 0 16 = 3 from (Eq.trans ev_1.symm c_213)) dX12_one_33 ?_
          refine lv_bipush (v := 6) hx hb dX12_one_36 bp_6 ?_
          refine lv_icmp_ne (tgt := 46) hx hb dX12_one_38 (by decide) (fun c => ?_) (fun c => absurd c (by decide))
          refine lv_aload_n hx hb dX12_one_46 rfl (lv_at hl 1 rfl) ?_
          refine lv_dup hx hb dX12_one_47 rfl ?_
          refine sl_gM_0_16_12 (v := 3) hx hb hts hown hK hP (show f 0 16 = 3 from (Eq.trans ev_1.symm c_213)) dX12_one_48 ?_
          refine lv_iconst (v := 1) hx hb dX12_one_51 ic_1 ?_
          refine lv_iadd hx hb dX12_one_52 ?_
          refine W.eq (g2 := F0 m 53 ls [.int 4, .ref (h 0)]) (by rw [show (3 + 1 : Int32) = 4 from by decide]) ?_
          refine sl_pM_0_16_12 (x := 4) hx hb hts hown hh hA hK hP hS dX12_one_53 (fun f_214 H locs ef_214 hP hS => ?_)
          have hI : sgI loM hiM f_214 := by rw [ef_214]; exact sgI.put hI 0 16 (show 0 ≤ (4 : Int32).toInt ∧ (4 : Int32).toInt ≤ 6 from by decide)
          have hF : sgK WkX12_one_3 f f_214 := sgK.put hF ef_214 (by rfl)
          refine lv_aload_n hx hb dX12_one_56 rfl (lv_at hl 1 rfl) ?_
          refine lv_dup hx hb dX12_one_57 rfl ?_
          refine sl_gM_0_13_12 (v := v_5) hx hb hts hown hK hP (show f_214 0 13 = v_5 from (by rw [ef_214, sg_up_s, sgu_n (by decide)]; exact ev_5.symm)) dX12_one_58 ?_
          refine lv_iconst (v := 1) hx hb dX12_one_61 ic_1 ?_
          refine lv_iadd hx hb dX12_one_62 ?_
          refine lv_topi (fun v_215 ev_215 => ?_)
          have q_216 : v_215.toInt = v_5.toInt + 1 := by rw [ev_215]; first | exact cm_add ti_1 (by omega) (by omega) | (have k1 : (1 : Int32).toInt = 1 := ti_1; exact (bn_addI (by omega) (by omega)).trans (by omega))
          refine sl_pM_0_13_12 (x := v_215) hx hb hts hown hh hA hK hP hS dX12_one_63 (fun f_217 H locs ef_217 hP hS => ?_)
          have hI : sgI loM hiM f_217 := by rw [ef_217]; exact sgI.put hI 0 13 (show 0 ≤ (v_215 : Int32).toInt ∧ (v_215 : Int32).toInt ≤ 120 from ⟨by omega, by omega⟩)
          have hF : sgK WkX12_one_3 f f_217 := sgK.put hF ef_217 (by rfl)
          refine lv_iload_n hx hb dX12_one_66 rfl (lv_at hl 0 rfl) ?_
          refine lv_bipush (v := 40) hx hb dX12_one_67 bp_40 ?_
          refine lv_icmp_ne (tgt := 79) hx hb dX12_one_69 (by decide) (fun c => ?_) (fun c => ?_)
          · skip
            exfalso; have c_218 : r_96.toInt ≠ 40 := (by first | exact (cm_ne1 ti_40 c) | (have z := bn_ne c; have k1 : (40 : Int32).toInt = 40 := ti_40; omega)); first | exact absurd (by assumption) c_218 | omega
          · skip
            have c_219 : r_96.toInt = 40 := (by first | exact (cm_eq1 ti_40 c) | (have z := Int32.toInt_inj.mpr c; have k1 : (40 : Int32).toInt = 40 := ti_40; omega))
            refine lv_aload_n hx hb dX12_one_72 rfl (lv_at hl 1 rfl) ?_
            have q_220 : (f_217 0 16).toInt = 4 := (congrArg Int32.toInt (show f_217 0 16 = 4 from (by rw [ef_217, sg_up_s, sgu_n (by decide)]; exact (by rw [ef_214, sg_up_s, sgu_s])))).trans (by decide)
            have q_221 : (f_217 0 15).toInt = v_3.toInt := (congrArg Int32.toInt (show f_217 0 15 = v_3 from (by rw [ef_217, sg_up_s, sgu_n (by decide)]; exact (by rw [ef_214, sg_up_s, sgu_n (by decide)]; exact ev_3.symm))))
            have q_223 : (f_217 0 13).toInt = v_215.toInt := (congrArg Int32.toInt (show f_217 0 13 = v_215 from (by rw [ef_217, sg_up_s, sgu_s])))
            refine sg_calli (va_runV (As := []) (rest := []) ⟨hx, hb, hml, hown, hts⟩ (kX12_either_4 l D ca za h hh f_217 L Q hI (by omega) (by omega) H.size) (sl_c12_either_18_0_0_409_12 hts ⟨Nat.le_of_ble_eq_true rfl, Nat.le_of_ble_eq_true rfl⟩) (sl_vM_0 hA hK hP hS hZ) rfl rfl hl.1 rfl (lv_room (Nat.le_of_ble_eq_true rfl)) dX12_one_73 ⟨Nat.le_refl _, Nat.le_refl _⟩) hA hS (fun r_227 f_224 L_225 Q_226 H locs hq hP hS => ?_)
            obtain ⟨⟨hI, hk_f_224, eL9, eQ9⟩, hq, p_228, p_229, p_230, u_231⟩ := hq
            rw [eL9, eQ9] at hP; clear eL9 eQ9
            have hF : sgK WkX12_one_3 f f_224 := sgK.tr hF hk_f_224 (by decide +kernel)
            obtain ⟨v_232, ev_232⟩ : ∃ z : Int32, z = f_224 0 13 := ⟨_, rfl⟩
            have q_233 : 0 ≤ v_232.toInt ∧ v_232.toInt ≤ 120 := by rw [ev_232]; exact hI 0 13
            have q_234 : (f_224 0 13).toInt = v_232.toInt := (congrArg Int32.toInt (show f_224 0 13 = v_232 from ev_232.symm))
            obtain ⟨v_235, ev_235⟩ : ∃ z : Int32, z = f_224 0 16 := ⟨_, rfl⟩
            have q_236 : 0 ≤ v_235.toInt ∧ v_235.toInt ≤ 6 := by rw [ev_235]; exact hI 0 16
            have q_237 : (f_224 0 16).toInt = v_235.toInt := (congrArg Int32.toInt (show f_224 0 16 = v_235 from ev_235.symm))
            obtain ⟨v_238, ev_238⟩ : ∃ z : Int32, z = f_224 0 15 := ⟨_, rfl⟩
            have q_239 : (-1) ≤ v_238.toInt ∧ v_238.toInt ≤ 120 := by rw [ev_238]; exact hI 0 15
            have q_240 : (f_224 0 15).toInt = v_238.toInt := (congrArg Int32.toInt (show f_224 0 15 = v_238 from ev_238.symm))
            refine lv_goto (tgt := 83) hx hb dX12_one_76 (by decide) ?_
            refine lv_istore_n (lv' := [(2, .int r_227), (1, .int r_96), (0, .ref (h 0))]) hx hb dX12_one_83 rfl hl (by decide) rfl (fun ls hl => ?_)
            refine lv_iload_n hx hb dX12_one_84 rfl (lv_at hl 1 rfl) ?_
            refine lv_bipush (v := 40) hx hb dX12_one_85 bp_40 ?_
            refine lv_icmp_ne (tgt := 104) hx hb dX12_one_87 (by decide) (fun c => ?_) (fun c => ?_)
            · skip
              exfalso; have c_242 : r_96.toInt ≠ 40 := (by first | exact (cm_ne1 ti_40 c) | (have z := bn_ne c; have k1 : (40 : Int32).toInt = 40 := ti_40; omega)); first | exact absurd (by assumption) c_242 | omega
            · skip
              have c_243 : r_96.toInt = 40 := (by first | exact (cm_eq1 ti_40 c) | (have z := Int32.toInt_inj.mpr c; have k1 : (40 : Int32).toInt = 40 := ti_40; omega))
              refine lv_aload_n hx hb dX12_one_90 rfl (lv_at hl 2 rfl) ?_
              refine lv_bipush (v := 41) hx hb dX12_one_91 bp_41 ?_
              have q_246 : (f_224 0 14).toInt = v_90.toInt := (congrArg Int32.toInt (show f_224 0 14 = v_90 from ((hk_f_224 0 14 (by decide)).trans (by rw [ef_217, sg_up_s, sgu_n (by decide)]; exact (by rw [ef_214, sg_up_s, sgu_n (by decide)]; exact ev_90.symm)))))
              refine sg_calli (va_runV (As := [.int 41]) (rest := []) ⟨hx, hb, hml, hown, hts⟩ (kX12_takes_41 l D ca za h hh f_224 L Q hI H.size) (sl_c12_takes_1_0_0_20_12 hts ⟨Nat.le_of_ble_eq_true rfl, Nat.le_of_ble_eq_true rfl⟩) (sl_vM_0 hA hK hP hS hZ) rfl rfl hl.1 rfl (lv_room (Nat.le_of_ble_eq_true rfl)) dX12_one_93 ⟨Nat.le_refl _, Nat.le_refl _⟩) hA hS (fun r_252 f_249 L_250 Q_251 H locs hq hP hS => ?_)
              obtain ⟨⟨hI, hk_f_249, eL9, eQ9⟩, hq, u_253⟩ := hq
              rw [eL9, eQ9] at hP; clear eL9 eQ9
              have hF : sgK WkX12_one_3 f f_249 := sgK.tr hF hk_f_249 (by decide +kernel)
              obtain ⟨v_254, ev_254⟩ : ∃ z : Int32, z = f_249 0 13 := ⟨_, rfl⟩
              replace hs := hs.trans ((if_pos c_195).trans (spl_e ef_214 (spl_e ev_215 (spl_e ef_217 (spl2_e u_231 (spl_e ev_232 (spl_e ev_235 (spl_e ev_238 (spl2_e u_253 (spl_e ev_254 rfl))))))))))
              have q_255 : 0 ≤ v_254.toInt ∧ v_254.toInt ≤ 120 := by rw [ev_254]; exact hI 0 13
              have q_256 : (f_249 0 13).toInt = v_254.toInt := (congrArg Int32.toInt (show f_249 0 13 = v_254 from ev_254.symm))
              have k_258 : (41 : Int32).toInt = 41 := by decide
              rcases hq with ⟨rfl, hq⟩ | ⟨rfl, hq⟩
              · skip
                have hc_259 := hq
                refine lv_if_ne (tgt := 104) hx hb dX12_one_96 (by decide) (fun c => ?_) (fun c => absurd c (by decide))
                refine lv_aload_n hx hb dX12_one_104 rfl (lv_at hl 2 rfl) ?_
                refine lv_dup hx hb dX12_one_105 rfl ?_
                refine sl_gM_0_16_12 (v := v_235) hx hb hts hown hK hP (show f_249 0 16 = v_235 from ((hk_f_249 0 16 (by decide)).trans ev_235.symm)) dX12_one_106 ?_
                refine lv_iconst (v := 1) hx hb dX12_one_109 ic_1 ?_
                refine lv_isub hx hb dX12_one_110 ?_
                refine lv_topi (fun v_260 ev_260 => ?_)
                have q_261 : v_260.toInt = v_235.toInt - 1 := by rw [ev_260]; first | exact cm_sub ti_1 (by omega) (by omega) | (have k1 : (1 : Int32).toInt = 1 := ti_1; exact (bn_subI (by omega) (by omega)).trans (by omega))
                refine sl_pM_0_16_12 (x := v_260) hx hb hts hown hh hA hK hP hS dX12_one_111 (fun f_262 H locs ef_262 hP hS => ?_)
                have hI : sgI loM hiM f_262 := by rw [ef_262]; exact sgI.put hI 0 16 (show 0 ≤ (v_260 : Int32).toInt ∧ (v_260 : Int32).toInt ≤ 6 from ⟨by omega, by omega⟩)
                have hF : sgK WkX12_one_3 f f_262 := sgK.put hF ef_262 (by rfl)
                refine lv_iload_n hx hb dX12_one_114 rfl (lv_at hl 1 rfl) ?_
                refine lv_bipush (v := 40) hx hb dX12_one_115 bp_40 ?_
                refine lv_icmp_ne (tgt := 124) hx hb dX12_one_117 (by decide) (fun c => ?_) (fun c => ?_)
                · skip
                  exfalso; have c_263 : r_96.toInt ≠ 40 := (by first | exact (cm_ne1 ti_40 c) | (have z := bn_ne c; have k1 : (40 : Int32).toInt = 40 := ti_40; omega)); first | exact absurd (by assumption) c_263 | omega
                · skip
                  have c_264 : r_96.toInt = 40 := (by first | exact (cm_eq1 ti_40 c) | (have z := Int32.toInt_inj.mpr c; have k1 : (40 : Int32).toInt = 40 := ti_40; omega))
                  refine lv_iload_n hx hb dX12_one_120 rfl (lv_at hl 0 rfl) ?_
                  refine lv_goto (tgt := 144) hx hb dX12_one_121 (by decide) ?_
                  have q_265 : (f_262 0 13).toInt = v_254.toInt := (congrArg Int32.toInt (show f_262 0 13 = v_254 from (by rw [ef_262, sg_up_s, sgu_n (by decide)]; exact ev_254.symm)))
                  have q_266 : (f_262 0 16).toInt = v_260.toInt := (congrArg Int32.toInt (show f_262 0 16 = v_260 from (by rw [ef_262, sg_up_s, sgu_s])))
                  have q_267 : (f_262 0 15).toInt = v_238.toInt := (congrArg Int32.toInt (show f_262 0 15 = v_238 from (by rw [ef_262, sg_up_s, sgu_n (by decide)]; exact ((hk_f_249 0 15 (by decide)).trans ev_238.symm))))
                  exact hret _ _ _ _ (r_227) f_262 L Q dX12_one_144 hP hS ⟨⟨hI, hF, rfl, rfl⟩, trivial, (by omega), (by omega), (by omega), (Eq.trans (Eq.symm (hs.trans ((if_pos rfl).trans (spl_e ev_260 (spl_e ef_262 rfl))))) hsp)⟩
              · skip
                have hc_259 := hq
                refine lv_if_ne (tgt := 104) hx hb dX12_one_96 (by decide) (fun c => absurd c (by decide)) (fun c => ?_)
                refine lv_aload_n hx hb dX12_one_99 rfl (lv_at hl 2 rfl) ?_
                refine sg_calli (va_runV (As := []) (rest := []) ⟨hx, hb, hml, hown, hts⟩ (kX12_wrong l D ca za h hh f_249 L Q hI H.size) (sl_c12_wrong_0_0_0_0_12 hts ⟨Nat.le_of_ble_eq_true rfl, Nat.le_of_ble_eq_true rfl⟩) (sl_vM_0 hA hK hP hS hZ) rfl rfl hl.1 rfl (lv_room (Nat.le_of_ble_eq_true rfl)) dX12_one_100 ⟨Nat.le_refl _, Nat.le_refl _⟩) hA hS (fun r_272 f_269 L_270 Q_271 H locs hq hP hS => ?_)
                obtain ⟨⟨hI, hk_f_269, eL9, eQ9⟩, hq, p_273, u_274⟩ := hq
                rw [eL9, eQ9] at hP; clear eL9 eQ9
                have hF : sgK WkX12_one_3 f f_269 := sgK.tr hF hk_f_269 (by decide +kernel)
                obtain ⟨v_275, ev_275⟩ : ∃ z : Int32, z = f_269 0 15 := ⟨_, rfl⟩
                have q_276 : (-1) ≤ v_275.toInt ∧ v_275.toInt ≤ 120 := by rw [ev_275]; exact hI 0 15
                have q_277 : (f_269 0 15).toInt = v_275.toInt := (congrArg Int32.toInt (show f_269 0 15 = v_275 from ev_275.symm))
                obtain rfl : r_272 = 0 := Int32.toInt_inj.mp (by have k9 : (0 : Int32).toInt = 0 := ti_0; omega)
                have q_278 : (f_269 0 13).toInt = v_254.toInt := (congrArg Int32.toInt (show f_269 0 13 = v_254 from ((hk_f_269 0 13 (by decide)).trans ev_254.symm)))
                have q_279 : (f_269 0 16).toInt = v_235.toInt := (congrArg Int32.toInt (show f_269 0 16 = v_235 from ((hk_f_269 0 16 (by decide)).trans ((hk_f_249 0 16 (by decide)).trans ev_235.symm))))
                have k99 : (0 : Int32).toInt = 0 := ti_0
                exact hret _ _ _ _ (0) f_269 L Q dX12_one_103 hP hS ⟨⟨hI, hF, rfl, rfl⟩, trivial, (by omega), (by omega), (by omega), (Eq.trans (Eq.symm (hs.trans ((if_neg (by decide)).trans (spl2_e u_274 (spl_e ev_275 rfl))))) hsp)⟩
  · skip
    have c_88 : 0 ≤ v_3.toInt := (by first | exact (cm_nlt1 ti_0 c) | (have z := bn_nlt c; have k1 : (0 : Int32).toInt = 0 := ti_0; omega))
    refine lv_iconst (v := 0) hx hb dX12_one_7 ic_0 ?_
    have q_282 : (f 0 13).toInt = v_5.toInt := (congrArg Int32.toInt (show f 0 13 = v_5 from ev_5.symm))
    have q_283 : (f 0 16).toInt = v_1.toInt := (congrArg Int32.toInt (show f 0 16 = v_1 from ev_1.symm))
    have q_284 : (f 0 15).toInt = v_3.toInt := (congrArg Int32.toInt (show f 0 15 = v_3 from ev_3.symm))
    have k99 : (0 : Int32).toInt = 0 := ti_0
    exact hret _ _ _ _ (0) f L Q dX12_one_8 hP hS ⟨⟨hI, hF, rfl, rfl⟩, trivial, (by omega), (by omega), (by omega), (Eq.trans (Eq.symm (hs.trans ((if_neg (Int.not_lt.mpr c_88)).trans rfl))) hsp)⟩

abbrev WkX12_product_3 : List (Nat × Nat × Option Nat) := [(0, 0, some 13), (0, 0, some 15), (0, 0, some 16)]
set_option maxHeartbeats 4000000 in
set_option maxRecDepth 100000 in
theorem kX12_product_3 (l : Launch) (D : va_G) (ca : Nat → ClassId) (za h : Nat → Nat) (hh : sgH 26 h) (f : sg_F) (L : sg_L) (Q : sg_Q) (hI : sgI loM hiM f) (p0 : 3 ≤ (f 0 16).toInt) (p1 : 0 ≤ (f 0 15).toInt ∨ (f 0 16).toInt = 3) (sz : Nat) : Met l yX12_product gwX12_product { frames := 20, cells := 0, slots := 0, locals := 455 } (sgP D vwCl (tyX ca) 26 h (eM ca h) zcM za f L Q sz [.ref (h 0)]) (sgQi D vwCl 26 h (eM ca h) sz (fun r f1 L1 Q1 => ((sgI loM hiM f1 ∧ sgK WkX12_product_3 f f1 ∧ L1 = L ∧ Q1 = Q) ∧ True ∧ ((f 0 13).toInt ≤ (f1 0 13).toInt) ∧ (3 ≤ (f1 0 16).toInt) ∧ (0 ≤ (f1 0 15).toInt ∨ (f1 0 16).toInt = 3) ∧ (r, f1) = sX12_product_3 f L))) 0 0 (sgA 26 h sz) := by
  refine sg_ofWi (cc := cX12_product) (maxL := 4) RX12 (by decide) rfl rfl (Nat.le_of_ble_eq_true rfl) ?_
  intro p e s m below meth cd Qz ls hx hb hml hown hts hK hZ hP hS hl hret
  have hA := sgY.self (n := 26) (h := h) (sz := s.heap.size)
  have hl : lv_has ls 4 [(0, .ref (h 0))] := hl
  obtain ⟨H, hH⟩ : ∃ z : Heap, z = s.heap := ⟨_, rfl⟩
  obtain ⟨locs, hlo⟩ : ∃ z : List Loc, z = [] := ⟨_, rfl⟩
  have hP : va_P D vwCl (sgw 26 h (eM ca h) f L Q) H := by rw [hH]; exact hP
  have hS : va_S (sgA 26 h s.heap.size) s.heap H locs := by rw [hH, hlo]; exact hS
  suffices hgo : W p l e ({ frames := 20, cells := 0, slots := 0, locals := 455 }) s m ([.ref (h 0)] : List Value).toArray below meth cd H locs 0 0 Qz (F0 m 0 ls []) by rw [hH, hlo] at hgo; exact hgo
  clear hH hlo
  obtain ⟨sp, hsp⟩ : ∃ z : Int32 × sg_F, z = sX12_product_3 f L := ⟨_, rfl⟩
  have hs : sp = sX12_product_3 f L := hsp
  obtain ⟨v_1, ev_1⟩ : ∃ z : Int32, z = f 0 16 := ⟨_, rfl⟩
  have q_2 : 0 ≤ v_1.toInt ∧ v_1.toInt ≤ 6 := by rw [ev_1]; exact hI 0 16
  obtain ⟨v_3, ev_3⟩ : ∃ z : Int32, z = f 0 15 := ⟨_, rfl⟩
  have q_4 : (-1) ≤ v_3.toInt ∧ v_3.toInt ≤ 120 := by rw [ev_3]; exact hI 0 15
  obtain ⟨v_5, ev_5⟩ : ∃ z : Int32, z = f 0 13 := ⟨_, rfl⟩
  have q_6 : 0 ≤ v_5.toInt ∧ v_5.toInt ≤ 120 := by rw [ev_5]; exact hI 0 13
  obtain ⟨v_7, ev_7⟩ : ∃ z : Int32, z = f 0 14 := ⟨_, rfl⟩
  have q_8 : 0 ≤ v_7.toInt ∧ v_7.toInt ≤ 120 := by rw [ev_7]; exact hI 0 14
  have o_9 : (f 0 16).toInt = v_1.toInt := (congrArg Int32.toInt (show f 0 16 = v_1 from ev_1.symm))
  have o_10 : (f 0 15).toInt = v_3.toInt := (congrArg Int32.toInt (show f 0 15 = v_3 from ev_3.symm))
  have o_11 : (f 0 13).toInt = v_5.toInt := (congrArg Int32.toInt (show f 0 13 = v_5 from ev_5.symm))
  have o_12 : (f 0 14).toInt = v_7.toInt := (congrArg Int32.toInt (show f 0 14 = v_7 from ev_7.symm))
  have hF : sgK WkX12_product_3 f f := sgK.rf
  have loop_10 : ∀ (n_10 : Nat) (y1_10 : Int32) (y2_10 : Int32) (fp_10 : sg_F) (H : Heap) (locs : List Loc) (ls : Array Slot), sp = sX12_product_3_l10 n_10 y1_10 y2_10 fp_10 L → 120 - (fp_10 0 13).toInt < (n_10 : Int) → 0 ≤ y2_10.toInt ∧ y2_10.toInt ≤ 255 → (f 0 13).toInt ≤ (fp_10 0 13).toInt → 3 ≤ (fp_10 0 16).toInt → 0 ≤ (fp_10 0 15).toInt ∨ (fp_10 0 16).toInt = 3 → y2_10.toInt = 0 ∨ (fp_10 0 13).toInt < (fp_10 0 14).toInt → sgI loM hiM fp_10 → sgK WkX12_product_3 f fp_10 → va_P D vwCl (sgw 26 h (eM ca h) fp_10 L Q) H → va_S (sgA 26 h s.heap.size) s.heap H locs → lv_has ls 4 [(0, .ref (h 0)), (1, .int y1_10), (2, .int y2_10)] → W p l e ({ frames := 20, cells := 0, slots := 0, locals := 455 }) s m ([.ref (h 0)] : List Value).toArray below meth cd H locs 0 0 Qz (F0 m 10 ls []) := by
    intro n_10
    induction n_10 with
    | zero => intro y1_10 y2_10 fp_10 H locs ls hs hm_10 hy0_10 hg0_10 hg1_10 hg2_10 hg3_10 hI hF hP hS hl; have zb := (show 0 ≤ (fp_10 0 13).toInt ∧ (fp_10 0 13).toInt ≤ 120 from hI 0 13); exact absurd hm_10 (by omega)
    | succ n_10 ih_10 =>
      intro y1_10 y2_10 fp_10 H locs ls hs hm_10 hy0_10 hg0_10 hg1_10 hg2_10 hg3_10 hI hF hP hS hl
      have hs : sp = sX12_product_3_h10 (sX12_product_3_l10 n_10) y1_10 y2_10 fp_10 L := hs
      obtain ⟨v_13, ev_13⟩ : ∃ z : Int32, z = fp_10 0 13 := ⟨_, rfl⟩
      have q_14 : 0 ≤ v_13.toInt ∧ v_13.toInt ≤ 120 := by rw [ev_13]; exact hI 0 13
      have q_15 : (fp_10 0 13).toInt = v_13.toInt := by rw [ev_13]
      obtain ⟨v_16, ev_16⟩ : ∃ z : Int32, z = fp_10 0 16 := ⟨_, rfl⟩
      have q_17 : 0 ≤ v_16.toInt ∧ v_16.toInt ≤ 6 := by rw [ev_16]; exact hI 0 16
      have q_18 : (fp_10 0 16).toInt = v_16.toInt := by rw [ev_16]
      obtain ⟨v_19, ev_19⟩ : ∃ z : Int32, z = fp_10 0 15 := ⟨_, rfl⟩
      have q_20 : (-1) ≤ v_19.toInt ∧ v_19.toInt ≤ 120 := by rw [ev_19]; exact hI 0 15
      have q_21 : (fp_10 0 15).toInt = v_19.toInt := by rw [ev_19]
      obtain ⟨v_22, ev_22⟩ : ∃ z : Int32, z = fp_10 0 14 := ⟨_, rfl⟩
      replace hs := hs.trans (spl_e ev_13 (spl_e ev_16 (spl_e ev_19 (spl_e ev_22 rfl))))
      have q_23 : 0 ≤ v_22.toInt ∧ v_22.toInt ≤ 120 := by rw [ev_22]; exact hI 0 14
      have q_24 : (fp_10 0 14).toInt = v_22.toInt := by rw [ev_22]
      refine lv_aload_n hx hb dX12_product_10 rfl (lv_at hl 0 rfl) ?_
      refine sl_gM_0_15_12 (v := v_19) hx hb hts hown hK hP (show fp_10 0 15 = v_19 from ev_19.symm) dX12_product_11 ?_
      refine lv_if_ge (tgt := 94) hx hb dX12_product_14 (by decide) (fun c => ?_) (fun c => ?_)
      · skip
        have c_25 : 0 ≤ v_19.toInt := (by first | exact (cm_le0 ti_0 c) | (have z := bn_le c; have k1 : (0 : Int32).toInt = 0 := ti_0; omega))
        refine lv_iload_n hx hb dX12_product_94 rfl (lv_at hl 1 rfl) ?_
        exact hret _ _ _ _ (y1_10) fp_10 L Q dX12_product_95 hP hS ⟨⟨hI, hF, rfl, rfl⟩, trivial, (by omega), (by omega), (by omega), (Eq.trans (Eq.symm (hs.trans ((if_neg (Int.not_lt.mpr c_25)).trans rfl))) hsp)⟩
      · skip
        have c_26 : v_19.toInt < 0 := (by first | exact (cm_nle0 ti_0 c) | (have z := bn_nle c; have k1 : (0 : Int32).toInt = 0 := ti_0; omega))
        replace hs := hs.trans ((if_pos c_26).trans rfl)
        refine lv_iload_n hx hb dX12_product_17 rfl (lv_at hl 2 rfl) ?_
        refine lv_bipush (v := 42) hx hb dX12_product_18 bp_42 ?_
        refine lv_icmp_eq (tgt := 35) hx hb dX12_product_20 (by decide) (fun c => ?_) (fun c => ?_)
        · skip
          have c_31 : y2_10.toInt = 42 := (by first | exact (cm_eq1 ti_42 c) | (have z := Int32.toInt_inj.mpr c; have k1 : (42 : Int32).toInt = 42 := ti_42; omega))
          refine lv_aload_n hx hb dX12_product_35 rfl (lv_at hl 0 rfl) ?_
          refine lv_dup hx hb dX12_product_36 rfl ?_
          refine sl_gM_0_13_12 (v := v_13) hx hb hts hown hK hP (show fp_10 0 13 = v_13 from ev_13.symm) dX12_product_37 ?_
          refine lv_iconst (v := 1) hx hb dX12_product_40 ic_1 ?_
          refine lv_iadd hx hb dX12_product_41 ?_
          refine lv_topi (fun v_33 ev_33 => ?_)
          have q_34 : v_33.toInt = v_13.toInt + 1 := by rw [ev_33]; first | exact cm_add ti_1 (by omega) (by omega) | (have k1 : (1 : Int32).toInt = 1 := ti_1; exact (bn_addI (by omega) (by omega)).trans (by omega))
          refine sl_pM_0_13_12 (x := v_33) hx hb hts hown hh hA hK hP hS dX12_product_42 (fun f_35 H locs ef_35 hP hS => ?_)
          have hI : sgI loM hiM f_35 := by rw [ef_35]; exact sgI.put hI 0 13 (show 0 ≤ (v_33 : Int32).toInt ∧ (v_33 : Int32).toInt ≤ 120 from ⟨by omega, by omega⟩)
          have hF : sgK WkX12_product_3 f f_35 := sgK.put hF ef_35 (by rfl)
          refine lv_aload_n hx hb dX12_product_45 rfl (lv_at hl 0 rfl) ?_
          have q_36 : (f_35 0 16).toInt = v_16.toInt := (congrArg Int32.toInt (show f_35 0 16 = v_16 from (by rw [ef_35, sg_up_s, sgu_n (by decide)]; exact ev_16.symm)))
          have q_37 : (f_35 0 15).toInt = v_19.toInt := (congrArg Int32.toInt (show f_35 0 15 = v_19 from (by rw [ef_35, sg_up_s, sgu_n (by decide)]; exact ev_19.symm)))
          have q_39 : (f_35 0 13).toInt = v_33.toInt := (congrArg Int32.toInt (show f_35 0 13 = v_33 from (by rw [ef_35, sg_up_s, sgu_s])))
          refine sg_calli (va_runV (As := []) (rest := []) ⟨hx, hb, hml, hown, hts⟩ (kX12_one_3 l D ca za h hh f_35 L Q hI (by omega) (by omega) H.size) (sl_c12_one_19_0_0_431_12 hts ⟨Nat.le_of_ble_eq_true rfl, Nat.le_of_ble_eq_true rfl⟩) (sl_vM_0 hA hK hP hS hZ) rfl rfl hl.1 rfl (lv_room (Nat.le_of_ble_eq_true rfl)) dX12_product_46 ⟨Nat.le_refl _, Nat.le_refl _⟩) hA hS (fun r_43 f_40 L_41 Q_42 H locs hq hP hS => ?_)
          obtain ⟨⟨hI, hk_f_40, eL9, eQ9⟩, hq, p_44, p_45, p_46, u_47⟩ := hq
          rw [eL9, eQ9] at hP; clear eL9 eQ9
          have hF : sgK WkX12_product_3 f f_40 := sgK.tr hF hk_f_40 (by decide +kernel)
          obtain ⟨v_48, ev_48⟩ : ∃ z : Int32, z = f_40 0 13 := ⟨_, rfl⟩
          have q_49 : 0 ≤ v_48.toInt ∧ v_48.toInt ≤ 120 := by rw [ev_48]; exact hI 0 13
          have q_50 : (f_40 0 13).toInt = v_48.toInt := (congrArg Int32.toInt (show f_40 0 13 = v_48 from ev_48.symm))
          obtain ⟨v_51, ev_51⟩ : ∃ z : Int32, z = f_40 0 16 := ⟨_, rfl⟩
          have q_52 : 0 ≤ v_51.toInt ∧ v_51.toInt ≤ 6 := by rw [ev_51]; exact hI 0 16
          have q_53 : (f_40 0 16).toInt = v_51.toInt := (congrArg Int32.toInt (show f_40 0 16 = v_51 from ev_51.symm))
          obtain ⟨v_54, ev_54⟩ : ∃ z : Int32, z = f_40 0 15 := ⟨_, rfl⟩
          have q_55 : (-1) ≤ v_54.toInt ∧ v_54.toInt ≤ 120 := by rw [ev_54]; exact hI 0 15
          have q_56 : (f_40 0 15).toInt = v_54.toInt := (congrArg Int32.toInt (show f_40 0 15 = v_54 from ev_54.symm))
          refine lv_istore_n (lv' := [(3, .int r_43), (0, .ref (h 0)), (1, .int y1_10), (2, .int y2_10)]) hx hb dX12_product_49 rfl hl (by decide) rfl (fun ls hl => ?_)
          refine lv_iload_n hx hb dX12_product_50 rfl (lv_at hl 3 rfl) ?_
          refine lv_bipush (v := 42) hx hb dX12_product_51 bp_42 ?_
          refine lv_icmp_ne (tgt := 62) hx hb dX12_product_53 (by decide) (fun c => ?_) (fun c => ?_)
          · skip
            exfalso; have c_58 : y2_10.toInt ≠ 42 := (by first | exact (cm_ne1 ti_42 c) | (have z := bn_ne c; have k1 : (42 : Int32).toInt = 42 := ti_42; omega)); first | exact absurd (by assumption) c_58 | omega
          · skip
            have c_59 : y2_10.toInt = 42 := (by first | exact (cm_eq1 ti_42 c) | (have z := Int32.toInt_inj.mpr c; have k1 : (42 : Int32).toInt = 42 := ti_42; omega))
            refine lv_iload_n hx hb dX12_product_56 rfl (lv_at hl 2 rfl) ?_
            refine lv_iload_n hx hb dX12_product_57 rfl (lv_at hl 0 rfl) ?_
            refine lv_imul hx hb dX12_product_58 ?_
            refine lv_topi (fun v_60 ev_60 => ?_)
            refine lv_goto (tgt := 85) hx hb dX12_product_59 (by decide) ?_
            refine lv_istore_n (lv' := [(1, .int v_60), (3, .int r_43), (0, .ref (h 0)), (2, .int y2_10)]) hx hb dX12_product_85 rfl hl (by decide) rfl (fun ls hl => ?_)
            refine lv_aload_n hx hb dX12_product_86 rfl (lv_at hl 2 rfl) ?_
            have q_62 : (f_40 0 14).toInt = v_22.toInt := (congrArg Int32.toInt (show f_40 0 14 = v_22 from ((hk_f_40 0 14 (by decide)).trans (by rw [ef_35, sg_up_s, sgu_n (by decide)]; exact ev_22.symm))))
            refine sg_calli (va_runV (As := []) (rest := []) ⟨hx, hb, hml, hown, hts⟩ (kX12_byteAt l D ca za h hh f_40 L Q hI H.size) (sl_c12_byteAt_0_0_0_0_12 hts ⟨Nat.le_of_ble_eq_true rfl, Nat.le_of_ble_eq_true rfl⟩) (sl_vM_0 hA hK hP hS hZ) rfl rfl hl.1 rfl (lv_room (Nat.le_of_ble_eq_true rfl)) dX12_product_87 ⟨Nat.le_refl _, Nat.le_refl _⟩) hA hS (fun r_66 f_63 L_64 Q_65 H locs hq hP hS => ?_)
            obtain ⟨⟨ef9, eL9, eQ9⟩, hq, p_67, u_68⟩ := hq
            rw [ef9, eL9, eQ9] at hP; clear ef9 eL9 eQ9
            refine lv_istore_n (lv' := [(2, .int r_66), (1, .int v_60), (3, .int r_43), (0, .ref (h 0))]) hx hb dX12_product_90 rfl hl (by decide) rfl (fun ls hl => ?_)
            refine lv_goto (tgt := 10) hx hb dX12_product_91 (by decide) ?_
            exact ih_10 v_60 r_66 f_40 _ _ _ (hs.trans ((if_pos c_31).trans (spl_e ev_33 (spl_e ef_35 (spl2_e u_47 (spl_e ev_48 (spl_e ev_51 (spl_e ev_54 (spl_e ev_60 (spl_e u_68 rfl)))))))))) (by have zz0_13 : (f_40 0 13).toInt = v_48.toInt := (congrArg Int32.toInt (show f_40 0 13 = v_48 from ev_48.symm)); omega) ⟨by omega, by omega⟩ (by have zz0_13 : (f_40 0 13).toInt = v_48.toInt := (congrArg Int32.toInt (show f_40 0 13 = v_48 from ev_48.symm)); omega) (by have zz0_16 : (f_40 0 16).toInt = v_51.toInt := (congrArg Int32.toInt (show f_40 0 16 = v_51 from ev_51.symm)); omega) (by have zz0_15 : (f_40 0 15).toInt = v_54.toInt := (congrArg Int32.toInt (show f_40 0 15 = v_54 from ev_54.symm)); have zz0_16 : (f_40 0 16).toInt = v_51.toInt := (congrArg Int32.toInt (show f_40 0 16 = v_51 from ev_51.symm)); omega) (by have zz0_13 : (f_40 0 13).toInt = v_48.toInt := (congrArg Int32.toInt (show f_40 0 13 = v_48 from ev_48.symm)); have zz0_14 : (f_40 0 14).toInt = v_22.toInt := (congrArg Int32.toInt (show f_40 0 14 = v_22 from ((hk_f_40 0 14 (by decide)).trans (by rw [ef_35, sg_up_s, sgu_n (by decide)]; exact ev_22.symm)))); omega) hI hF hP hS (lv_sub hl [3, 1, 0] rfl)
        · skip
          have c_32 : y2_10.toInt ≠ 42 := (by first | exact (cm_ne1 ti_42 c) | (have z := bn_ne c; have k1 : (42 : Int32).toInt = 42 := ti_42; omega))
          replace hs := hs.trans ((if_neg c_32).trans rfl)
          refine lv_iload_n hx hb dX12_product_23 rfl (lv_at hl 2 rfl) ?_
          refine lv_bipush (v := 47) hx hb dX12_product_24 bp_47 ?_
          refine lv_icmp_eq (tgt := 35) hx hb dX12_product_26 (by decide) (fun c => ?_) (fun c => ?_)
          · skip
            have c_69 : y2_10.toInt = 47 := (by first | exact (cm_eq1 ti_47 c) | (have z := Int32.toInt_inj.mpr c; have k1 : (47 : Int32).toInt = 47 := ti_47; omega))
            refine lv_aload_n hx hb dX12_product_35 rfl (lv_at hl 0 rfl) ?_
            refine lv_dup hx hb dX12_product_36 rfl ?_
            refine sl_gM_0_13_12 (v := v_13) hx hb hts hown hK hP (show fp_10 0 13 = v_13 from ev_13.symm) dX12_product_37 ?_
            refine lv_iconst (v := 1) hx hb dX12_product_40 ic_1 ?_
            refine lv_iadd hx hb dX12_product_41 ?_
            refine lv_topi (fun v_71 ev_71 => ?_)
            have q_72 : v_71.toInt = v_13.toInt + 1 := by rw [ev_71]; first | exact cm_add ti_1 (by omega) (by omega) | (have k1 : (1 : Int32).toInt = 1 := ti_1; exact (bn_addI (by omega) (by omega)).trans (by omega))
            refine sl_pM_0_13_12 (x := v_71) hx hb hts hown hh hA hK hP hS dX12_product_42 (fun f_73 H locs ef_73 hP hS => ?_)
            have hI : sgI loM hiM f_73 := by rw [ef_73]; exact sgI.put hI 0 13 (show 0 ≤ (v_71 : Int32).toInt ∧ (v_71 : Int32).toInt ≤ 120 from ⟨by omega, by omega⟩)
            have hF : sgK WkX12_product_3 f f_73 := sgK.put hF ef_73 (by rfl)
            refine lv_aload_n hx hb dX12_product_45 rfl (lv_at hl 0 rfl) ?_
            have q_74 : (f_73 0 16).toInt = v_16.toInt := (congrArg Int32.toInt (show f_73 0 16 = v_16 from (by rw [ef_73, sg_up_s, sgu_n (by decide)]; exact ev_16.symm)))
            have q_75 : (f_73 0 15).toInt = v_19.toInt := (congrArg Int32.toInt (show f_73 0 15 = v_19 from (by rw [ef_73, sg_up_s, sgu_n (by decide)]; exact ev_19.symm)))
            have q_77 : (f_73 0 13).toInt = v_71.toInt := (congrArg Int32.toInt (show f_73 0 13 = v_71 from (by rw [ef_73, sg_up_s, sgu_s])))
            refine sg_calli (va_runV (As := []) (rest := []) ⟨hx, hb, hml, hown, hts⟩ (kX12_one_3 l D ca za h hh f_73 L Q hI (by omega) (by omega) H.size) (sl_c12_one_19_0_0_431_12 hts ⟨Nat.le_of_ble_eq_true rfl, Nat.le_of_ble_eq_true rfl⟩) (sl_vM_0 hA hK hP hS hZ) rfl rfl hl.1 rfl (lv_room (Nat.le_of_ble_eq_true rfl)) dX12_product_46 ⟨Nat.le_refl _, Nat.le_refl _⟩) hA hS (fun r_81 f_78 L_79 Q_80 H locs hq hP hS => ?_)
            obtain ⟨⟨hI, hk_f_78, eL9, eQ9⟩, hq, p_82, p_83, p_84, u_85⟩ := hq
            rw [eL9, eQ9] at hP; clear eL9 eQ9
            have hF : sgK WkX12_product_3 f f_78 := sgK.tr hF hk_f_78 (by decide +kernel)
            obtain ⟨v_86, ev_86⟩ : ∃ z : Int32, z = f_78 0 13 := ⟨_, rfl⟩
            have q_87 : 0 ≤ v_86.toInt ∧ v_86.toInt ≤ 120 := by rw [ev_86]; exact hI 0 13
            have q_88 : (f_78 0 13).toInt = v_86.toInt := (congrArg Int32.toInt (show f_78 0 13 = v_86 from ev_86.symm))
            obtain ⟨v_89, ev_89⟩ : ∃ z : Int32, z = f_78 0 16 := ⟨_, rfl⟩
            have q_90 : 0 ≤ v_89.toInt ∧ v_89.toInt ≤ 6 := by rw [ev_89]; exact hI 0 16
            have q_91 : (f_78 0 16).toInt = v_89.toInt := (congrArg Int32.toInt (show f_78 0 16 = v_89 from ev_89.symm))
            obtain ⟨v_92, ev_92⟩ : ∃ z : Int32, z = f_78 0 15 := ⟨_, rfl⟩
            replace hs := hs.trans ((if_pos c_69).trans (spl_e ev_71 (spl_e ef_73 (spl2_e u_85 (spl_e ev_86 (spl_e ev_89 (spl_e ev_92 rfl)))))))
            have q_93 : (-1) ≤ v_92.toInt ∧ v_92.toInt ≤ 120 := by rw [ev_92]; exact hI 0 15
            have q_94 : (f_78 0 15).toInt = v_92.toInt := (congrArg Int32.toInt (show f_78 0 15 = v_92 from ev_92.symm))
            refine lv_istore_n (lv' := [(3, .int r_81), (0, .ref (h 0)), (1, .int y1_10), (2, .int y2_10)]) hx hb dX12_product_49 rfl hl (by decide) rfl (fun ls hl => ?_)
            refine lv_iload_n hx hb dX12_product_50 rfl (lv_at hl 3 rfl) ?_
            refine lv_bipush (v := 42) hx hb dX12_product_51 bp_42 ?_
            refine lv_icmp_ne (tgt := 62) hx hb dX12_product_53 (by decide) (fun c => ?_) (fun c => ?_)
            · skip
              have c_96 : y2_10.toInt ≠ 42 := (by first | exact (cm_ne1 ti_42 c) | (have z := bn_ne c; have k1 : (42 : Int32).toInt = 42 := ti_42; omega))
              refine lv_iload_n hx hb dX12_product_62 rfl (lv_at hl 0 rfl) ?_
              refine lv_if_ne (tgt := 70) hx hb dX12_product_63 (by decide) (fun c => ?_) (fun c => ?_)
              · skip
                have c_98 : r_81.toInt ≠ 0 := (by first | exact (cm_ne1 ti_0 c) | (have z := bn_ne c; have k1 : (0 : Int32).toInt = 0 := ti_0; omega))
                refine lv_iload_n hx hb dX12_product_70 rfl (lv_at hl 3 rfl) ?_
                refine lv_bipush (v := 47) hx hb dX12_product_71 bp_47 ?_
                refine lv_icmp_ne (tgt := 82) hx hb dX12_product_73 (by decide) (fun c => ?_) (fun c => ?_)
                · skip
                  exfalso; have c_100 : y2_10.toInt ≠ 47 := (by first | exact (cm_ne1 ti_47 c) | (have z := bn_ne c; have k1 : (47 : Int32).toInt = 47 := ti_47; omega)); first | exact absurd (by assumption) c_100 | omega
                · skip
                  have c_101 : y2_10.toInt = 47 := (by first | exact (cm_eq1 ti_47 c) | (have z := Int32.toInt_inj.mpr c; have k1 : (47 : Int32).toInt = 47 := ti_47; omega))
                  refine lv_iload_n hx hb dX12_product_76 rfl (lv_at hl 2 rfl) ?_
                  refine lv_iload_n hx hb dX12_product_77 rfl (lv_at hl 0 rfl) ?_
                  refine lv_idiv hx hb dX12_product_78 (bn_nz (by omega)) ?_
                  refine lv_topi (fun v_102 ev_102 => ?_)
                  refine lv_goto (tgt := 85) hx hb dX12_product_79 (by decide) ?_
                  refine lv_istore_n (lv' := [(1, .int v_102), (3, .int r_81), (0, .ref (h 0)), (2, .int y2_10)]) hx hb dX12_product_85 rfl hl (by decide) rfl (fun ls hl => ?_)
                  refine lv_aload_n hx hb dX12_product_86 rfl (lv_at hl 2 rfl) ?_
                  have q_104 : (f_78 0 14).toInt = v_22.toInt := (congrArg Int32.toInt (show f_78 0 14 = v_22 from ((hk_f_78 0 14 (by decide)).trans (by rw [ef_73, sg_up_s, sgu_n (by decide)]; exact ev_22.symm))))
                  refine sg_calli (va_runV (As := []) (rest := []) ⟨hx, hb, hml, hown, hts⟩ (kX12_byteAt l D ca za h hh f_78 L Q hI H.size) (sl_c12_byteAt_0_0_0_0_12 hts ⟨Nat.le_of_ble_eq_true rfl, Nat.le_of_ble_eq_true rfl⟩) (sl_vM_0 hA hK hP hS hZ) rfl rfl hl.1 rfl (lv_room (Nat.le_of_ble_eq_true rfl)) dX12_product_87 ⟨Nat.le_refl _, Nat.le_refl _⟩) hA hS (fun r_108 f_105 L_106 Q_107 H locs hq hP hS => ?_)
                  obtain ⟨⟨ef9, eL9, eQ9⟩, hq, p_109, u_110⟩ := hq
                  rw [ef9, eL9, eQ9] at hP; clear ef9 eL9 eQ9
                  refine lv_istore_n (lv' := [(2, .int r_108), (1, .int v_102), (3, .int r_81), (0, .ref (h 0))]) hx hb dX12_product_90 rfl hl (by decide) rfl (fun ls hl => ?_)
                  refine lv_goto (tgt := 10) hx hb dX12_product_91 (by decide) ?_
                  exact ih_10 v_102 r_108 f_78 _ _ _ (hs.trans ((if_neg c_98).trans (spl_e ev_102 (spl_e u_110 rfl)))) (by have zz0_13 : (f_78 0 13).toInt = v_86.toInt := (congrArg Int32.toInt (show f_78 0 13 = v_86 from ev_86.symm)); omega) ⟨by omega, by omega⟩ (by have zz0_13 : (f_78 0 13).toInt = v_86.toInt := (congrArg Int32.toInt (show f_78 0 13 = v_86 from ev_86.symm)); omega) (by have zz0_16 : (f_78 0 16).toInt = v_89.toInt := (congrArg Int32.toInt (show f_78 0 16 = v_89 from ev_89.symm)); omega) (by have zz0_15 : (f_78 0 15).toInt = v_92.toInt := (congrArg Int32.toInt (show f_78 0 15 = v_92 from ev_92.symm)); have zz0_16 : (f_78 0 16).toInt = v_89.toInt := (congrArg Int32.toInt (show f_78 0 16 = v_89 from ev_89.symm)); omega) (by have zz0_13 : (f_78 0 13).toInt = v_86.toInt := (congrArg Int32.toInt (show f_78 0 13 = v_86 from ev_86.symm)); have zz0_14 : (f_78 0 14).toInt = v_22.toInt := (congrArg Int32.toInt (show f_78 0 14 = v_22 from ((hk_f_78 0 14 (by decide)).trans (by rw [ef_73, sg_up_s, sgu_n (by decide)]; exact ev_22.symm)))); omega) hI hF hP hS (lv_sub hl [3, 1, 0] rfl)
              · skip
                have c_99 : r_81.toInt = 0 := (by first | exact (cm_eq1 ti_0 c) | (have z := Int32.toInt_inj.mpr c; have k1 : (0 : Int32).toInt = 0 := ti_0; omega))
                refine lv_iconst (v := 0) hx hb dX12_product_66 ic_0 ?_
                refine lv_goto (tgt := 85) hx hb dX12_product_67 (by decide) ?_
                refine lv_istore_n (lv' := [(1, .int 0), (3, .int r_81), (0, .ref (h 0)), (2, .int y2_10)]) hx hb dX12_product_85 rfl hl (by decide) rfl (fun ls hl => ?_)
                refine lv_aload_n hx hb dX12_product_86 rfl (lv_at hl 2 rfl) ?_
                have q_112 : (f_78 0 14).toInt = v_22.toInt := (congrArg Int32.toInt (show f_78 0 14 = v_22 from ((hk_f_78 0 14 (by decide)).trans (by rw [ef_73, sg_up_s, sgu_n (by decide)]; exact ev_22.symm))))
                refine sg_calli (va_runV (As := []) (rest := []) ⟨hx, hb, hml, hown, hts⟩ (kX12_byteAt l D ca za h hh f_78 L Q hI H.size) (sl_c12_byteAt_0_0_0_0_12 hts ⟨Nat.le_of_ble_eq_true rfl, Nat.le_of_ble_eq_true rfl⟩) (sl_vM_0 hA hK hP hS hZ) rfl rfl hl.1 rfl (lv_room (Nat.le_of_ble_eq_true rfl)) dX12_product_87 ⟨Nat.le_refl _, Nat.le_refl _⟩) hA hS (fun r_116 f_113 L_114 Q_115 H locs hq hP hS => ?_)
                obtain ⟨⟨ef9, eL9, eQ9⟩, hq, p_117, u_118⟩ := hq
                rw [ef9, eL9, eQ9] at hP; clear ef9 eL9 eQ9
                refine lv_istore_n (lv' := [(2, .int r_116), (1, .int 0), (3, .int r_81), (0, .ref (h 0))]) hx hb dX12_product_90 rfl hl (by decide) rfl (fun ls hl => ?_)
                refine lv_goto (tgt := 10) hx hb dX12_product_91 (by decide) ?_
                exact ih_10 0 r_116 f_78 _ _ _ (hs.trans ((if_pos c_99).trans (spl_e u_118 rfl))) (by have kc0 : (0 : Int32).toInt = 0 := ti_0; have zz0_13 : (f_78 0 13).toInt = v_86.toInt := (congrArg Int32.toInt (show f_78 0 13 = v_86 from ev_86.symm)); omega) ⟨by omega, by omega⟩ (by have kc0 : (0 : Int32).toInt = 0 := ti_0; have zz0_13 : (f_78 0 13).toInt = v_86.toInt := (congrArg Int32.toInt (show f_78 0 13 = v_86 from ev_86.symm)); omega) (by have kc0 : (0 : Int32).toInt = 0 := ti_0; have zz0_16 : (f_78 0 16).toInt = v_89.toInt := (congrArg Int32.toInt (show f_78 0 16 = v_89 from ev_89.symm)); omega) (by have kc0 : (0 : Int32).toInt = 0 := ti_0; have zz0_15 : (f_78 0 15).toInt = v_92.toInt := (congrArg Int32.toInt (show f_78 0 15 = v_92 from ev_92.symm)); have zz0_16 : (f_78 0 16).toInt = v_89.toInt := (congrArg Int32.toInt (show f_78 0 16 = v_89 from ev_89.symm)); omega) (by have kc0 : (0 : Int32).toInt = 0 := ti_0; have zz0_13 : (f_78 0 13).toInt = v_86.toInt := (congrArg Int32.toInt (show f_78 0 13 = v_86 from ev_86.symm)); have zz0_14 : (f_78 0 14).toInt = v_22.toInt := (congrArg Int32.toInt (show f_78 0 14 = v_22 from ((hk_f_78 0 14 (by decide)).trans (by rw [ef_73, sg_up_s, sgu_n (by decide)]; exact ev_22.symm)))); omega) hI hF hP hS (lv_sub hl [3, 1, 0] rfl)
            · skip
              exfalso; have c_97 : y2_10.toInt = 42 := (by first | exact (cm_eq1 ti_42 c) | (have z := Int32.toInt_inj.mpr c; have k1 : (42 : Int32).toInt = 42 := ti_42; omega)); first | exact absurd c_97 (by assumption) | omega
          · skip
            have c_70 : y2_10.toInt ≠ 47 := (by first | exact (cm_ne1 ti_47 c) | (have z := bn_ne c; have k1 : (47 : Int32).toInt = 47 := ti_47; omega))
            replace hs := hs.trans ((if_neg c_70).trans rfl)
            refine lv_iload_n hx hb dX12_product_29 rfl (lv_at hl 2 rfl) ?_
            refine lv_bipush (v := 37) hx hb dX12_product_30 bp_37 ?_
            refine lv_icmp_ne (tgt := 94) hx hb dX12_product_32 (by decide) (fun c => ?_) (fun c => ?_)
            · skip
              have c_119 : y2_10.toInt ≠ 37 := (by first | exact (cm_ne1 ti_37 c) | (have z := bn_ne c; have k1 : (37 : Int32).toInt = 37 := ti_37; omega))
              refine lv_iload_n hx hb dX12_product_94 rfl (lv_at hl 1 rfl) ?_
              exact hret _ _ _ _ (y1_10) fp_10 L Q dX12_product_95 hP hS ⟨⟨hI, hF, rfl, rfl⟩, trivial, (by omega), (by omega), (by omega), (Eq.trans (Eq.symm (hs.trans ((if_neg c_119).trans rfl))) hsp)⟩
            · skip
              have c_120 : y2_10.toInt = 37 := (by first | exact (cm_eq1 ti_37 c) | (have z := Int32.toInt_inj.mpr c; have k1 : (37 : Int32).toInt = 37 := ti_37; omega))
              refine lv_aload_n hx hb dX12_product_35 rfl (lv_at hl 0 rfl) ?_
              refine lv_dup hx hb dX12_product_36 rfl ?_
              refine sl_gM_0_13_12 (v := v_13) hx hb hts hown hK hP (show fp_10 0 13 = v_13 from ev_13.symm) dX12_product_37 ?_
              refine lv_iconst (v := 1) hx hb dX12_product_40 ic_1 ?_
              refine lv_iadd hx hb dX12_product_41 ?_
              refine lv_topi (fun v_125 ev_125 => ?_)
              have q_126 : v_125.toInt = v_13.toInt + 1 := by rw [ev_125]; first | exact cm_add ti_1 (by omega) (by omega) | (have k1 : (1 : Int32).toInt = 1 := ti_1; exact (bn_addI (by omega) (by omega)).trans (by omega))
              refine sl_pM_0_13_12 (x := v_125) hx hb hts hown hh hA hK hP hS dX12_product_42 (fun f_127 H locs ef_127 hP hS => ?_)
              have hI : sgI loM hiM f_127 := by rw [ef_127]; exact sgI.put hI 0 13 (show 0 ≤ (v_125 : Int32).toInt ∧ (v_125 : Int32).toInt ≤ 120 from ⟨by omega, by omega⟩)
              have hF : sgK WkX12_product_3 f f_127 := sgK.put hF ef_127 (by rfl)
              refine lv_aload_n hx hb dX12_product_45 rfl (lv_at hl 0 rfl) ?_
              have q_128 : (f_127 0 16).toInt = v_16.toInt := (congrArg Int32.toInt (show f_127 0 16 = v_16 from (by rw [ef_127, sg_up_s, sgu_n (by decide)]; exact ev_16.symm)))
              have q_129 : (f_127 0 15).toInt = v_19.toInt := (congrArg Int32.toInt (show f_127 0 15 = v_19 from (by rw [ef_127, sg_up_s, sgu_n (by decide)]; exact ev_19.symm)))
              have q_131 : (f_127 0 13).toInt = v_125.toInt := (congrArg Int32.toInt (show f_127 0 13 = v_125 from (by rw [ef_127, sg_up_s, sgu_s])))
              refine sg_calli (va_runV (As := []) (rest := []) ⟨hx, hb, hml, hown, hts⟩ (kX12_one_3 l D ca za h hh f_127 L Q hI (by omega) (by omega) H.size) (sl_c12_one_19_0_0_431_12 hts ⟨Nat.le_of_ble_eq_true rfl, Nat.le_of_ble_eq_true rfl⟩) (sl_vM_0 hA hK hP hS hZ) rfl rfl hl.1 rfl (lv_room (Nat.le_of_ble_eq_true rfl)) dX12_product_46 ⟨Nat.le_refl _, Nat.le_refl _⟩) hA hS (fun r_135 f_132 L_133 Q_134 H locs hq hP hS => ?_)
              obtain ⟨⟨hI, hk_f_132, eL9, eQ9⟩, hq, p_136, p_137, p_138, u_139⟩ := hq
              rw [eL9, eQ9] at hP; clear eL9 eQ9
              have hF : sgK WkX12_product_3 f f_132 := sgK.tr hF hk_f_132 (by decide +kernel)
              obtain ⟨v_140, ev_140⟩ : ∃ z : Int32, z = f_132 0 13 := ⟨_, rfl⟩
              have q_141 : 0 ≤ v_140.toInt ∧ v_140.toInt ≤ 120 := by rw [ev_140]; exact hI 0 13
              have q_142 : (f_132 0 13).toInt = v_140.toInt := (congrArg Int32.toInt (show f_132 0 13 = v_140 from ev_140.symm))
              obtain ⟨v_143, ev_143⟩ : ∃ z : Int32, z = f_132 0 16 := ⟨_, rfl⟩
              have q_144 : 0 ≤ v_143.toInt ∧ v_143.toInt ≤ 6 := by rw [ev_143]; exact hI 0 16
              have q_145 : (f_132 0 16).toInt = v_143.toInt := (congrArg Int32.toInt (show f_132 0 16 = v_143 from ev_143.symm))
              obtain ⟨v_146, ev_146⟩ : ∃ z : Int32, z = f_132 0 15 := ⟨_, rfl⟩
              replace hs := hs.trans ((if_pos c_120).trans (spl_e ev_125 (spl_e ef_127 (spl2_e u_139 (spl_e ev_140 (spl_e ev_143 (spl_e ev_146 rfl)))))))
              have q_147 : (-1) ≤ v_146.toInt ∧ v_146.toInt ≤ 120 := by rw [ev_146]; exact hI 0 15
              have q_148 : (f_132 0 15).toInt = v_146.toInt := (congrArg Int32.toInt (show f_132 0 15 = v_146 from ev_146.symm))
              refine lv_istore_n (lv' := [(3, .int r_135), (0, .ref (h 0)), (1, .int y1_10), (2, .int y2_10)]) hx hb dX12_product_49 rfl hl (by decide) rfl (fun ls hl => ?_)
              refine lv_iload_n hx hb dX12_product_50 rfl (lv_at hl 3 rfl) ?_
              refine lv_bipush (v := 42) hx hb dX12_product_51 bp_42 ?_
              refine lv_icmp_ne (tgt := 62) hx hb dX12_product_53 (by decide) (fun c => ?_) (fun c => ?_)
              · skip
                have c_150 : y2_10.toInt ≠ 42 := (by first | exact (cm_ne1 ti_42 c) | (have z := bn_ne c; have k1 : (42 : Int32).toInt = 42 := ti_42; omega))
                refine lv_iload_n hx hb dX12_product_62 rfl (lv_at hl 0 rfl) ?_
                refine lv_if_ne (tgt := 70) hx hb dX12_product_63 (by decide) (fun c => ?_) (fun c => ?_)
                · skip
                  have c_152 : r_135.toInt ≠ 0 := (by first | exact (cm_ne1 ti_0 c) | (have z := bn_ne c; have k1 : (0 : Int32).toInt = 0 := ti_0; omega))
                  refine lv_iload_n hx hb dX12_product_70 rfl (lv_at hl 3 rfl) ?_
                  refine lv_bipush (v := 47) hx hb dX12_product_71 bp_47 ?_
                  refine lv_icmp_ne (tgt := 82) hx hb dX12_product_73 (by decide) (fun c => ?_) (fun c => ?_)
                  · skip
                    have c_154 : y2_10.toInt ≠ 47 := (by first | exact (cm_ne1 ti_47 c) | (have z := bn_ne c; have k1 : (47 : Int32).toInt = 47 := ti_47; omega))
                    refine lv_iload_n hx hb dX12_product_82 rfl (lv_at hl 2 rfl) ?_
                    refine lv_iload_n hx hb dX12_product_83 rfl (lv_at hl 0 rfl) ?_
                    refine lv_irem hx hb dX12_product_84 (bn_nz (by omega)) ?_
                    refine lv_topi (fun v_156 ev_156 => ?_)
                    refine lv_istore_n (lv' := [(1, .int v_156), (3, .int r_135), (0, .ref (h 0)), (2, .int y2_10)]) hx hb dX12_product_85 rfl hl (by decide) rfl (fun ls hl => ?_)
                    refine lv_aload_n hx hb dX12_product_86 rfl (lv_at hl 2 rfl) ?_
                    have q_158 : (f_132 0 14).toInt = v_22.toInt := (congrArg Int32.toInt (show f_132 0 14 = v_22 from ((hk_f_132 0 14 (by decide)).trans (by rw [ef_127, sg_up_s, sgu_n (by decide)]; exact ev_22.symm))))
                    refine sg_calli (va_runV (As := []) (rest := []) ⟨hx, hb, hml, hown, hts⟩ (kX12_byteAt l D ca za h hh f_132 L Q hI H.size) (sl_c12_byteAt_0_0_0_0_12 hts ⟨Nat.le_of_ble_eq_true rfl, Nat.le_of_ble_eq_true rfl⟩) (sl_vM_0 hA hK hP hS hZ) rfl rfl hl.1 rfl (lv_room (Nat.le_of_ble_eq_true rfl)) dX12_product_87 ⟨Nat.le_refl _, Nat.le_refl _⟩) hA hS (fun r_162 f_159 L_160 Q_161 H locs hq hP hS => ?_)
                    obtain ⟨⟨ef9, eL9, eQ9⟩, hq, p_163, u_164⟩ := hq
                    rw [ef9, eL9, eQ9] at hP; clear ef9 eL9 eQ9
                    refine lv_istore_n (lv' := [(2, .int r_162), (1, .int v_156), (3, .int r_135), (0, .ref (h 0))]) hx hb dX12_product_90 rfl hl (by decide) rfl (fun ls hl => ?_)
                    refine lv_goto (tgt := 10) hx hb dX12_product_91 (by decide) ?_
                    exact ih_10 v_156 r_162 f_132 _ _ _ (hs.trans ((if_neg c_152).trans (spl_e ev_156 (spl_e u_164 rfl)))) (by have zz0_13 : (f_132 0 13).toInt = v_140.toInt := (congrArg Int32.toInt (show f_132 0 13 = v_140 from ev_140.symm)); omega) ⟨by omega, by omega⟩ (by have zz0_13 : (f_132 0 13).toInt = v_140.toInt := (congrArg Int32.toInt (show f_132 0 13 = v_140 from ev_140.symm)); omega) (by have zz0_16 : (f_132 0 16).toInt = v_143.toInt := (congrArg Int32.toInt (show f_132 0 16 = v_143 from ev_143.symm)); omega) (by have zz0_15 : (f_132 0 15).toInt = v_146.toInt := (congrArg Int32.toInt (show f_132 0 15 = v_146 from ev_146.symm)); have zz0_16 : (f_132 0 16).toInt = v_143.toInt := (congrArg Int32.toInt (show f_132 0 16 = v_143 from ev_143.symm)); omega) (by have zz0_13 : (f_132 0 13).toInt = v_140.toInt := (congrArg Int32.toInt (show f_132 0 13 = v_140 from ev_140.symm)); have zz0_14 : (f_132 0 14).toInt = v_22.toInt := (congrArg Int32.toInt (show f_132 0 14 = v_22 from ((hk_f_132 0 14 (by decide)).trans (by rw [ef_127, sg_up_s, sgu_n (by decide)]; exact ev_22.symm)))); omega) hI hF hP hS (lv_sub hl [3, 1, 0] rfl)
                  · skip
                    exfalso; have c_155 : y2_10.toInt = 47 := (by first | exact (cm_eq1 ti_47 c) | (have z := Int32.toInt_inj.mpr c; have k1 : (47 : Int32).toInt = 47 := ti_47; omega)); first | exact absurd c_155 (by assumption) | omega
                · skip
                  have c_153 : r_135.toInt = 0 := (by first | exact (cm_eq1 ti_0 c) | (have z := Int32.toInt_inj.mpr c; have k1 : (0 : Int32).toInt = 0 := ti_0; omega))
                  refine lv_iconst (v := 0) hx hb dX12_product_66 ic_0 ?_
                  refine lv_goto (tgt := 85) hx hb dX12_product_67 (by decide) ?_
                  refine lv_istore_n (lv' := [(1, .int 0), (3, .int r_135), (0, .ref (h 0)), (2, .int y2_10)]) hx hb dX12_product_85 rfl hl (by decide) rfl (fun ls hl => ?_)
                  refine lv_aload_n hx hb dX12_product_86 rfl (lv_at hl 2 rfl) ?_
                  have q_166 : (f_132 0 14).toInt = v_22.toInt := (congrArg Int32.toInt (show f_132 0 14 = v_22 from ((hk_f_132 0 14 (by decide)).trans (by rw [ef_127, sg_up_s, sgu_n (by decide)]; exact ev_22.symm))))
                  refine sg_calli (va_runV (As := []) (rest := []) ⟨hx, hb, hml, hown, hts⟩ (kX12_byteAt l D ca za h hh f_132 L Q hI H.size) (sl_c12_byteAt_0_0_0_0_12 hts ⟨Nat.le_of_ble_eq_true rfl, Nat.le_of_ble_eq_true rfl⟩) (sl_vM_0 hA hK hP hS hZ) rfl rfl hl.1 rfl (lv_room (Nat.le_of_ble_eq_true rfl)) dX12_product_87 ⟨Nat.le_refl _, Nat.le_refl _⟩) hA hS (fun r_170 f_167 L_168 Q_169 H locs hq hP hS => ?_)
                  obtain ⟨⟨ef9, eL9, eQ9⟩, hq, p_171, u_172⟩ := hq
                  rw [ef9, eL9, eQ9] at hP; clear ef9 eL9 eQ9
                  refine lv_istore_n (lv' := [(2, .int r_170), (1, .int 0), (3, .int r_135), (0, .ref (h 0))]) hx hb dX12_product_90 rfl hl (by decide) rfl (fun ls hl => ?_)
                  refine lv_goto (tgt := 10) hx hb dX12_product_91 (by decide) ?_
                  exact ih_10 0 r_170 f_132 _ _ _ (hs.trans ((if_pos c_153).trans (spl_e u_172 rfl))) (by have kc0 : (0 : Int32).toInt = 0 := ti_0; have zz0_13 : (f_132 0 13).toInt = v_140.toInt := (congrArg Int32.toInt (show f_132 0 13 = v_140 from ev_140.symm)); omega) ⟨by omega, by omega⟩ (by have kc0 : (0 : Int32).toInt = 0 := ti_0; have zz0_13 : (f_132 0 13).toInt = v_140.toInt := (congrArg Int32.toInt (show f_132 0 13 = v_140 from ev_140.symm)); omega) (by have kc0 : (0 : Int32).toInt = 0 := ti_0; have zz0_16 : (f_132 0 16).toInt = v_143.toInt := (congrArg Int32.toInt (show f_132 0 16 = v_143 from ev_143.symm)); omega) (by have kc0 : (0 : Int32).toInt = 0 := ti_0; have zz0_15 : (f_132 0 15).toInt = v_146.toInt := (congrArg Int32.toInt (show f_132 0 15 = v_146 from ev_146.symm)); have zz0_16 : (f_132 0 16).toInt = v_143.toInt := (congrArg Int32.toInt (show f_132 0 16 = v_143 from ev_143.symm)); omega) (by have kc0 : (0 : Int32).toInt = 0 := ti_0; have zz0_13 : (f_132 0 13).toInt = v_140.toInt := (congrArg Int32.toInt (show f_132 0 13 = v_140 from ev_140.symm)); have zz0_14 : (f_132 0 14).toInt = v_22.toInt := (congrArg Int32.toInt (show f_132 0 14 = v_22 from ((hk_f_132 0 14 (by decide)).trans (by rw [ef_127, sg_up_s, sgu_n (by decide)]; exact ev_22.symm)))); omega) hI hF hP hS (lv_sub hl [3, 1, 0] rfl)
              · skip
                exfalso; have c_151 : y2_10.toInt = 42 := (by first | exact (cm_eq1 ti_42 c) | (have z := Int32.toInt_inj.mpr c; have k1 : (42 : Int32).toInt = 42 := ti_42; omega)); first | exact absurd c_151 (by assumption) | omega
  refine lv_aload_n hx hb dX12_product_0 rfl (lv_at hl 0 rfl) ?_
  have q_173 : (f 0 16).toInt = v_1.toInt := (congrArg Int32.toInt (show f 0 16 = v_1 from ev_1.symm))
  have q_174 : (f 0 15).toInt = v_3.toInt := (congrArg Int32.toInt (show f 0 15 = v_3 from ev_3.symm))
  have q_176 : (f 0 13).toInt = v_5.toInt := (congrArg Int32.toInt (show f 0 13 = v_5 from ev_5.symm))
  refine sg_calli (va_runV (As := []) (rest := []) ⟨hx, hb, hml, hown, hts⟩ (kX12_one_3 l D ca za h hh f L Q hI (by omega) (by omega) H.size) (sl_c12_one_19_0_0_431_12 hts ⟨Nat.le_of_ble_eq_true rfl, Nat.le_of_ble_eq_true rfl⟩) (sl_vM_0 hA hK hP hS hZ) rfl rfl hl.1 rfl (lv_room (Nat.le_of_ble_eq_true rfl)) dX12_product_1 ⟨Nat.le_refl _, Nat.le_refl _⟩) hA hS (fun r_180 f_177 L_178 Q_179 H locs hq hP hS => ?_)
  obtain ⟨⟨hI, hk_f_177, eL9, eQ9⟩, hq, p_181, p_182, p_183, u_184⟩ := hq
  rw [eL9, eQ9] at hP; clear eL9 eQ9
  have hF : sgK WkX12_product_3 f f_177 := sgK.tr hF hk_f_177 (by decide +kernel)
  obtain ⟨v_185, ev_185⟩ : ∃ z : Int32, z = f_177 0 13 := ⟨_, rfl⟩
  have q_186 : 0 ≤ v_185.toInt ∧ v_185.toInt ≤ 120 := by rw [ev_185]; exact hI 0 13
  have q_187 : (f_177 0 13).toInt = v_185.toInt := (congrArg Int32.toInt (show f_177 0 13 = v_185 from ev_185.symm))
  obtain ⟨v_188, ev_188⟩ : ∃ z : Int32, z = f_177 0 16 := ⟨_, rfl⟩
  have q_189 : 0 ≤ v_188.toInt ∧ v_188.toInt ≤ 6 := by rw [ev_188]; exact hI 0 16
  have q_190 : (f_177 0 16).toInt = v_188.toInt := (congrArg Int32.toInt (show f_177 0 16 = v_188 from ev_188.symm))
  obtain ⟨v_191, ev_191⟩ : ∃ z : Int32, z = f_177 0 15 := ⟨_, rfl⟩
  have q_192 : (-1) ≤ v_191.toInt ∧ v_191.toInt ≤ 120 := by rw [ev_191]; exact hI 0 15
  have q_193 : (f_177 0 15).toInt = v_191.toInt := (congrArg Int32.toInt (show f_177 0 15 = v_191 from ev_191.symm))
  refine lv_istore_n (lv' := [(1, .int r_180), (0, .ref (h 0))]) hx hb dX12_product_4 rfl hl (by decide) rfl (fun ls hl => ?_)
  refine lv_aload_n hx hb dX12_product_5 rfl (lv_at hl 1 rfl) ?_
  have q_196 : (f_177 0 14).toInt = v_7.toInt := (congrArg Int32.toInt (show f_177 0 14 = v_7 from ((hk_f_177 0 14 (by decide)).trans ev_7.symm)))
  refine sg_calli (va_runV (As := []) (rest := []) ⟨hx, hb, hml, hown, hts⟩ (kX12_byteAt l D ca za h hh f_177 L Q hI H.size) (sl_c12_byteAt_0_0_0_0_12 hts ⟨Nat.le_of_ble_eq_true rfl, Nat.le_of_ble_eq_true rfl⟩) (sl_vM_0 hA hK hP hS hZ) rfl rfl hl.1 rfl (lv_room (Nat.le_of_ble_eq_true rfl)) dX12_product_6 ⟨Nat.le_refl _, Nat.le_refl _⟩) hA hS (fun r_200 f_197 L_198 Q_199 H locs hq hP hS => ?_)
  obtain ⟨⟨ef9, eL9, eQ9⟩, hq, p_201, u_202⟩ := hq
  rw [ef9, eL9, eQ9] at hP; clear ef9 eL9 eQ9
  refine lv_istore_n (lv' := [(2, .int r_200), (1, .int r_180), (0, .ref (h 0))]) hx hb dX12_product_9 rfl hl (by decide) rfl (fun ls hl => ?_)
  exact loop_10 121 r_180 r_200 f_177 _ _ _ (hs.trans ((spl_e ev_1 (spl_e ev_3 (spl_e ev_5 (spl_e ev_7 (spl2_e u_184 (spl_e ev_185 (spl_e ev_188 (spl_e ev_191 (spl_e u_202 rfl))))))))))) (by have zz0_13 : (f_177 0 13).toInt = v_185.toInt := (congrArg Int32.toInt (show f_177 0 13 = v_185 from ev_185.symm)); omega) ⟨by omega, by omega⟩ (by have zz0_13 : (f_177 0 13).toInt = v_185.toInt := (congrArg Int32.toInt (show f_177 0 13 = v_185 from ev_185.symm)); omega) (by have zz0_16 : (f_177 0 16).toInt = v_188.toInt := (congrArg Int32.toInt (show f_177 0 16 = v_188 from ev_188.symm)); omega) (by have zz0_15 : (f_177 0 15).toInt = v_191.toInt := (congrArg Int32.toInt (show f_177 0 15 = v_191 from ev_191.symm)); have zz0_16 : (f_177 0 16).toInt = v_188.toInt := (congrArg Int32.toInt (show f_177 0 16 = v_188 from ev_188.symm)); omega) (by have zz0_13 : (f_177 0 13).toInt = v_185.toInt := (congrArg Int32.toInt (show f_177 0 13 = v_185 from ev_185.symm)); have zz0_14 : (f_177 0 14).toInt = v_7.toInt := (congrArg Int32.toInt (show f_177 0 14 = v_7 from ((hk_f_177 0 14 (by decide)).trans ev_7.symm))); omega) hI hF hP hS (lv_sub hl [2, 1, 0] rfl)

abbrev WkX12_sums_3 : List (Nat × Nat × Option Nat) := [(0, 0, some 13), (0, 0, some 15), (0, 0, some 16)]
set_option maxHeartbeats 4000000 in
set_option maxRecDepth 100000 in
theorem kX12_sums_3 (l : Launch) (D : va_G) (ca : Nat → ClassId) (za h : Nat → Nat) (hh : sgH 26 h) (f : sg_F) (L : sg_L) (Q : sg_Q) (hI : sgI loM hiM f) (p0 : 3 ≤ (f 0 16).toInt) (p1 : 0 ≤ (f 0 15).toInt ∨ (f 0 16).toInt = 3) (sz : Nat) : Met l yX12_sums gwX12_sums { frames := 21, cells := 0, slots := 0, locals := 478 } (sgP D vwCl (tyX ca) 26 h (eM ca h) zcM za f L Q sz [.ref (h 0)]) (sgQi D vwCl 26 h (eM ca h) sz (fun r f1 L1 Q1 => ((sgI loM hiM f1 ∧ sgK WkX12_sums_3 f f1 ∧ L1 = L ∧ Q1 = Q) ∧ True ∧ ((f 0 13).toInt ≤ (f1 0 13).toInt) ∧ (3 ≤ (f1 0 16).toInt) ∧ (0 ≤ (f1 0 15).toInt ∨ (f1 0 16).toInt = 3) ∧ (r, f1) = sX12_sums_3 f L))) 0 0 (sgA 26 h sz) := by
  refine sg_ofWi (cc := cX12_sums) (maxL := 4) RX12 (by decide) rfl rfl (Nat.le_of_ble_eq_true rfl) ?_
  intro p e s m below meth cd Qz ls hx hb hml hown hts hK hZ hP hS hl hret
  have hA := sgY.self (n := 26) (h := h) (sz := s.heap.size)
  have hl : lv_has ls 4 [(0, .ref (h 0))] := hl
  obtain ⟨H, hH⟩ : ∃ z : Heap, z = s.heap := ⟨_, rfl⟩
  obtain ⟨locs, hlo⟩ : ∃ z : List Loc, z = [] := ⟨_, rfl⟩
  have hP : va_P D vwCl (sgw 26 h (eM ca h) f L Q) H := by rw [hH]; exact hP
  have hS : va_S (sgA 26 h s.heap.size) s.heap H locs := by rw [hH, hlo]; exact hS
  suffices hgo : W p l e ({ frames := 21, cells := 0, slots := 0, locals := 478 }) s m ([.ref (h 0)] : List Value).toArray below meth cd H locs 0 0 Qz (F0 m 0 ls []) by rw [hH, hlo] at hgo; exact hgo
  clear hH hlo
  obtain ⟨sp, hsp⟩ : ∃ z : Int32 × sg_F, z = sX12_sums_3 f L := ⟨_, rfl⟩
  have hs : sp = sX12_sums_3 f L := hsp
  obtain ⟨v_1, ev_1⟩ : ∃ z : Int32, z = f 0 16 := ⟨_, rfl⟩
  have q_2 : 0 ≤ v_1.toInt ∧ v_1.toInt ≤ 6 := by rw [ev_1]; exact hI 0 16
  obtain ⟨v_3, ev_3⟩ : ∃ z : Int32, z = f 0 15 := ⟨_, rfl⟩
  have q_4 : (-1) ≤ v_3.toInt ∧ v_3.toInt ≤ 120 := by rw [ev_3]; exact hI 0 15
  obtain ⟨v_5, ev_5⟩ : ∃ z : Int32, z = f 0 13 := ⟨_, rfl⟩
  have q_6 : 0 ≤ v_5.toInt ∧ v_5.toInt ≤ 120 := by rw [ev_5]; exact hI 0 13
  have o_7 : (f 0 16).toInt = v_1.toInt := (congrArg Int32.toInt (show f 0 16 = v_1 from ev_1.symm))
  have o_8 : (f 0 15).toInt = v_3.toInt := (congrArg Int32.toInt (show f 0 15 = v_3 from ev_3.symm))
  have o_9 : (f 0 13).toInt = v_5.toInt := (congrArg Int32.toInt (show f 0 13 = v_5 from ev_5.symm))
  have hF : sgK WkX12_sums_3 f f := sgK.rf
  have loop_5 : ∀ (n_5 : Nat) (y1_5 : Int32) (fp_5 : sg_F) (H : Heap) (locs : List Loc) (ls : Array Slot), sp = sX12_sums_3_l5 n_5 y1_5 fp_5 L → 120 - (fp_5 0 13).toInt < (n_5 : Int) → (f 0 13).toInt ≤ (fp_5 0 13).toInt → 3 ≤ (fp_5 0 16).toInt → 0 ≤ (fp_5 0 15).toInt ∨ (fp_5 0 16).toInt = 3 → sgI loM hiM fp_5 → sgK WkX12_sums_3 f fp_5 → va_P D vwCl (sgw 26 h (eM ca h) fp_5 L Q) H → va_S (sgA 26 h s.heap.size) s.heap H locs → lv_has ls 4 [(0, .ref (h 0)), (1, .int y1_5)] → W p l e ({ frames := 21, cells := 0, slots := 0, locals := 478 }) s m ([.ref (h 0)] : List Value).toArray below meth cd H locs 0 0 Qz (F0 m 5 ls []) := by
    intro n_5
    induction n_5 with
    | zero => intro y1_5 fp_5 H locs ls hs hm_5 hg0_5 hg1_5 hg2_5 hI hF hP hS hl; have zb := (show 0 ≤ (fp_5 0 13).toInt ∧ (fp_5 0 13).toInt ≤ 120 from hI 0 13); exact absurd hm_5 (by omega)
    | succ n_5 ih_5 =>
      intro y1_5 fp_5 H locs ls hs hm_5 hg0_5 hg1_5 hg2_5 hI hF hP hS hl
      have hs : sp = sX12_sums_3_h5 (sX12_sums_3_l5 n_5) y1_5 fp_5 L := hs
      obtain ⟨v_10, ev_10⟩ : ∃ z : Int32, z = fp_5 0 13 := ⟨_, rfl⟩
      have q_11 : 0 ≤ v_10.toInt ∧ v_10.toInt ≤ 120 := by rw [ev_10]; exact hI 0 13
      have q_12 : (fp_5 0 13).toInt = v_10.toInt := by rw [ev_10]
      obtain ⟨v_13, ev_13⟩ : ∃ z : Int32, z = fp_5 0 16 := ⟨_, rfl⟩
      have q_14 : 0 ≤ v_13.toInt ∧ v_13.toInt ≤ 6 := by rw [ev_13]; exact hI 0 16
      have q_15 : (fp_5 0 16).toInt = v_13.toInt := by rw [ev_13]
      obtain ⟨v_16, ev_16⟩ : ∃ z : Int32, z = fp_5 0 15 := ⟨_, rfl⟩
      replace hs := hs.trans (spl_e ev_10 (spl_e ev_13 (spl_e ev_16 rfl)))
      have q_17 : (-1) ≤ v_16.toInt ∧ v_16.toInt ≤ 120 := by rw [ev_16]; exact hI 0 15
      have q_18 : (fp_5 0 15).toInt = v_16.toInt := by rw [ev_16]
      refine lv_aload_n hx hb dX12_sums_5 rfl (lv_at hl 0 rfl) ?_
      refine sl_gM_0_15_12 (v := v_16) hx hb hts hown hK hP (show fp_5 0 15 = v_16 from ev_16.symm) dX12_sums_6 ?_
      refine lv_if_ge (tgt := 77) hx hb dX12_sums_9 (by decide) (fun c => ?_) (fun c => ?_)
      · skip
        have c_19 : 0 ≤ v_16.toInt := (by first | exact (cm_le0 ti_0 c) | (have z := bn_le c; have k1 : (0 : Int32).toInt = 0 := ti_0; omega))
        refine lv_iload_n hx hb dX12_sums_77 rfl (lv_at hl 1 rfl) ?_
        exact hret _ _ _ _ (y1_5) fp_5 L Q dX12_sums_78 hP hS ⟨⟨hI, hF, rfl, rfl⟩, trivial, (by omega), (by omega), (by omega), (Eq.trans (Eq.symm (hs.trans ((if_neg (Int.not_lt.mpr c_19)).trans rfl))) hsp)⟩
      · skip
        have c_20 : v_16.toInt < 0 := (by first | exact (cm_nle0 ti_0 c) | (have z := bn_nle c; have k1 : (0 : Int32).toInt = 0 := ti_0; omega))
        refine lv_aload_n hx hb dX12_sums_12 rfl (lv_at hl 0 rfl) ?_
        obtain ⟨v_26, ev_26⟩ : ∃ z : Int32, z = fp_5 0 14 := ⟨_, rfl⟩
        have q_27 : 0 ≤ v_26.toInt ∧ v_26.toInt ≤ 120 := by rw [ev_26]; exact hI 0 14
        have q_28 : (fp_5 0 14).toInt = v_26.toInt := (congrArg Int32.toInt (show fp_5 0 14 = v_26 from ev_26.symm))
        refine sg_calli (va_runV (As := []) (rest := []) ⟨hx, hb, hml, hown, hts⟩ (kX12_byteAt l D ca za h hh fp_5 L Q hI H.size) (sl_c12_byteAt_0_0_0_0_12 hts ⟨Nat.le_of_ble_eq_true rfl, Nat.le_of_ble_eq_true rfl⟩) (sl_vM_0 hA hK hP hS hZ) rfl rfl hl.1 rfl (lv_room (Nat.le_of_ble_eq_true rfl)) dX12_sums_13 ⟨Nat.le_refl _, Nat.le_refl _⟩) hA hS (fun r_32 f_29 L_30 Q_31 H locs hq hP hS => ?_)
        obtain ⟨⟨ef9, eL9, eQ9⟩, hq, p_33, u_34⟩ := hq
        replace hs := hs.trans ((if_pos c_20).trans (spl_e ev_26 (spl_e u_34 rfl)))
        rw [ef9, eL9, eQ9] at hP; clear ef9 eL9 eQ9
        refine lv_bipush (v := 43) hx hb dX12_sums_16 bp_43 ?_
        refine lv_icmp_eq (tgt := 30) hx hb dX12_sums_18 (by decide) (fun c => ?_) (fun c => ?_)
        · skip
          have c_35 : r_32.toInt = 43 := (by first | exact (cm_eq1 ti_43 c) | (have z := Int32.toInt_inj.mpr c; have k1 : (43 : Int32).toInt = 43 := ti_43; omega))
          refine lv_aload_n hx hb dX12_sums_30 rfl (lv_at hl 0 rfl) ?_
          refine sg_calli (va_runV (As := []) (rest := []) ⟨hx, hb, hml, hown, hts⟩ (kX12_byteAt l D ca za h hh fp_5 L Q hI H.size) (sl_c12_byteAt_0_0_0_0_12 hts ⟨Nat.le_of_ble_eq_true rfl, Nat.le_of_ble_eq_true rfl⟩) (sl_vM_0 hA hK hP hS hZ) rfl rfl hl.1 rfl (lv_room (Nat.le_of_ble_eq_true rfl)) dX12_sums_31 ⟨Nat.le_refl _, Nat.le_refl _⟩) hA hS (fun r_42 f_39 L_40 Q_41 H locs hq hP hS => ?_)
          obtain ⟨⟨ef9, eL9, eQ9⟩, hq, p_43, u_44⟩ := hq
          rw [ef9, eL9, eQ9] at hP; clear ef9 eL9 eQ9
          rw [show r_42 = r_32 from u_44.trans u_34.symm]
          refine lv_bipush (v := 43) hx hb dX12_sums_34 bp_43 ?_
          refine lv_icmp_ne (tgt := 43) hx hb dX12_sums_36 (by decide) (fun c => ?_) (fun c => ?_)
          · skip
            exfalso; have c_45 : r_32.toInt ≠ 43 := (by first | exact (cm_ne1 ti_43 c) | (have z := bn_ne c; have k1 : (43 : Int32).toInt = 43 := ti_43; omega)); first | exact absurd (by assumption) c_45 | omega
          · skip
            have c_46 : r_32.toInt = 43 := (by first | exact (cm_eq1 ti_43 c) | (have z := Int32.toInt_inj.mpr c; have k1 : (43 : Int32).toInt = 43 := ti_43; omega))
            refine lv_iconst (v := 1) hx hb dX12_sums_39 ic_1 ?_
            refine lv_goto (tgt := 44) hx hb dX12_sums_40 (by decide) ?_
            refine lv_istore_n (lv' := [(2, .int 1), (0, .ref (h 0)), (1, .int y1_5)]) hx hb dX12_sums_44 rfl hl (by decide) rfl (fun ls hl => ?_)
            refine lv_aload_n hx hb dX12_sums_45 rfl (lv_at hl 1 rfl) ?_
            refine lv_dup hx hb dX12_sums_46 rfl ?_
            refine sl_gM_0_13_12 (v := v_10) hx hb hts hown hK hP (show fp_5 0 13 = v_10 from ev_10.symm) dX12_sums_47 ?_
            refine lv_iconst (v := 1) hx hb dX12_sums_50 ic_1 ?_
            refine lv_iadd hx hb dX12_sums_51 ?_
            refine lv_topi (fun v_47 ev_47 => ?_)
            have q_48 : v_47.toInt = v_10.toInt + 1 := by rw [ev_47]; first | exact cm_add ti_1 (by omega) (by omega) | (have k1 : (1 : Int32).toInt = 1 := ti_1; exact (bn_addI (by omega) (by omega)).trans (by omega))
            refine sl_pM_0_13_12 (x := v_47) hx hb hts hown hh hA hK hP hS dX12_sums_52 (fun f_49 H locs ef_49 hP hS => ?_)
            have hI : sgI loM hiM f_49 := by rw [ef_49]; exact sgI.put hI 0 13 (show 0 ≤ (v_47 : Int32).toInt ∧ (v_47 : Int32).toInt ≤ 120 from ⟨by omega, by omega⟩)
            have hF : sgK WkX12_sums_3 f f_49 := sgK.put hF ef_49 (by rfl)
            refine lv_aload_n hx hb dX12_sums_55 rfl (lv_at hl 1 rfl) ?_
            have q_50 : (f_49 0 16).toInt = v_13.toInt := (congrArg Int32.toInt (show f_49 0 16 = v_13 from (by rw [ef_49, sg_up_s, sgu_n (by decide)]; exact ev_13.symm)))
            have q_51 : (f_49 0 15).toInt = v_16.toInt := (congrArg Int32.toInt (show f_49 0 15 = v_16 from (by rw [ef_49, sg_up_s, sgu_n (by decide)]; exact ev_16.symm)))
            have q_53 : (f_49 0 13).toInt = v_47.toInt := (congrArg Int32.toInt (show f_49 0 13 = v_47 from (by rw [ef_49, sg_up_s, sgu_s])))
            refine sg_calli (va_runV (As := []) (rest := []) ⟨hx, hb, hml, hown, hts⟩ (kX12_product_3 l D ca za h hh f_49 L Q hI (by omega) (by omega) H.size) (sl_c12_product_20_0_0_455_12 hts ⟨Nat.le_of_ble_eq_true rfl, Nat.le_of_ble_eq_true rfl⟩) (sl_vM_0 hA hK hP hS hZ) rfl rfl hl.1 rfl (lv_room (Nat.le_of_ble_eq_true rfl)) dX12_sums_56 ⟨Nat.le_refl _, Nat.le_refl _⟩) hA hS (fun r_57 f_54 L_55 Q_56 H locs hq hP hS => ?_)
            obtain ⟨⟨hI, hk_f_54, eL9, eQ9⟩, hq, p_58, p_59, p_60, u_61⟩ := hq
            rw [eL9, eQ9] at hP; clear eL9 eQ9
            have hF : sgK WkX12_sums_3 f f_54 := sgK.tr hF hk_f_54 (by decide +kernel)
            obtain ⟨v_62, ev_62⟩ : ∃ z : Int32, z = f_54 0 13 := ⟨_, rfl⟩
            have q_63 : 0 ≤ v_62.toInt ∧ v_62.toInt ≤ 120 := by rw [ev_62]; exact hI 0 13
            have q_64 : (f_54 0 13).toInt = v_62.toInt := (congrArg Int32.toInt (show f_54 0 13 = v_62 from ev_62.symm))
            obtain ⟨v_65, ev_65⟩ : ∃ z : Int32, z = f_54 0 16 := ⟨_, rfl⟩
            have q_66 : 0 ≤ v_65.toInt ∧ v_65.toInt ≤ 6 := by rw [ev_65]; exact hI 0 16
            have q_67 : (f_54 0 16).toInt = v_65.toInt := (congrArg Int32.toInt (show f_54 0 16 = v_65 from ev_65.symm))
            obtain ⟨v_68, ev_68⟩ : ∃ z : Int32, z = f_54 0 15 := ⟨_, rfl⟩
            have q_69 : (-1) ≤ v_68.toInt ∧ v_68.toInt ≤ 120 := by rw [ev_68]; exact hI 0 15
            have q_70 : (f_54 0 15).toInt = v_68.toInt := (congrArg Int32.toInt (show f_54 0 15 = v_68 from ev_68.symm))
            refine lv_istore_n (lv' := [(3, .int r_57), (2, .int 1), (0, .ref (h 0)), (1, .int y1_5)]) hx hb dX12_sums_59 rfl hl (by decide) rfl (fun ls hl => ?_)
            refine lv_iload_n hx hb dX12_sums_60 rfl (lv_at hl 1 rfl) ?_
            refine lv_if_eq (tgt := 70) hx hb dX12_sums_61 (by decide) (fun c => absurd c (by decide)) (fun c => ?_)
            refine lv_iload_n hx hb dX12_sums_64 rfl (lv_at hl 3 rfl) ?_
            refine lv_iload_n hx hb dX12_sums_65 rfl (lv_at hl 0 rfl) ?_
            refine lv_iadd hx hb dX12_sums_66 ?_
            refine lv_topi (fun v_72 ev_72 => ?_)
            refine lv_goto (tgt := 73) hx hb dX12_sums_67 (by decide) ?_
            refine lv_istore_n (lv' := [(1, .int v_72), (3, .int r_57), (2, .int 1), (0, .ref (h 0))]) hx hb dX12_sums_73 rfl hl (by decide) rfl (fun ls hl => ?_)
            refine lv_goto (tgt := 5) hx hb dX12_sums_74 (by decide) ?_
            exact ih_5 v_72 f_54 _ _ _ (hs.trans ((if_pos c_35).trans (spl_e ev_47 (spl_e ef_49 (spl2_e u_61 (spl_e ev_62 (spl_e ev_65 (spl_e ev_68 (spl_e ev_72 rfl))))))))) (by have zz0_13 : (f_54 0 13).toInt = v_62.toInt := (congrArg Int32.toInt (show f_54 0 13 = v_62 from ev_62.symm)); omega) (by have zz0_13 : (f_54 0 13).toInt = v_62.toInt := (congrArg Int32.toInt (show f_54 0 13 = v_62 from ev_62.symm)); omega) (by have zz0_16 : (f_54 0 16).toInt = v_65.toInt := (congrArg Int32.toInt (show f_54 0 16 = v_65 from ev_65.symm)); omega) (by have zz0_15 : (f_54 0 15).toInt = v_68.toInt := (congrArg Int32.toInt (show f_54 0 15 = v_68 from ev_68.symm)); have zz0_16 : (f_54 0 16).toInt = v_65.toInt := (congrArg Int32.toInt (show f_54 0 16 = v_65 from ev_65.symm)); omega) hI hF hP hS (lv_sub hl [3, 0] rfl)
        · skip
          have c_36 : r_32.toInt ≠ 43 := (by first | exact (cm_ne1 ti_43 c) | (have z := bn_ne c; have k1 : (43 : Int32).toInt = 43 := ti_43; omega))
          replace hs := hs.trans ((if_neg c_36).trans rfl)
          refine lv_aload_n hx hb dX12_sums_21 rfl (lv_at hl 0 rfl) ?_
          refine sg_calli (va_runV (As := []) (rest := []) ⟨hx, hb, hml, hown, hts⟩ (kX12_byteAt l D ca za h hh fp_5 L Q hI H.size) (sl_c12_byteAt_0_0_0_0_12 hts ⟨Nat.le_of_ble_eq_true rfl, Nat.le_of_ble_eq_true rfl⟩) (sl_vM_0 hA hK hP hS hZ) rfl rfl hl.1 rfl (lv_room (Nat.le_of_ble_eq_true rfl)) dX12_sums_22 ⟨Nat.le_refl _, Nat.le_refl _⟩) hA hS (fun r_78 f_75 L_76 Q_77 H locs hq hP hS => ?_)
          obtain ⟨⟨ef9, eL9, eQ9⟩, hq, p_79, u_80⟩ := hq
          rw [ef9, eL9, eQ9] at hP; clear ef9 eL9 eQ9
          rw [show r_78 = r_32 from u_80.trans u_34.symm]
          refine lv_bipush (v := 45) hx hb dX12_sums_25 bp_45 ?_
          refine lv_icmp_ne (tgt := 77) hx hb dX12_sums_27 (by decide) (fun c => ?_) (fun c => ?_)
          · skip
            have c_81 : r_32.toInt ≠ 45 := (by first | exact (cm_ne1 ti_45 c) | (have z := bn_ne c; have k1 : (45 : Int32).toInt = 45 := ti_45; omega))
            refine lv_iload_n hx hb dX12_sums_77 rfl (lv_at hl 1 rfl) ?_
            exact hret _ _ _ _ (y1_5) fp_5 L Q dX12_sums_78 hP hS ⟨⟨hI, hF, rfl, rfl⟩, trivial, (by omega), (by omega), (by omega), (Eq.trans (Eq.symm (hs.trans ((if_neg c_81).trans rfl))) hsp)⟩
          · skip
            have c_82 : r_32.toInt = 45 := (by first | exact (cm_eq1 ti_45 c) | (have z := Int32.toInt_inj.mpr c; have k1 : (45 : Int32).toInt = 45 := ti_45; omega))
            refine lv_aload_n hx hb dX12_sums_30 rfl (lv_at hl 0 rfl) ?_
            refine sg_calli (va_runV (As := []) (rest := []) ⟨hx, hb, hml, hown, hts⟩ (kX12_byteAt l D ca za h hh fp_5 L Q hI H.size) (sl_c12_byteAt_0_0_0_0_12 hts ⟨Nat.le_of_ble_eq_true rfl, Nat.le_of_ble_eq_true rfl⟩) (sl_vM_0 hA hK hP hS hZ) rfl rfl hl.1 rfl (lv_room (Nat.le_of_ble_eq_true rfl)) dX12_sums_31 ⟨Nat.le_refl _, Nat.le_refl _⟩) hA hS (fun r_92 f_89 L_90 Q_91 H locs hq hP hS => ?_)
            obtain ⟨⟨ef9, eL9, eQ9⟩, hq, p_93, u_94⟩ := hq
            rw [ef9, eL9, eQ9] at hP; clear ef9 eL9 eQ9
            rw [show r_92 = r_32 from u_94.trans u_34.symm]
            refine lv_bipush (v := 43) hx hb dX12_sums_34 bp_43 ?_
            refine lv_icmp_ne (tgt := 43) hx hb dX12_sums_36 (by decide) (fun c => ?_) (fun c => ?_)
            · skip
              have c_95 : r_32.toInt ≠ 43 := (by first | exact (cm_ne1 ti_43 c) | (have z := bn_ne c; have k1 : (43 : Int32).toInt = 43 := ti_43; omega))
              refine lv_iconst (v := 0) hx hb dX12_sums_43 ic_0 ?_
              refine lv_istore_n (lv' := [(2, .int 0), (0, .ref (h 0)), (1, .int y1_5)]) hx hb dX12_sums_44 rfl hl (by decide) rfl (fun ls hl => ?_)
              refine lv_aload_n hx hb dX12_sums_45 rfl (lv_at hl 1 rfl) ?_
              refine lv_dup hx hb dX12_sums_46 rfl ?_
              refine sl_gM_0_13_12 (v := v_10) hx hb hts hown hK hP (show fp_5 0 13 = v_10 from ev_10.symm) dX12_sums_47 ?_
              refine lv_iconst (v := 1) hx hb dX12_sums_50 ic_1 ?_
              refine lv_iadd hx hb dX12_sums_51 ?_
              refine lv_topi (fun v_97 ev_97 => ?_)
              have q_98 : v_97.toInt = v_10.toInt + 1 := by rw [ev_97]; first | exact cm_add ti_1 (by omega) (by omega) | (have k1 : (1 : Int32).toInt = 1 := ti_1; exact (bn_addI (by omega) (by omega)).trans (by omega))
              refine sl_pM_0_13_12 (x := v_97) hx hb hts hown hh hA hK hP hS dX12_sums_52 (fun f_99 H locs ef_99 hP hS => ?_)
              have hI : sgI loM hiM f_99 := by rw [ef_99]; exact sgI.put hI 0 13 (show 0 ≤ (v_97 : Int32).toInt ∧ (v_97 : Int32).toInt ≤ 120 from ⟨by omega, by omega⟩)
              have hF : sgK WkX12_sums_3 f f_99 := sgK.put hF ef_99 (by rfl)
              refine lv_aload_n hx hb dX12_sums_55 rfl (lv_at hl 1 rfl) ?_
              have q_100 : (f_99 0 16).toInt = v_13.toInt := (congrArg Int32.toInt (show f_99 0 16 = v_13 from (by rw [ef_99, sg_up_s, sgu_n (by decide)]; exact ev_13.symm)))
              have q_101 : (f_99 0 15).toInt = v_16.toInt := (congrArg Int32.toInt (show f_99 0 15 = v_16 from (by rw [ef_99, sg_up_s, sgu_n (by decide)]; exact ev_16.symm)))
              have q_103 : (f_99 0 13).toInt = v_97.toInt := (congrArg Int32.toInt (show f_99 0 13 = v_97 from (by rw [ef_99, sg_up_s, sgu_s])))
              refine sg_calli (va_runV (As := []) (rest := []) ⟨hx, hb, hml, hown, hts⟩ (kX12_product_3 l D ca za h hh f_99 L Q hI (by omega) (by omega) H.size) (sl_c12_product_20_0_0_455_12 hts ⟨Nat.le_of_ble_eq_true rfl, Nat.le_of_ble_eq_true rfl⟩) (sl_vM_0 hA hK hP hS hZ) rfl rfl hl.1 rfl (lv_room (Nat.le_of_ble_eq_true rfl)) dX12_sums_56 ⟨Nat.le_refl _, Nat.le_refl _⟩) hA hS (fun r_107 f_104 L_105 Q_106 H locs hq hP hS => ?_)
              obtain ⟨⟨hI, hk_f_104, eL9, eQ9⟩, hq, p_108, p_109, p_110, u_111⟩ := hq
              rw [eL9, eQ9] at hP; clear eL9 eQ9
              have hF : sgK WkX12_sums_3 f f_104 := sgK.tr hF hk_f_104 (by decide +kernel)
              obtain ⟨v_112, ev_112⟩ : ∃ z : Int32, z = f_104 0 13 := ⟨_, rfl⟩
              have q_113 : 0 ≤ v_112.toInt ∧ v_112.toInt ≤ 120 := by rw [ev_112]; exact hI 0 13
              have q_114 : (f_104 0 13).toInt = v_112.toInt := (congrArg Int32.toInt (show f_104 0 13 = v_112 from ev_112.symm))
              obtain ⟨v_115, ev_115⟩ : ∃ z : Int32, z = f_104 0 16 := ⟨_, rfl⟩
              have q_116 : 0 ≤ v_115.toInt ∧ v_115.toInt ≤ 6 := by rw [ev_115]; exact hI 0 16
              have q_117 : (f_104 0 16).toInt = v_115.toInt := (congrArg Int32.toInt (show f_104 0 16 = v_115 from ev_115.symm))
              obtain ⟨v_118, ev_118⟩ : ∃ z : Int32, z = f_104 0 15 := ⟨_, rfl⟩
              have q_119 : (-1) ≤ v_118.toInt ∧ v_118.toInt ≤ 120 := by rw [ev_118]; exact hI 0 15
              have q_120 : (f_104 0 15).toInt = v_118.toInt := (congrArg Int32.toInt (show f_104 0 15 = v_118 from ev_118.symm))
              refine lv_istore_n (lv' := [(3, .int r_107), (2, .int 0), (0, .ref (h 0)), (1, .int y1_5)]) hx hb dX12_sums_59 rfl hl (by decide) rfl (fun ls hl => ?_)
              refine lv_iload_n hx hb dX12_sums_60 rfl (lv_at hl 1 rfl) ?_
              refine lv_if_eq (tgt := 70) hx hb dX12_sums_61 (by decide) (fun c => ?_) (fun c => absurd c (by decide))
              refine lv_iload_n hx hb dX12_sums_70 rfl (lv_at hl 3 rfl) ?_
              refine lv_iload_n hx hb dX12_sums_71 rfl (lv_at hl 0 rfl) ?_
              refine lv_isub hx hb dX12_sums_72 ?_
              refine lv_topi (fun v_122 ev_122 => ?_)
              refine lv_istore_n (lv' := [(1, .int v_122), (3, .int r_107), (2, .int 0), (0, .ref (h 0))]) hx hb dX12_sums_73 rfl hl (by decide) rfl (fun ls hl => ?_)
              refine lv_goto (tgt := 5) hx hb dX12_sums_74 (by decide) ?_
              exact ih_5 v_122 f_104 _ _ _ (hs.trans ((if_pos c_82).trans (spl_e ev_97 (spl_e ef_99 (spl2_e u_111 (spl_e ev_112 (spl_e ev_115 (spl_e ev_118 (spl_e ev_122 rfl))))))))) (by have zz0_13 : (f_104 0 13).toInt = v_112.toInt := (congrArg Int32.toInt (show f_104 0 13 = v_112 from ev_112.symm)); omega) (by have zz0_13 : (f_104 0 13).toInt = v_112.toInt := (congrArg Int32.toInt (show f_104 0 13 = v_112 from ev_112.symm)); omega) (by have zz0_16 : (f_104 0 16).toInt = v_115.toInt := (congrArg Int32.toInt (show f_104 0 16 = v_115 from ev_115.symm)); omega) (by have zz0_15 : (f_104 0 15).toInt = v_118.toInt := (congrArg Int32.toInt (show f_104 0 15 = v_118 from ev_118.symm)); have zz0_16 : (f_104 0 16).toInt = v_115.toInt := (congrArg Int32.toInt (show f_104 0 16 = v_115 from ev_115.symm)); omega) hI hF hP hS (lv_sub hl [3, 0] rfl)
            · skip
              exfalso; have c_96 : r_32.toInt = 43 := (by first | exact (cm_eq1 ti_43 c) | (have z := Int32.toInt_inj.mpr c; have k1 : (43 : Int32).toInt = 43 := ti_43; omega)); first | exact absurd c_96 (by assumption) | omega
  refine lv_aload_n hx hb dX12_sums_0 rfl (lv_at hl 0 rfl) ?_
  have q_123 : (f 0 16).toInt = v_1.toInt := (congrArg Int32.toInt (show f 0 16 = v_1 from ev_1.symm))
  have q_124 : (f 0 15).toInt = v_3.toInt := (congrArg Int32.toInt (show f 0 15 = v_3 from ev_3.symm))
  have q_126 : (f 0 13).toInt = v_5.toInt := (congrArg Int32.toInt (show f 0 13 = v_5 from ev_5.symm))
  refine sg_calli (va_runV (As := []) (rest := []) ⟨hx, hb, hml, hown, hts⟩ (kX12_product_3 l D ca za h hh f L Q hI (by omega) (by omega) H.size) (sl_c12_product_20_0_0_455_12 hts ⟨Nat.le_of_ble_eq_true rfl, Nat.le_of_ble_eq_true rfl⟩) (sl_vM_0 hA hK hP hS hZ) rfl rfl hl.1 rfl (lv_room (Nat.le_of_ble_eq_true rfl)) dX12_sums_1 ⟨Nat.le_refl _, Nat.le_refl _⟩) hA hS (fun r_130 f_127 L_128 Q_129 H locs hq hP hS => ?_)
  obtain ⟨⟨hI, hk_f_127, eL9, eQ9⟩, hq, p_131, p_132, p_133, u_134⟩ := hq
  rw [eL9, eQ9] at hP; clear eL9 eQ9
  have hF : sgK WkX12_sums_3 f f_127 := sgK.tr hF hk_f_127 (by decide +kernel)
  obtain ⟨v_135, ev_135⟩ : ∃ z : Int32, z = f_127 0 13 := ⟨_, rfl⟩
  have q_136 : 0 ≤ v_135.toInt ∧ v_135.toInt ≤ 120 := by rw [ev_135]; exact hI 0 13
  have q_137 : (f_127 0 13).toInt = v_135.toInt := (congrArg Int32.toInt (show f_127 0 13 = v_135 from ev_135.symm))
  obtain ⟨v_138, ev_138⟩ : ∃ z : Int32, z = f_127 0 16 := ⟨_, rfl⟩
  have q_139 : 0 ≤ v_138.toInt ∧ v_138.toInt ≤ 6 := by rw [ev_138]; exact hI 0 16
  have q_140 : (f_127 0 16).toInt = v_138.toInt := (congrArg Int32.toInt (show f_127 0 16 = v_138 from ev_138.symm))
  obtain ⟨v_141, ev_141⟩ : ∃ z : Int32, z = f_127 0 15 := ⟨_, rfl⟩
  have q_142 : (-1) ≤ v_141.toInt ∧ v_141.toInt ≤ 120 := by rw [ev_141]; exact hI 0 15
  have q_143 : (f_127 0 15).toInt = v_141.toInt := (congrArg Int32.toInt (show f_127 0 15 = v_141 from ev_141.symm))
  refine lv_istore_n (lv' := [(1, .int r_130), (0, .ref (h 0))]) hx hb dX12_sums_4 rfl hl (by decide) rfl (fun ls hl => ?_)
  exact loop_5 121 r_130 f_127 _ _ _ (hs.trans ((spl_e ev_1 (spl_e ev_3 (spl_e ev_5 (spl2_e u_134 (spl_e ev_135 (spl_e ev_138 (spl_e ev_141 rfl))))))))) (by have zz0_13 : (f_127 0 13).toInt = v_135.toInt := (congrArg Int32.toInt (show f_127 0 13 = v_135 from ev_135.symm)); omega) (by have zz0_13 : (f_127 0 13).toInt = v_135.toInt := (congrArg Int32.toInt (show f_127 0 13 = v_135 from ev_135.symm)); omega) (by have zz0_16 : (f_127 0 16).toInt = v_138.toInt := (congrArg Int32.toInt (show f_127 0 16 = v_138 from ev_138.symm)); omega) (by have zz0_15 : (f_127 0 15).toInt = v_141.toInt := (congrArg Int32.toInt (show f_127 0 15 = v_141 from ev_141.symm)); have zz0_16 : (f_127 0 16).toInt = v_138.toInt := (congrArg Int32.toInt (show f_127 0 16 = v_138 from ev_138.symm)); omega) hI hF hP hS (lv_sub hl [1, 0] rfl)

abbrev WkX12_compared_3 : List (Nat × Nat × Option Nat) := [(0, 0, some 13), (0, 0, some 15), (0, 0, some 16)]
set_option maxHeartbeats 4000000 in
set_option maxRecDepth 100000 in
theorem kX12_compared_3 (l : Launch) (D : va_G) (ca : Nat → ClassId) (za h : Nat → Nat) (hh : sgH 26 h) (f : sg_F) (L : sg_L) (Q : sg_Q) (hI : sgI loM hiM f) (p0 : 3 ≤ (f 0 16).toInt) (p1 : 0 ≤ (f 0 15).toInt ∨ (f 0 16).toInt = 3) (sz : Nat) : Met l yX12_compared gwX12_compared { frames := 22, cells := 0, slots := 0, locals := 501 } (sgP D vwCl (tyX ca) 26 h (eM ca h) zcM za f L Q sz [.ref (h 0)]) (sgQi D vwCl 26 h (eM ca h) sz (fun r f1 L1 Q1 => ((sgI loM hiM f1 ∧ sgK WkX12_compared_3 f f1 ∧ L1 = L ∧ Q1 = Q) ∧ True ∧ ((f 0 13).toInt ≤ (f1 0 13).toInt) ∧ (3 ≤ (f1 0 16).toInt) ∧ (0 ≤ (f1 0 15).toInt ∨ (f1 0 16).toInt = 3) ∧ (r, f1) = sX12_compared_3 f L))) 0 0 (sgA 26 h sz) := by
  refine sg_ofWi (cc := cX12_compared) (maxL := 4) RX12 (by decide) rfl rfl (Nat.le_of_ble_eq_true rfl) ?_
  intro p e s m below meth cd Qz ls hx hb hml hown hts hK hZ hP hS hl hret
  have hA := sgY.self (n := 26) (h := h) (sz := s.heap.size)
  have hl : lv_has ls 4 [(0, .ref (h 0))] := hl
  obtain ⟨H, hH⟩ : ∃ z : Heap, z = s.heap := ⟨_, rfl⟩
  obtain ⟨locs, hlo⟩ : ∃ z : List Loc, z = [] := ⟨_, rfl⟩
  have hP : va_P D vwCl (sgw 26 h (eM ca h) f L Q) H := by rw [hH]; exact hP
  have hS : va_S (sgA 26 h s.heap.size) s.heap H locs := by rw [hH, hlo]; exact hS
  suffices hgo : W p l e ({ frames := 22, cells := 0, slots := 0, locals := 501 }) s m ([.ref (h 0)] : List Value).toArray below meth cd H locs 0 0 Qz (F0 m 0 ls []) by rw [hH, hlo] at hgo; exact hgo
  clear hH hlo
  obtain ⟨sp, hsp⟩ : ∃ z : Int32 × sg_F, z = sX12_compared_3 f L := ⟨_, rfl⟩
  have hs : sp = sX12_compared_3 f L := hsp
  obtain ⟨v_1, ev_1⟩ : ∃ z : Int32, z = f 0 16 := ⟨_, rfl⟩
  have q_2 : 0 ≤ v_1.toInt ∧ v_1.toInt ≤ 6 := by rw [ev_1]; exact hI 0 16
  obtain ⟨v_3, ev_3⟩ : ∃ z : Int32, z = f 0 15 := ⟨_, rfl⟩
  have q_4 : (-1) ≤ v_3.toInt ∧ v_3.toInt ≤ 120 := by rw [ev_3]; exact hI 0 15
  obtain ⟨v_5, ev_5⟩ : ∃ z : Int32, z = f 0 13 := ⟨_, rfl⟩
  have q_6 : 0 ≤ v_5.toInt ∧ v_5.toInt ≤ 120 := by rw [ev_5]; exact hI 0 13
  have o_7 : (f 0 16).toInt = v_1.toInt := (congrArg Int32.toInt (show f 0 16 = v_1 from ev_1.symm))
  have o_8 : (f 0 15).toInt = v_3.toInt := (congrArg Int32.toInt (show f 0 15 = v_3 from ev_3.symm))
  have o_9 : (f 0 13).toInt = v_5.toInt := (congrArg Int32.toInt (show f 0 13 = v_5 from ev_5.symm))
  have hF : sgK WkX12_compared_3 f f := sgK.rf
  refine lv_aload_n hx hb dX12_compared_0 rfl (lv_at hl 0 rfl) ?_
  have q_10 : (f 0 16).toInt = v_1.toInt := (congrArg Int32.toInt (show f 0 16 = v_1 from ev_1.symm))
  have q_11 : (f 0 15).toInt = v_3.toInt := (congrArg Int32.toInt (show f 0 15 = v_3 from ev_3.symm))
  have q_13 : (f 0 13).toInt = v_5.toInt := (congrArg Int32.toInt (show f 0 13 = v_5 from ev_5.symm))
  refine sg_calli (va_runV (As := []) (rest := []) ⟨hx, hb, hml, hown, hts⟩ (kX12_sums_3 l D ca za h hh f L Q hI (by omega) (by omega) H.size) (sl_c12_sums_21_0_0_478_12 hts ⟨Nat.le_of_ble_eq_true rfl, Nat.le_of_ble_eq_true rfl⟩) (sl_vM_0 hA hK hP hS hZ) rfl rfl hl.1 rfl (lv_room (Nat.le_of_ble_eq_true rfl)) dX12_compared_1 ⟨Nat.le_refl _, Nat.le_refl _⟩) hA hS (fun r_17 f_14 L_15 Q_16 H locs hq hP hS => ?_)
  obtain ⟨⟨hI, hk_f_14, eL9, eQ9⟩, hq, p_18, p_19, p_20, u_21⟩ := hq
  rw [eL9, eQ9] at hP; clear eL9 eQ9
  have hF : sgK WkX12_compared_3 f f_14 := sgK.tr hF hk_f_14 (by decide +kernel)
  obtain ⟨v_22, ev_22⟩ : ∃ z : Int32, z = f_14 0 13 := ⟨_, rfl⟩
  have q_23 : 0 ≤ v_22.toInt ∧ v_22.toInt ≤ 120 := by rw [ev_22]; exact hI 0 13
  have q_24 : (f_14 0 13).toInt = v_22.toInt := (congrArg Int32.toInt (show f_14 0 13 = v_22 from ev_22.symm))
  obtain ⟨v_25, ev_25⟩ : ∃ z : Int32, z = f_14 0 16 := ⟨_, rfl⟩
  have q_26 : 0 ≤ v_25.toInt ∧ v_25.toInt ≤ 6 := by rw [ev_25]; exact hI 0 16
  have q_27 : (f_14 0 16).toInt = v_25.toInt := (congrArg Int32.toInt (show f_14 0 16 = v_25 from ev_25.symm))
  obtain ⟨v_28, ev_28⟩ : ∃ z : Int32, z = f_14 0 15 := ⟨_, rfl⟩
  have q_29 : (-1) ≤ v_28.toInt ∧ v_28.toInt ≤ 120 := by rw [ev_28]; exact hI 0 15
  have q_30 : (f_14 0 15).toInt = v_28.toInt := (congrArg Int32.toInt (show f_14 0 15 = v_28 from ev_28.symm))
  refine lv_istore_n (lv' := [(1, .int r_17), (0, .ref (h 0))]) hx hb dX12_compared_4 rfl hl (by decide) rfl (fun ls hl => ?_)
  refine lv_aload_n hx hb dX12_compared_5 rfl (lv_at hl 1 rfl) ?_
  obtain ⟨v_33, ev_33⟩ : ∃ z : Int32, z = f_14 0 14 := ⟨_, rfl⟩
  have q_34 : 0 ≤ v_33.toInt ∧ v_33.toInt ≤ 120 := by rw [ev_33]; exact hI 0 14
  have q_35 : (f_14 0 14).toInt = v_33.toInt := (congrArg Int32.toInt (show f_14 0 14 = v_33 from ev_33.symm))
  refine sg_calli (va_runV (As := []) (rest := []) ⟨hx, hb, hml, hown, hts⟩ (kX12_byteAt l D ca za h hh f_14 L Q hI H.size) (sl_c12_byteAt_0_0_0_0_12 hts ⟨Nat.le_of_ble_eq_true rfl, Nat.le_of_ble_eq_true rfl⟩) (sl_vM_0 hA hK hP hS hZ) rfl rfl hl.1 rfl (lv_room (Nat.le_of_ble_eq_true rfl)) dX12_compared_6 ⟨Nat.le_refl _, Nat.le_refl _⟩) hA hS (fun r_39 f_36 L_37 Q_38 H locs hq hP hS => ?_)
  obtain ⟨⟨ef9, eL9, eQ9⟩, hq, p_40, u_41⟩ := hq
  replace hs := hs.trans (spl_e ev_1 (spl_e ev_3 (spl_e ev_5 (spl2_e u_21 (spl_e ev_22 (spl_e ev_25 (spl_e ev_28 (spl_e ev_33 (spl_e u_41 rfl)))))))))
  rw [ef9, eL9, eQ9] at hP; clear ef9 eL9 eQ9
  refine lv_istore_n (lv' := [(2, .int r_39), (1, .int r_17), (0, .ref (h 0))]) hx hb dX12_compared_9 rfl hl (by decide) rfl (fun ls hl => ?_)
  refine lv_aload_n hx hb dX12_compared_10 rfl (lv_at hl 2 rfl) ?_
  refine sl_gM_0_15_12 (v := v_28) hx hb hts hown hK hP (show f_14 0 15 = v_28 from ev_28.symm) dX12_compared_11 ?_
  refine lv_if_ge (tgt := 35) hx hb dX12_compared_14 (by decide) (fun c => ?_) (fun c => ?_)
  · skip
    have c_42 : 0 ≤ v_28.toInt := (by first | exact (cm_le0 ti_0 c) | (have z := bn_le c; have k1 : (0 : Int32).toInt = 0 := ti_0; omega))
    refine lv_iload_n hx hb dX12_compared_35 rfl (lv_at hl 1 rfl) ?_
    exact hret _ _ _ _ (r_17) f_14 L Q dX12_compared_36 hP hS ⟨⟨hI, hF, rfl, rfl⟩, trivial, (by omega), (by omega), (by omega), (Eq.trans (Eq.symm (hs.trans ((if_neg (Int.not_lt.mpr c_42)).trans rfl))) hsp)⟩
  · skip
    have c_43 : v_28.toInt < 0 := (by first | exact (cm_nle0 ti_0 c) | (have z := bn_nle c; have k1 : (0 : Int32).toInt = 0 := ti_0; omega))
    replace hs := hs.trans ((if_pos c_43).trans rfl)
    refine lv_iload_n hx hb dX12_compared_17 rfl (lv_at hl 0 rfl) ?_
    refine lv_bipush (v := 60) hx hb dX12_compared_18 bp_60 ?_
    refine lv_icmp_eq (tgt := 37) hx hb dX12_compared_20 (by decide) (fun c => ?_) (fun c => ?_)
    · skip
      have c_48 : r_39.toInt = 60 := (by first | exact (cm_eq1 ti_60 c) | (have z := Int32.toInt_inj.mpr c; have k1 : (60 : Int32).toInt = 60 := ti_60; omega))
      refine lv_aload_n hx hb dX12_compared_37 rfl (lv_at hl 2 rfl) ?_
      refine lv_dup hx hb dX12_compared_38 rfl ?_
      refine sl_gM_0_13_12 (v := v_22) hx hb hts hown hK hP (show f_14 0 13 = v_22 from ev_22.symm) dX12_compared_39 ?_
      refine lv_iconst (v := 1) hx hb dX12_compared_42 ic_1 ?_
      refine lv_iadd hx hb dX12_compared_43 ?_
      refine lv_topi (fun v_50 ev_50 => ?_)
      have q_51 : v_50.toInt = v_22.toInt + 1 := by rw [ev_50]; first | exact cm_add ti_1 (by omega) (by omega) | (have k1 : (1 : Int32).toInt = 1 := ti_1; exact (bn_addI (by omega) (by omega)).trans (by omega))
      refine sl_pM_0_13_12 (x := v_50) hx hb hts hown hh hA hK hP hS dX12_compared_44 (fun f_52 H locs ef_52 hP hS => ?_)
      have hI : sgI loM hiM f_52 := by rw [ef_52]; exact sgI.put hI 0 13 (show 0 ≤ (v_50 : Int32).toInt ∧ (v_50 : Int32).toInt ≤ 120 from ⟨by omega, by omega⟩)
      have hF : sgK WkX12_compared_3 f f_52 := sgK.put hF ef_52 (by rfl)
      refine lv_aload_n hx hb dX12_compared_47 rfl (lv_at hl 2 rfl) ?_
      have q_53 : (f_52 0 16).toInt = v_25.toInt := (congrArg Int32.toInt (show f_52 0 16 = v_25 from (by rw [ef_52, sg_up_s, sgu_n (by decide)]; exact ev_25.symm)))
      have q_54 : (f_52 0 15).toInt = v_28.toInt := (congrArg Int32.toInt (show f_52 0 15 = v_28 from (by rw [ef_52, sg_up_s, sgu_n (by decide)]; exact ev_28.symm)))
      have q_56 : (f_52 0 13).toInt = v_50.toInt := (congrArg Int32.toInt (show f_52 0 13 = v_50 from (by rw [ef_52, sg_up_s, sgu_s])))
      refine sg_calli (va_runV (As := []) (rest := []) ⟨hx, hb, hml, hown, hts⟩ (kX12_sums_3 l D ca za h hh f_52 L Q hI (by omega) (by omega) H.size) (sl_c12_sums_21_0_0_478_12 hts ⟨Nat.le_of_ble_eq_true rfl, Nat.le_of_ble_eq_true rfl⟩) (sl_vM_0 hA hK hP hS hZ) rfl rfl hl.1 rfl (lv_room (Nat.le_of_ble_eq_true rfl)) dX12_compared_48 ⟨Nat.le_refl _, Nat.le_refl _⟩) hA hS (fun r_60 f_57 L_58 Q_59 H locs hq hP hS => ?_)
      obtain ⟨⟨hI, hk_f_57, eL9, eQ9⟩, hq, p_61, p_62, p_63, u_64⟩ := hq
      rw [eL9, eQ9] at hP; clear eL9 eQ9
      have hF : sgK WkX12_compared_3 f f_57 := sgK.tr hF hk_f_57 (by decide +kernel)
      obtain ⟨v_65, ev_65⟩ : ∃ z : Int32, z = f_57 0 13 := ⟨_, rfl⟩
      have q_66 : 0 ≤ v_65.toInt ∧ v_65.toInt ≤ 120 := by rw [ev_65]; exact hI 0 13
      have q_67 : (f_57 0 13).toInt = v_65.toInt := (congrArg Int32.toInt (show f_57 0 13 = v_65 from ev_65.symm))
      obtain ⟨v_68, ev_68⟩ : ∃ z : Int32, z = f_57 0 16 := ⟨_, rfl⟩
      have q_69 : 0 ≤ v_68.toInt ∧ v_68.toInt ≤ 6 := by rw [ev_68]; exact hI 0 16
      have q_70 : (f_57 0 16).toInt = v_68.toInt := (congrArg Int32.toInt (show f_57 0 16 = v_68 from ev_68.symm))
      obtain ⟨v_71, ev_71⟩ : ∃ z : Int32, z = f_57 0 15 := ⟨_, rfl⟩
      replace hs := hs.trans ((if_pos c_48).trans (spl_e ev_50 (spl_e ef_52 (spl2_e u_64 (spl_e ev_65 (spl_e ev_68 (spl_e ev_71 rfl)))))))
      have q_72 : (-1) ≤ v_71.toInt ∧ v_71.toInt ≤ 120 := by rw [ev_71]; exact hI 0 15
      have q_73 : (f_57 0 15).toInt = v_71.toInt := (congrArg Int32.toInt (show f_57 0 15 = v_71 from ev_71.symm))
      refine lv_istore_n (lv' := [(3, .int r_60), (2, .int r_39), (1, .int r_17), (0, .ref (h 0))]) hx hb dX12_compared_51 rfl hl (by decide) rfl (fun ls hl => ?_)
      refine lv_iload_n hx hb dX12_compared_52 rfl (lv_at hl 1 rfl) ?_
      refine lv_bipush (v := 60) hx hb dX12_compared_53 bp_60 ?_
      refine lv_icmp_ne (tgt := 66) hx hb dX12_compared_55 (by decide) (fun c => ?_) (fun c => ?_)
      · skip
        exfalso; have c_75 : r_39.toInt ≠ 60 := (by first | exact (cm_ne1 ti_60 c) | (have z := bn_ne c; have k1 : (60 : Int32).toInt = 60 := ti_60; omega)); first | exact absurd (by assumption) c_75 | omega
      · skip
        have c_76 : r_39.toInt = 60 := (by first | exact (cm_eq1 ti_60 c) | (have z := Int32.toInt_inj.mpr c; have k1 : (60 : Int32).toInt = 60 := ti_60; omega))
        refine lv_iload_n hx hb dX12_compared_58 rfl (lv_at hl 2 rfl) ?_
        refine lv_iload_n hx hb dX12_compared_59 rfl (lv_at hl 0 rfl) ?_
        refine lv_icmp_ge (tgt := 89) hx hb dX12_compared_60 (by decide) (fun c => ?_) (fun c => ?_)
        · skip
          have c_77 : r_60.toInt ≤ r_17.toInt := (by first | exact (bn_le c) | (have z := bn_le c; omega))
          refine lv_iconst (v := 0) hx hb dX12_compared_89 ic_0 ?_
          have k99 : (0 : Int32).toInt = 0 := ti_0
          exact hret _ _ _ _ (0) f_57 L Q dX12_compared_90 hP hS ⟨⟨hI, hF, rfl, rfl⟩, trivial, (by omega), (by omega), (by omega), (Eq.trans (Eq.symm (hs.trans ((if_neg (Int.not_lt.mpr c_77)).trans rfl))) hsp)⟩
        · skip
          have c_78 : r_17.toInt < r_60.toInt := (by first | exact (bn_nle c) | (have z := bn_nle c; omega))
          refine lv_goto (tgt := 85) hx hb dX12_compared_63 (by decide) ?_
          refine lv_iconst (v := 1) hx hb dX12_compared_85 ic_1 ?_
          refine lv_goto (tgt := 90) hx hb dX12_compared_86 (by decide) ?_
          have k99 : (1 : Int32).toInt = 1 := ti_1
          exact hret _ _ _ _ (1) f_57 L Q dX12_compared_90 hP hS ⟨⟨hI, hF, rfl, rfl⟩, trivial, (by omega), (by omega), (by omega), (Eq.trans (Eq.symm (hs.trans ((if_pos c_78).trans rfl))) hsp)⟩
    · skip
      have c_49 : r_39.toInt ≠ 60 := (by first | exact (cm_ne1 ti_60 c) | (have z := bn_ne c; have k1 : (60 : Int32).toInt = 60 := ti_60; omega))
      replace hs := hs.trans ((if_neg c_49).trans rfl)
      refine lv_iload_n hx hb dX12_compared_23 rfl (lv_at hl 0 rfl) ?_
      refine lv_bipush (v := 61) hx hb dX12_compared_24 bp_61 ?_
      refine lv_icmp_eq (tgt := 37) hx hb dX12_compared_26 (by decide) (fun c => ?_) (fun c => ?_)
      · skip
        have c_87 : r_39.toInt = 61 := (by first | exact (cm_eq1 ti_61 c) | (have z := Int32.toInt_inj.mpr c; have k1 : (61 : Int32).toInt = 61 := ti_61; omega))
        refine lv_aload_n hx hb dX12_compared_37 rfl (lv_at hl 2 rfl) ?_
        refine lv_dup hx hb dX12_compared_38 rfl ?_
        refine sl_gM_0_13_12 (v := v_22) hx hb hts hown hK hP (show f_14 0 13 = v_22 from ev_22.symm) dX12_compared_39 ?_
        refine lv_iconst (v := 1) hx hb dX12_compared_42 ic_1 ?_
        refine lv_iadd hx hb dX12_compared_43 ?_
        refine lv_topi (fun v_89 ev_89 => ?_)
        have q_90 : v_89.toInt = v_22.toInt + 1 := by rw [ev_89]; first | exact cm_add ti_1 (by omega) (by omega) | (have k1 : (1 : Int32).toInt = 1 := ti_1; exact (bn_addI (by omega) (by omega)).trans (by omega))
        refine sl_pM_0_13_12 (x := v_89) hx hb hts hown hh hA hK hP hS dX12_compared_44 (fun f_91 H locs ef_91 hP hS => ?_)
        have hI : sgI loM hiM f_91 := by rw [ef_91]; exact sgI.put hI 0 13 (show 0 ≤ (v_89 : Int32).toInt ∧ (v_89 : Int32).toInt ≤ 120 from ⟨by omega, by omega⟩)
        have hF : sgK WkX12_compared_3 f f_91 := sgK.put hF ef_91 (by rfl)
        refine lv_aload_n hx hb dX12_compared_47 rfl (lv_at hl 2 rfl) ?_
        have q_92 : (f_91 0 16).toInt = v_25.toInt := (congrArg Int32.toInt (show f_91 0 16 = v_25 from (by rw [ef_91, sg_up_s, sgu_n (by decide)]; exact ev_25.symm)))
        have q_93 : (f_91 0 15).toInt = v_28.toInt := (congrArg Int32.toInt (show f_91 0 15 = v_28 from (by rw [ef_91, sg_up_s, sgu_n (by decide)]; exact ev_28.symm)))
        have q_95 : (f_91 0 13).toInt = v_89.toInt := (congrArg Int32.toInt (show f_91 0 13 = v_89 from (by rw [ef_91, sg_up_s, sgu_s])))
        refine sg_calli (va_runV (As := []) (rest := []) ⟨hx, hb, hml, hown, hts⟩ (kX12_sums_3 l D ca za h hh f_91 L Q hI (by omega) (by omega) H.size) (sl_c12_sums_21_0_0_478_12 hts ⟨Nat.le_of_ble_eq_true rfl, Nat.le_of_ble_eq_true rfl⟩) (sl_vM_0 hA hK hP hS hZ) rfl rfl hl.1 rfl (lv_room (Nat.le_of_ble_eq_true rfl)) dX12_compared_48 ⟨Nat.le_refl _, Nat.le_refl _⟩) hA hS (fun r_99 f_96 L_97 Q_98 H locs hq hP hS => ?_)
        obtain ⟨⟨hI, hk_f_96, eL9, eQ9⟩, hq, p_100, p_101, p_102, u_103⟩ := hq
        rw [eL9, eQ9] at hP; clear eL9 eQ9
        have hF : sgK WkX12_compared_3 f f_96 := sgK.tr hF hk_f_96 (by decide +kernel)
        obtain ⟨v_104, ev_104⟩ : ∃ z : Int32, z = f_96 0 13 := ⟨_, rfl⟩
        have q_105 : 0 ≤ v_104.toInt ∧ v_104.toInt ≤ 120 := by rw [ev_104]; exact hI 0 13
        have q_106 : (f_96 0 13).toInt = v_104.toInt := (congrArg Int32.toInt (show f_96 0 13 = v_104 from ev_104.symm))
        obtain ⟨v_107, ev_107⟩ : ∃ z : Int32, z = f_96 0 16 := ⟨_, rfl⟩
        have q_108 : 0 ≤ v_107.toInt ∧ v_107.toInt ≤ 6 := by rw [ev_107]; exact hI 0 16
        have q_109 : (f_96 0 16).toInt = v_107.toInt := (congrArg Int32.toInt (show f_96 0 16 = v_107 from ev_107.symm))
        obtain ⟨v_110, ev_110⟩ : ∃ z : Int32, z = f_96 0 15 := ⟨_, rfl⟩
        replace hs := hs.trans ((if_pos c_87).trans (spl_e ev_89 (spl_e ef_91 (spl2_e u_103 (spl_e ev_104 (spl_e ev_107 (spl_e ev_110 rfl)))))))
        have q_111 : (-1) ≤ v_110.toInt ∧ v_110.toInt ≤ 120 := by rw [ev_110]; exact hI 0 15
        have q_112 : (f_96 0 15).toInt = v_110.toInt := (congrArg Int32.toInt (show f_96 0 15 = v_110 from ev_110.symm))
        refine lv_istore_n (lv' := [(3, .int r_99), (2, .int r_39), (1, .int r_17), (0, .ref (h 0))]) hx hb dX12_compared_51 rfl hl (by decide) rfl (fun ls hl => ?_)
        refine lv_iload_n hx hb dX12_compared_52 rfl (lv_at hl 1 rfl) ?_
        refine lv_bipush (v := 60) hx hb dX12_compared_53 bp_60 ?_
        refine lv_icmp_ne (tgt := 66) hx hb dX12_compared_55 (by decide) (fun c => ?_) (fun c => ?_)
        · skip
          have c_114 : r_39.toInt ≠ 60 := (by first | exact (cm_ne1 ti_60 c) | (have z := bn_ne c; have k1 : (60 : Int32).toInt = 60 := ti_60; omega))
          refine lv_iload_n hx hb dX12_compared_66 rfl (lv_at hl 1 rfl) ?_
          refine lv_bipush (v := 61) hx hb dX12_compared_67 bp_61 ?_
          refine lv_icmp_ne (tgt := 80) hx hb dX12_compared_69 (by decide) (fun c => ?_) (fun c => ?_)
          · skip
            exfalso; have c_116 : r_39.toInt ≠ 61 := (by first | exact (cm_ne1 ti_61 c) | (have z := bn_ne c; have k1 : (61 : Int32).toInt = 61 := ti_61; omega)); first | exact absurd (by assumption) c_116 | omega
          · skip
            have c_117 : r_39.toInt = 61 := (by first | exact (cm_eq1 ti_61 c) | (have z := Int32.toInt_inj.mpr c; have k1 : (61 : Int32).toInt = 61 := ti_61; omega))
            refine lv_iload_n hx hb dX12_compared_72 rfl (lv_at hl 2 rfl) ?_
            refine lv_iload_n hx hb dX12_compared_73 rfl (lv_at hl 0 rfl) ?_
            refine lv_icmp_ne (tgt := 89) hx hb dX12_compared_74 (by decide) (fun c => ?_) (fun c => ?_)
            · skip
              have c_118 : r_17.toInt ≠ r_99.toInt := (by first | exact (bn_ne c) | (have z := bn_ne c; omega))
              refine lv_iconst (v := 0) hx hb dX12_compared_89 ic_0 ?_
              have k99 : (0 : Int32).toInt = 0 := ti_0
              exact hret _ _ _ _ (0) f_96 L Q dX12_compared_90 hP hS ⟨⟨hI, hF, rfl, rfl⟩, trivial, (by omega), (by omega), (by omega), (Eq.trans (Eq.symm (hs.trans ((if_neg c_118).trans rfl))) hsp)⟩
            · skip
              have c_119 : r_17.toInt = r_99.toInt := (by first | exact (Int32.toInt_inj.mpr c) | (have z := Int32.toInt_inj.mpr c; omega))
              refine lv_goto (tgt := 85) hx hb dX12_compared_77 (by decide) ?_
              refine lv_iconst (v := 1) hx hb dX12_compared_85 ic_1 ?_
              refine lv_goto (tgt := 90) hx hb dX12_compared_86 (by decide) ?_
              have k99 : (1 : Int32).toInt = 1 := ti_1
              exact hret _ _ _ _ (1) f_96 L Q dX12_compared_90 hP hS ⟨⟨hI, hF, rfl, rfl⟩, trivial, (by omega), (by omega), (by omega), (Eq.trans (Eq.symm (hs.trans ((if_pos c_119).trans rfl))) hsp)⟩
        · skip
          exfalso; have c_115 : r_39.toInt = 60 := (by first | exact (cm_eq1 ti_60 c) | (have z := Int32.toInt_inj.mpr c; have k1 : (60 : Int32).toInt = 60 := ti_60; omega)); first | exact absurd c_115 (by assumption) | omega
      · skip
        have c_88 : r_39.toInt ≠ 61 := (by first | exact (cm_ne1 ti_61 c) | (have z := bn_ne c; have k1 : (61 : Int32).toInt = 61 := ti_61; omega))
        replace hs := hs.trans ((if_neg c_88).trans rfl)
        refine lv_iload_n hx hb dX12_compared_29 rfl (lv_at hl 0 rfl) ?_
        refine lv_bipush (v := 62) hx hb dX12_compared_30 bp_62 ?_
        refine lv_icmp_eq (tgt := 37) hx hb dX12_compared_32 (by decide) (fun c => ?_) (fun c => ?_)
        · skip
          have c_128 : r_39.toInt = 62 := (by first | exact (cm_eq1 ti_62 c) | (have z := Int32.toInt_inj.mpr c; have k1 : (62 : Int32).toInt = 62 := ti_62; omega))
          refine lv_aload_n hx hb dX12_compared_37 rfl (lv_at hl 2 rfl) ?_
          refine lv_dup hx hb dX12_compared_38 rfl ?_
          refine sl_gM_0_13_12 (v := v_22) hx hb hts hown hK hP (show f_14 0 13 = v_22 from ev_22.symm) dX12_compared_39 ?_
          refine lv_iconst (v := 1) hx hb dX12_compared_42 ic_1 ?_
          refine lv_iadd hx hb dX12_compared_43 ?_
          refine lv_topi (fun v_130 ev_130 => ?_)
          have q_131 : v_130.toInt = v_22.toInt + 1 := by rw [ev_130]; first | exact cm_add ti_1 (by omega) (by omega) | (have k1 : (1 : Int32).toInt = 1 := ti_1; exact (bn_addI (by omega) (by omega)).trans (by omega))
          refine sl_pM_0_13_12 (x := v_130) hx hb hts hown hh hA hK hP hS dX12_compared_44 (fun f_132 H locs ef_132 hP hS => ?_)
          have hI : sgI loM hiM f_132 := by rw [ef_132]; exact sgI.put hI 0 13 (show 0 ≤ (v_130 : Int32).toInt ∧ (v_130 : Int32).toInt ≤ 120 from ⟨by omega, by omega⟩)
          have hF : sgK WkX12_compared_3 f f_132 := sgK.put hF ef_132 (by rfl)
          refine lv_aload_n hx hb dX12_compared_47 rfl (lv_at hl 2 rfl) ?_
          have q_133 : (f_132 0 16).toInt = v_25.toInt := (congrArg Int32.toInt (show f_132 0 16 = v_25 from (by rw [ef_132, sg_up_s, sgu_n (by decide)]; exact ev_25.symm)))
          have q_134 : (f_132 0 15).toInt = v_28.toInt := (congrArg Int32.toInt (show f_132 0 15 = v_28 from (by rw [ef_132, sg_up_s, sgu_n (by decide)]; exact ev_28.symm)))
          have q_136 : (f_132 0 13).toInt = v_130.toInt := (congrArg Int32.toInt (show f_132 0 13 = v_130 from (by rw [ef_132, sg_up_s, sgu_s])))
          refine sg_calli (va_runV (As := []) (rest := []) ⟨hx, hb, hml, hown, hts⟩ (kX12_sums_3 l D ca za h hh f_132 L Q hI (by omega) (by omega) H.size) (sl_c12_sums_21_0_0_478_12 hts ⟨Nat.le_of_ble_eq_true rfl, Nat.le_of_ble_eq_true rfl⟩) (sl_vM_0 hA hK hP hS hZ) rfl rfl hl.1 rfl (lv_room (Nat.le_of_ble_eq_true rfl)) dX12_compared_48 ⟨Nat.le_refl _, Nat.le_refl _⟩) hA hS (fun r_140 f_137 L_138 Q_139 H locs hq hP hS => ?_)
          obtain ⟨⟨hI, hk_f_137, eL9, eQ9⟩, hq, p_141, p_142, p_143, u_144⟩ := hq
          rw [eL9, eQ9] at hP; clear eL9 eQ9
          have hF : sgK WkX12_compared_3 f f_137 := sgK.tr hF hk_f_137 (by decide +kernel)
          obtain ⟨v_145, ev_145⟩ : ∃ z : Int32, z = f_137 0 13 := ⟨_, rfl⟩
          have q_146 : 0 ≤ v_145.toInt ∧ v_145.toInt ≤ 120 := by rw [ev_145]; exact hI 0 13
          have q_147 : (f_137 0 13).toInt = v_145.toInt := (congrArg Int32.toInt (show f_137 0 13 = v_145 from ev_145.symm))
          obtain ⟨v_148, ev_148⟩ : ∃ z : Int32, z = f_137 0 16 := ⟨_, rfl⟩
          have q_149 : 0 ≤ v_148.toInt ∧ v_148.toInt ≤ 6 := by rw [ev_148]; exact hI 0 16
          have q_150 : (f_137 0 16).toInt = v_148.toInt := (congrArg Int32.toInt (show f_137 0 16 = v_148 from ev_148.symm))
          obtain ⟨v_151, ev_151⟩ : ∃ z : Int32, z = f_137 0 15 := ⟨_, rfl⟩
          replace hs := hs.trans ((if_pos c_128).trans (spl_e ev_130 (spl_e ef_132 (spl2_e u_144 (spl_e ev_145 (spl_e ev_148 (spl_e ev_151 rfl)))))))
          have q_152 : (-1) ≤ v_151.toInt ∧ v_151.toInt ≤ 120 := by rw [ev_151]; exact hI 0 15
          have q_153 : (f_137 0 15).toInt = v_151.toInt := (congrArg Int32.toInt (show f_137 0 15 = v_151 from ev_151.symm))
          refine lv_istore_n (lv' := [(3, .int r_140), (2, .int r_39), (1, .int r_17), (0, .ref (h 0))]) hx hb dX12_compared_51 rfl hl (by decide) rfl (fun ls hl => ?_)
          refine lv_iload_n hx hb dX12_compared_52 rfl (lv_at hl 1 rfl) ?_
          refine lv_bipush (v := 60) hx hb dX12_compared_53 bp_60 ?_
          refine lv_icmp_ne (tgt := 66) hx hb dX12_compared_55 (by decide) (fun c => ?_) (fun c => ?_)
          · skip
            have c_155 : r_39.toInt ≠ 60 := (by first | exact (cm_ne1 ti_60 c) | (have z := bn_ne c; have k1 : (60 : Int32).toInt = 60 := ti_60; omega))
            refine lv_iload_n hx hb dX12_compared_66 rfl (lv_at hl 1 rfl) ?_
            refine lv_bipush (v := 61) hx hb dX12_compared_67 bp_61 ?_
            refine lv_icmp_ne (tgt := 80) hx hb dX12_compared_69 (by decide) (fun c => ?_) (fun c => ?_)
            · skip
              have c_157 : r_39.toInt ≠ 61 := (by first | exact (cm_ne1 ti_61 c) | (have z := bn_ne c; have k1 : (61 : Int32).toInt = 61 := ti_61; omega))
              refine lv_iload_n hx hb dX12_compared_80 rfl (lv_at hl 2 rfl) ?_
              refine lv_iload_n hx hb dX12_compared_81 rfl (lv_at hl 0 rfl) ?_
              refine lv_icmp_le (tgt := 89) hx hb dX12_compared_82 (by decide) (fun c => ?_) (fun c => ?_)
              · skip
                have c_159 : r_17.toInt ≤ r_140.toInt := (by first | exact (bn_le c) | (have z := bn_le c; omega))
                refine lv_iconst (v := 0) hx hb dX12_compared_89 ic_0 ?_
                have k99 : (0 : Int32).toInt = 0 := ti_0
                exact hret _ _ _ _ (0) f_137 L Q dX12_compared_90 hP hS ⟨⟨hI, hF, rfl, rfl⟩, trivial, (by omega), (by omega), (by omega), (Eq.trans (Eq.symm (hs.trans ((if_neg (Int.not_lt.mpr c_159)).trans rfl))) hsp)⟩
              · skip
                have c_160 : r_140.toInt < r_17.toInt := (by first | exact (bn_nle c) | (have z := bn_nle c; omega))
                refine lv_iconst (v := 1) hx hb dX12_compared_85 ic_1 ?_
                refine lv_goto (tgt := 90) hx hb dX12_compared_86 (by decide) ?_
                have k99 : (1 : Int32).toInt = 1 := ti_1
                exact hret _ _ _ _ (1) f_137 L Q dX12_compared_90 hP hS ⟨⟨hI, hF, rfl, rfl⟩, trivial, (by omega), (by omega), (by omega), (Eq.trans (Eq.symm (hs.trans ((if_pos c_160).trans rfl))) hsp)⟩
            · skip
              exfalso; have c_158 : r_39.toInt = 61 := (by first | exact (cm_eq1 ti_61 c) | (have z := Int32.toInt_inj.mpr c; have k1 : (61 : Int32).toInt = 61 := ti_61; omega)); first | exact absurd c_158 (by assumption) | omega
          · skip
            exfalso; have c_156 : r_39.toInt = 60 := (by first | exact (cm_eq1 ti_60 c) | (have z := Int32.toInt_inj.mpr c; have k1 : (60 : Int32).toInt = 60 := ti_60; omega)); first | exact absurd c_156 (by assumption) | omega
        · skip
          have c_129 : r_39.toInt ≠ 62 := (by first | exact (cm_ne1 ti_62 c) | (have z := bn_ne c; have k1 : (62 : Int32).toInt = 62 := ti_62; omega))
          refine lv_iload_n hx hb dX12_compared_35 rfl (lv_at hl 1 rfl) ?_
          exact hret _ _ _ _ (r_17) f_14 L Q dX12_compared_36 hP hS ⟨⟨hI, hF, rfl, rfl⟩, trivial, (by omega), (by omega), (by omega), (Eq.trans (Eq.symm (hs.trans ((if_neg c_129).trans rfl))) hsp)⟩

abbrev WkX12_both_3 : List (Nat × Nat × Option Nat) := [(0, 0, some 13), (0, 0, some 15), (0, 0, some 16)]
set_option maxHeartbeats 4000000 in
set_option maxRecDepth 100000 in
theorem kX12_both_3 (l : Launch) (D : va_G) (ca : Nat → ClassId) (za h : Nat → Nat) (hh : sgH 26 h) (f : sg_F) (L : sg_L) (Q : sg_Q) (hI : sgI loM hiM f) (p0 : 3 ≤ (f 0 16).toInt) (p1 : 0 ≤ (f 0 15).toInt ∨ (f 0 16).toInt = 3) (sz : Nat) : Met l yX12_both gwX12_both { frames := 23, cells := 0, slots := 0, locals := 524 } (sgP D vwCl (tyX ca) 26 h (eM ca h) zcM za f L Q sz [.ref (h 0)]) (sgQi D vwCl 26 h (eM ca h) sz (fun r f1 L1 Q1 => ((sgI loM hiM f1 ∧ sgK WkX12_both_3 f f1 ∧ L1 = L ∧ Q1 = Q) ∧ True ∧ ((f 0 13).toInt ≤ (f1 0 13).toInt) ∧ (3 ≤ (f1 0 16).toInt) ∧ (0 ≤ (f1 0 15).toInt ∨ (f1 0 16).toInt = 3) ∧ (r, f1) = sX12_both_3 f L))) 0 0 (sgA 26 h sz) := by
  refine sg_ofWi (cc := cX12_both) (maxL := 3) RX12 (by decide) rfl rfl (Nat.le_of_ble_eq_true rfl) ?_
  intro p e s m below meth cd Qz ls hx hb hml hown hts hK hZ hP hS hl hret
  have hA := sgY.self (n := 26) (h := h) (sz := s.heap.size)
  have hl : lv_has ls 3 [(0, .ref (h 0))] := hl
  obtain ⟨H, hH⟩ : ∃ z : Heap, z = s.heap := ⟨_, rfl⟩
  obtain ⟨locs, hlo⟩ : ∃ z : List Loc, z = [] := ⟨_, rfl⟩
  have hP : va_P D vwCl (sgw 26 h (eM ca h) f L Q) H := by rw [hH]; exact hP
  have hS : va_S (sgA 26 h s.heap.size) s.heap H locs := by rw [hH, hlo]; exact hS
  suffices hgo : W p l e ({ frames := 23, cells := 0, slots := 0, locals := 524 }) s m ([.ref (h 0)] : List Value).toArray below meth cd H locs 0 0 Qz (F0 m 0 ls []) by rw [hH, hlo] at hgo; exact hgo
  clear hH hlo
  obtain ⟨sp, hsp⟩ : ∃ z : Int32 × sg_F, z = sX12_both_3 f L := ⟨_, rfl⟩
  have hs : sp = sX12_both_3 f L := hsp
  obtain ⟨v_1, ev_1⟩ : ∃ z : Int32, z = f 0 16 := ⟨_, rfl⟩
  have q_2 : 0 ≤ v_1.toInt ∧ v_1.toInt ≤ 6 := by rw [ev_1]; exact hI 0 16
  obtain ⟨v_3, ev_3⟩ : ∃ z : Int32, z = f 0 15 := ⟨_, rfl⟩
  have q_4 : (-1) ≤ v_3.toInt ∧ v_3.toInt ≤ 120 := by rw [ev_3]; exact hI 0 15
  obtain ⟨v_5, ev_5⟩ : ∃ z : Int32, z = f 0 13 := ⟨_, rfl⟩
  have q_6 : 0 ≤ v_5.toInt ∧ v_5.toInt ≤ 120 := by rw [ev_5]; exact hI 0 13
  have o_7 : (f 0 16).toInt = v_1.toInt := (congrArg Int32.toInt (show f 0 16 = v_1 from ev_1.symm))
  have o_8 : (f 0 15).toInt = v_3.toInt := (congrArg Int32.toInt (show f 0 15 = v_3 from ev_3.symm))
  have o_9 : (f 0 13).toInt = v_5.toInt := (congrArg Int32.toInt (show f 0 13 = v_5 from ev_5.symm))
  have hF : sgK WkX12_both_3 f f := sgK.rf
  have loop_5 : ∀ (n_5 : Nat) (y1_5 : Int32) (fp_5 : sg_F) (H : Heap) (locs : List Loc) (ls : Array Slot), sp = sX12_both_3_l5 n_5 y1_5 fp_5 L → 120 - (fp_5 0 13).toInt < (n_5 : Int) → (f 0 13).toInt ≤ (fp_5 0 13).toInt → 3 ≤ (fp_5 0 16).toInt → 0 ≤ (fp_5 0 15).toInt ∨ (fp_5 0 16).toInt = 3 → sgI loM hiM fp_5 → sgK WkX12_both_3 f fp_5 → va_P D vwCl (sgw 26 h (eM ca h) fp_5 L Q) H → va_S (sgA 26 h s.heap.size) s.heap H locs → lv_has ls 3 [(0, .ref (h 0)), (1, .int y1_5)] → W p l e ({ frames := 23, cells := 0, slots := 0, locals := 524 }) s m ([.ref (h 0)] : List Value).toArray below meth cd H locs 0 0 Qz (F0 m 5 ls []) := by
    intro n_5
    induction n_5 with
    | zero => intro y1_5 fp_5 H locs ls hs hm_5 hg0_5 hg1_5 hg2_5 hI hF hP hS hl; have zb := (show 0 ≤ (fp_5 0 13).toInt ∧ (fp_5 0 13).toInt ≤ 120 from hI 0 13); exact absurd hm_5 (by omega)
    | succ n_5 ih_5 =>
      intro y1_5 fp_5 H locs ls hs hm_5 hg0_5 hg1_5 hg2_5 hI hF hP hS hl
      have hs : sp = sX12_both_3_h5 (sX12_both_3_l5 n_5) y1_5 fp_5 L := hs
      obtain ⟨v_10, ev_10⟩ : ∃ z : Int32, z = fp_5 0 13 := ⟨_, rfl⟩
      have q_11 : 0 ≤ v_10.toInt ∧ v_10.toInt ≤ 120 := by rw [ev_10]; exact hI 0 13
      have q_12 : (fp_5 0 13).toInt = v_10.toInt := by rw [ev_10]
      obtain ⟨v_13, ev_13⟩ : ∃ z : Int32, z = fp_5 0 16 := ⟨_, rfl⟩
      have q_14 : 0 ≤ v_13.toInt ∧ v_13.toInt ≤ 6 := by rw [ev_13]; exact hI 0 16
      have q_15 : (fp_5 0 16).toInt = v_13.toInt := by rw [ev_13]
      obtain ⟨v_16, ev_16⟩ : ∃ z : Int32, z = fp_5 0 15 := ⟨_, rfl⟩
      have q_17 : (-1) ≤ v_16.toInt ∧ v_16.toInt ≤ 120 := by rw [ev_16]; exact hI 0 15
      have q_18 : (fp_5 0 15).toInt = v_16.toInt := by rw [ev_16]
      refine lv_aload_n hx hb dX12_both_5 rfl (lv_at hl 0 rfl) ?_
      refine lv_bipush (v := 38) hx hb dX12_both_6 bp_38 ?_
      obtain ⟨v_21, ev_21⟩ : ∃ z : Int32, z = fp_5 0 14 := ⟨_, rfl⟩
      have q_22 : 0 ≤ v_21.toInt ∧ v_21.toInt ≤ 120 := by rw [ev_21]; exact hI 0 14
      have q_23 : (fp_5 0 14).toInt = v_21.toInt := (congrArg Int32.toInt (show fp_5 0 14 = v_21 from ev_21.symm))
      refine sg_calli (va_runV (As := [.int 38]) (rest := []) ⟨hx, hb, hml, hown, hts⟩ (kX12_takes_38 l D ca za h hh fp_5 L Q hI H.size) (sl_c12_takes_1_0_0_20_12 hts ⟨Nat.le_of_ble_eq_true rfl, Nat.le_of_ble_eq_true rfl⟩) (sl_vM_0 hA hK hP hS hZ) rfl rfl hl.1 rfl (lv_room (Nat.le_of_ble_eq_true rfl)) dX12_both_8 ⟨Nat.le_refl _, Nat.le_refl _⟩) hA hS (fun r_29 f_26 L_27 Q_28 H locs hq hP hS => ?_)
      obtain ⟨⟨hI, hk_f_26, eL9, eQ9⟩, hq, u_30⟩ := hq
      rw [eL9, eQ9] at hP; clear eL9 eQ9
      have hF : sgK WkX12_both_3 f f_26 := sgK.tr hF hk_f_26 (by decide +kernel)
      obtain ⟨v_31, ev_31⟩ : ∃ z : Int32, z = f_26 0 13 := ⟨_, rfl⟩
      replace hs := hs.trans (spl_e ev_10 (spl_e ev_13 (spl_e ev_16 (spl_e ev_21 (spl2_e u_30 (spl_e ev_31 rfl))))))
      have q_32 : 0 ≤ v_31.toInt ∧ v_31.toInt ≤ 120 := by rw [ev_31]; exact hI 0 13
      have q_33 : (f_26 0 13).toInt = v_31.toInt := (congrArg Int32.toInt (show f_26 0 13 = v_31 from ev_31.symm))
      have k_35 : (38 : Int32).toInt = 38 := by decide
      rcases hq with ⟨rfl, hq⟩ | ⟨rfl, hq⟩
      · skip
        have hc_36 := hq
        refine lv_if_eq (tgt := 36) hx hb dX12_both_11 (by decide) (fun c => absurd c (by decide)) (fun c => ?_)
        refine lv_aload_n hx hb dX12_both_14 rfl (lv_at hl 0 rfl) ?_
        have q_37 : (f_26 0 16).toInt = v_13.toInt := (congrArg Int32.toInt (show f_26 0 16 = v_13 from ((hk_f_26 0 16 (by decide)).trans ev_13.symm)))
        have q_38 : (f_26 0 15).toInt = v_16.toInt := (congrArg Int32.toInt (show f_26 0 15 = v_16 from ((hk_f_26 0 15 (by decide)).trans ev_16.symm)))
        refine sg_calli (va_runV (As := []) (rest := []) ⟨hx, hb, hml, hown, hts⟩ (kX12_compared_3 l D ca za h hh f_26 L Q hI (by omega) (by omega) H.size) (sl_c12_compared_22_0_0_501_12 hts ⟨Nat.le_of_ble_eq_true rfl, Nat.le_of_ble_eq_true rfl⟩) (sl_vM_0 hA hK hP hS hZ) rfl rfl hl.1 rfl (lv_room (Nat.le_of_ble_eq_true rfl)) dX12_both_15 ⟨Nat.le_refl _, Nat.le_refl _⟩) hA hS (fun r_44 f_41 L_42 Q_43 H locs hq hP hS => ?_)
        obtain ⟨⟨hI, hk_f_41, eL9, eQ9⟩, hq, p_45, p_46, p_47, u_48⟩ := hq
        rw [eL9, eQ9] at hP; clear eL9 eQ9
        have hF : sgK WkX12_both_3 f f_41 := sgK.tr hF hk_f_41 (by decide +kernel)
        obtain ⟨v_49, ev_49⟩ : ∃ z : Int32, z = f_41 0 13 := ⟨_, rfl⟩
        have q_50 : 0 ≤ v_49.toInt ∧ v_49.toInt ≤ 120 := by rw [ev_49]; exact hI 0 13
        have q_51 : (f_41 0 13).toInt = v_49.toInt := (congrArg Int32.toInt (show f_41 0 13 = v_49 from ev_49.symm))
        obtain ⟨v_52, ev_52⟩ : ∃ z : Int32, z = f_41 0 16 := ⟨_, rfl⟩
        have q_53 : 0 ≤ v_52.toInt ∧ v_52.toInt ≤ 6 := by rw [ev_52]; exact hI 0 16
        have q_54 : (f_41 0 16).toInt = v_52.toInt := (congrArg Int32.toInt (show f_41 0 16 = v_52 from ev_52.symm))
        obtain ⟨v_55, ev_55⟩ : ∃ z : Int32, z = f_41 0 15 := ⟨_, rfl⟩
        replace hs := hs.trans ((if_pos rfl).trans (spl2_e u_48 (spl_e ev_49 (spl_e ev_52 (spl_e ev_55 rfl)))))
        have q_56 : (-1) ≤ v_55.toInt ∧ v_55.toInt ≤ 120 := by rw [ev_55]; exact hI 0 15
        have q_57 : (f_41 0 15).toInt = v_55.toInt := (congrArg Int32.toInt (show f_41 0 15 = v_55 from ev_55.symm))
        refine lv_istore_n (lv' := [(2, .int r_44), (0, .ref (h 0)), (1, .int y1_5)]) hx hb dX12_both_18 rfl hl (by decide) rfl (fun ls hl => ?_)
        refine lv_iload_n hx hb dX12_both_19 rfl (lv_at hl 2 rfl) ?_
        refine lv_if_eq (tgt := 31) hx hb dX12_both_20 (by decide) (fun c => ?_) (fun c => ?_)
        · skip
          have c_59 : y1_5.toInt = 0 := (by first | exact (cm_eq1 ti_0 c) | (have z := Int32.toInt_inj.mpr c; have k1 : (0 : Int32).toInt = 0 := ti_0; omega))
          refine lv_iconst (v := 0) hx hb dX12_both_31 ic_0 ?_
          refine lv_istore_n (lv' := [(1, .int 0), (2, .int r_44), (0, .ref (h 0))]) hx hb dX12_both_32 rfl hl (by decide) rfl (fun ls hl => ?_)
          refine lv_goto (tgt := 5) hx hb dX12_both_33 (by decide) ?_
          exact ih_5 0 f_41 _ _ _ (hs.trans ((if_pos c_59).trans rfl)) (by have kc0 : (0 : Int32).toInt = 0 := ti_0; have zz0_13 : (f_41 0 13).toInt = v_49.toInt := (congrArg Int32.toInt (show f_41 0 13 = v_49 from ev_49.symm)); omega) (by have kc0 : (0 : Int32).toInt = 0 := ti_0; have zz0_13 : (f_41 0 13).toInt = v_49.toInt := (congrArg Int32.toInt (show f_41 0 13 = v_49 from ev_49.symm)); omega) (by have kc0 : (0 : Int32).toInt = 0 := ti_0; have zz0_16 : (f_41 0 16).toInt = v_52.toInt := (congrArg Int32.toInt (show f_41 0 16 = v_52 from ev_52.symm)); omega) (by have kc0 : (0 : Int32).toInt = 0 := ti_0; have zz0_15 : (f_41 0 15).toInt = v_55.toInt := (congrArg Int32.toInt (show f_41 0 15 = v_55 from ev_55.symm)); have zz0_16 : (f_41 0 16).toInt = v_52.toInt := (congrArg Int32.toInt (show f_41 0 16 = v_52 from ev_52.symm)); omega) hI hF hP hS (lv_sub hl [2, 0] rfl)
        · skip
          have c_60 : y1_5.toInt ≠ 0 := (by first | exact (cm_ne1 ti_0 c) | (have z := bn_ne c; have k1 : (0 : Int32).toInt = 0 := ti_0; omega))
          replace hs := hs.trans ((if_neg c_60).trans rfl)
          refine lv_iload_n hx hb dX12_both_23 rfl (lv_at hl 0 rfl) ?_
          refine lv_if_eq (tgt := 31) hx hb dX12_both_24 (by decide) (fun c => ?_) (fun c => ?_)
          · skip
            have c_61 : r_44.toInt = 0 := (by first | exact (cm_eq1 ti_0 c) | (have z := Int32.toInt_inj.mpr c; have k1 : (0 : Int32).toInt = 0 := ti_0; omega))
            refine lv_iconst (v := 0) hx hb dX12_both_31 ic_0 ?_
            refine lv_istore_n (lv' := [(1, .int 0), (2, .int r_44), (0, .ref (h 0))]) hx hb dX12_both_32 rfl hl (by decide) rfl (fun ls hl => ?_)
            refine lv_goto (tgt := 5) hx hb dX12_both_33 (by decide) ?_
            exact ih_5 0 f_41 _ _ _ (hs.trans ((if_pos c_61).trans rfl)) (by have kc0 : (0 : Int32).toInt = 0 := ti_0; have zz0_13 : (f_41 0 13).toInt = v_49.toInt := (congrArg Int32.toInt (show f_41 0 13 = v_49 from ev_49.symm)); omega) (by have kc0 : (0 : Int32).toInt = 0 := ti_0; have zz0_13 : (f_41 0 13).toInt = v_49.toInt := (congrArg Int32.toInt (show f_41 0 13 = v_49 from ev_49.symm)); omega) (by have kc0 : (0 : Int32).toInt = 0 := ti_0; have zz0_16 : (f_41 0 16).toInt = v_52.toInt := (congrArg Int32.toInt (show f_41 0 16 = v_52 from ev_52.symm)); omega) (by have kc0 : (0 : Int32).toInt = 0 := ti_0; have zz0_15 : (f_41 0 15).toInt = v_55.toInt := (congrArg Int32.toInt (show f_41 0 15 = v_55 from ev_55.symm)); have zz0_16 : (f_41 0 16).toInt = v_52.toInt := (congrArg Int32.toInt (show f_41 0 16 = v_52 from ev_52.symm)); omega) hI hF hP hS (lv_sub hl [2, 0] rfl)
          · skip
            have c_62 : r_44.toInt ≠ 0 := (by first | exact (cm_ne1 ti_0 c) | (have z := bn_ne c; have k1 : (0 : Int32).toInt = 0 := ti_0; omega))
            refine lv_iconst (v := 1) hx hb dX12_both_27 ic_1 ?_
            refine lv_goto (tgt := 32) hx hb dX12_both_28 (by decide) ?_
            refine lv_istore_n (lv' := [(1, .int 1), (2, .int r_44), (0, .ref (h 0))]) hx hb dX12_both_32 rfl hl (by decide) rfl (fun ls hl => ?_)
            refine lv_goto (tgt := 5) hx hb dX12_both_33 (by decide) ?_
            exact ih_5 1 f_41 _ _ _ (hs.trans ((if_neg c_62).trans rfl)) (by have kc0 : (1 : Int32).toInt = 1 := ti_1; have zz0_13 : (f_41 0 13).toInt = v_49.toInt := (congrArg Int32.toInt (show f_41 0 13 = v_49 from ev_49.symm)); omega) (by have kc0 : (1 : Int32).toInt = 1 := ti_1; have zz0_13 : (f_41 0 13).toInt = v_49.toInt := (congrArg Int32.toInt (show f_41 0 13 = v_49 from ev_49.symm)); omega) (by have kc0 : (1 : Int32).toInt = 1 := ti_1; have zz0_16 : (f_41 0 16).toInt = v_52.toInt := (congrArg Int32.toInt (show f_41 0 16 = v_52 from ev_52.symm)); omega) (by have kc0 : (1 : Int32).toInt = 1 := ti_1; have zz0_15 : (f_41 0 15).toInt = v_55.toInt := (congrArg Int32.toInt (show f_41 0 15 = v_55 from ev_55.symm)); have zz0_16 : (f_41 0 16).toInt = v_52.toInt := (congrArg Int32.toInt (show f_41 0 16 = v_52 from ev_52.symm)); omega) hI hF hP hS (lv_sub hl [2, 0] rfl)
      · skip
        have hc_36 := hq
        refine lv_if_eq (tgt := 36) hx hb dX12_both_11 (by decide) (fun c => ?_) (fun c => absurd c (by decide))
        refine lv_iload_n hx hb dX12_both_36 rfl (lv_at hl 1 rfl) ?_
        have q_64 : (f_26 0 16).toInt = v_13.toInt := (congrArg Int32.toInt (show f_26 0 16 = v_13 from ((hk_f_26 0 16 (by decide)).trans ev_13.symm)))
        have q_65 : (f_26 0 15).toInt = v_16.toInt := (congrArg Int32.toInt (show f_26 0 15 = v_16 from ((hk_f_26 0 15 (by decide)).trans ev_16.symm)))
        exact hret _ _ _ _ (y1_5) f_26 L Q dX12_both_37 hP hS ⟨⟨hI, hF, rfl, rfl⟩, trivial, (by omega), (by omega), (by omega), (Eq.trans (Eq.symm (hs.trans ((if_neg (by decide)).trans rfl))) hsp)⟩
  refine lv_aload_n hx hb dX12_both_0 rfl (lv_at hl 0 rfl) ?_
  have q_67 : (f 0 16).toInt = v_1.toInt := (congrArg Int32.toInt (show f 0 16 = v_1 from ev_1.symm))
  have q_68 : (f 0 15).toInt = v_3.toInt := (congrArg Int32.toInt (show f 0 15 = v_3 from ev_3.symm))
  have q_70 : (f 0 13).toInt = v_5.toInt := (congrArg Int32.toInt (show f 0 13 = v_5 from ev_5.symm))
  refine sg_calli (va_runV (As := []) (rest := []) ⟨hx, hb, hml, hown, hts⟩ (kX12_compared_3 l D ca za h hh f L Q hI (by omega) (by omega) H.size) (sl_c12_compared_22_0_0_501_12 hts ⟨Nat.le_of_ble_eq_true rfl, Nat.le_of_ble_eq_true rfl⟩) (sl_vM_0 hA hK hP hS hZ) rfl rfl hl.1 rfl (lv_room (Nat.le_of_ble_eq_true rfl)) dX12_both_1 ⟨Nat.le_refl _, Nat.le_refl _⟩) hA hS (fun r_74 f_71 L_72 Q_73 H locs hq hP hS => ?_)
  obtain ⟨⟨hI, hk_f_71, eL9, eQ9⟩, hq, p_75, p_76, p_77, u_78⟩ := hq
  rw [eL9, eQ9] at hP; clear eL9 eQ9
  have hF : sgK WkX12_both_3 f f_71 := sgK.tr hF hk_f_71 (by decide +kernel)
  obtain ⟨v_79, ev_79⟩ : ∃ z : Int32, z = f_71 0 13 := ⟨_, rfl⟩
  have q_80 : 0 ≤ v_79.toInt ∧ v_79.toInt ≤ 120 := by rw [ev_79]; exact hI 0 13
  have q_81 : (f_71 0 13).toInt = v_79.toInt := (congrArg Int32.toInt (show f_71 0 13 = v_79 from ev_79.symm))
  obtain ⟨v_82, ev_82⟩ : ∃ z : Int32, z = f_71 0 16 := ⟨_, rfl⟩
  have q_83 : 0 ≤ v_82.toInt ∧ v_82.toInt ≤ 6 := by rw [ev_82]; exact hI 0 16
  have q_84 : (f_71 0 16).toInt = v_82.toInt := (congrArg Int32.toInt (show f_71 0 16 = v_82 from ev_82.symm))
  obtain ⟨v_85, ev_85⟩ : ∃ z : Int32, z = f_71 0 15 := ⟨_, rfl⟩
  have q_86 : (-1) ≤ v_85.toInt ∧ v_85.toInt ≤ 120 := by rw [ev_85]; exact hI 0 15
  have q_87 : (f_71 0 15).toInt = v_85.toInt := (congrArg Int32.toInt (show f_71 0 15 = v_85 from ev_85.symm))
  refine lv_istore_n (lv' := [(1, .int r_74), (0, .ref (h 0))]) hx hb dX12_both_4 rfl hl (by decide) rfl (fun ls hl => ?_)
  exact loop_5 121 r_74 f_71 _ _ _ (hs.trans ((spl_e ev_1 (spl_e ev_3 (spl_e ev_5 (spl2_e u_78 (spl_e ev_79 (spl_e ev_82 (spl_e ev_85 rfl))))))))) (by have zz0_13 : (f_71 0 13).toInt = v_79.toInt := (congrArg Int32.toInt (show f_71 0 13 = v_79 from ev_79.symm)); omega) (by have zz0_13 : (f_71 0 13).toInt = v_79.toInt := (congrArg Int32.toInt (show f_71 0 13 = v_79 from ev_79.symm)); omega) (by have zz0_16 : (f_71 0 16).toInt = v_82.toInt := (congrArg Int32.toInt (show f_71 0 16 = v_82 from ev_82.symm)); omega) (by have zz0_15 : (f_71 0 15).toInt = v_85.toInt := (congrArg Int32.toInt (show f_71 0 15 = v_85 from ev_85.symm)); have zz0_16 : (f_71 0 16).toInt = v_82.toInt := (congrArg Int32.toInt (show f_71 0 16 = v_82 from ev_82.symm)); omega) hI hF hP hS (lv_sub hl [1, 0] rfl)

abbrev WkX12_either_3 : List (Nat × Nat × Option Nat) := [(0, 0, some 13), (0, 0, some 15), (0, 0, some 16)]
set_option maxHeartbeats 4000000 in
set_option maxRecDepth 100000 in
theorem kX12_either_3 (l : Launch) (D : va_G) (ca : Nat → ClassId) (za h : Nat → Nat) (hh : sgH 26 h) (f : sg_F) (L : sg_L) (Q : sg_Q) (hI : sgI loM hiM f) (p0 : 3 ≤ (f 0 16).toInt) (p1 : 0 ≤ (f 0 15).toInt ∨ (f 0 16).toInt = 3) (sz : Nat) : Met l yX12_either gwX12_either { frames := 24, cells := 0, slots := 0, locals := 546 } (sgP D vwCl (tyX ca) 26 h (eM ca h) zcM za f L Q sz [.ref (h 0)]) (sgQi D vwCl 26 h (eM ca h) sz (fun r f1 L1 Q1 => ((sgI loM hiM f1 ∧ sgK WkX12_either_3 f f1 ∧ L1 = L ∧ Q1 = Q) ∧ True ∧ ((f 0 13).toInt ≤ (f1 0 13).toInt) ∧ (3 ≤ (f1 0 16).toInt) ∧ (0 ≤ (f1 0 15).toInt ∨ (f1 0 16).toInt = 3) ∧ (r, f1) = sX12_either_3 f L))) 0 0 (sgA 26 h sz) := by
  refine sg_ofWi (cc := cX12_either) (maxL := 3) RX12 (by decide) rfl rfl (Nat.le_of_ble_eq_true rfl) ?_
  intro p e s m below meth cd Qz ls hx hb hml hown hts hK hZ hP hS hl hret
  have hA := sgY.self (n := 26) (h := h) (sz := s.heap.size)
  have hl : lv_has ls 3 [(0, .ref (h 0))] := hl
  obtain ⟨H, hH⟩ : ∃ z : Heap, z = s.heap := ⟨_, rfl⟩
  obtain ⟨locs, hlo⟩ : ∃ z : List Loc, z = [] := ⟨_, rfl⟩
  have hP : va_P D vwCl (sgw 26 h (eM ca h) f L Q) H := by rw [hH]; exact hP
  have hS : va_S (sgA 26 h s.heap.size) s.heap H locs := by rw [hH, hlo]; exact hS
  suffices hgo : W p l e ({ frames := 24, cells := 0, slots := 0, locals := 546 }) s m ([.ref (h 0)] : List Value).toArray below meth cd H locs 0 0 Qz (F0 m 0 ls []) by rw [hH, hlo] at hgo; exact hgo
  clear hH hlo
  obtain ⟨sp, hsp⟩ : ∃ z : Int32 × sg_F, z = sX12_either_3 f L := ⟨_, rfl⟩
  have hs : sp = sX12_either_3 f L := hsp
  obtain ⟨v_1, ev_1⟩ : ∃ z : Int32, z = f 0 16 := ⟨_, rfl⟩
  have q_2 : 0 ≤ v_1.toInt ∧ v_1.toInt ≤ 6 := by rw [ev_1]; exact hI 0 16
  obtain ⟨v_3, ev_3⟩ : ∃ z : Int32, z = f 0 15 := ⟨_, rfl⟩
  have q_4 : (-1) ≤ v_3.toInt ∧ v_3.toInt ≤ 120 := by rw [ev_3]; exact hI 0 15
  obtain ⟨v_5, ev_5⟩ : ∃ z : Int32, z = f 0 13 := ⟨_, rfl⟩
  have q_6 : 0 ≤ v_5.toInt ∧ v_5.toInt ≤ 120 := by rw [ev_5]; exact hI 0 13
  have o_7 : (f 0 16).toInt = v_1.toInt := (congrArg Int32.toInt (show f 0 16 = v_1 from ev_1.symm))
  have o_8 : (f 0 15).toInt = v_3.toInt := (congrArg Int32.toInt (show f 0 15 = v_3 from ev_3.symm))
  have o_9 : (f 0 13).toInt = v_5.toInt := (congrArg Int32.toInt (show f 0 13 = v_5 from ev_5.symm))
  have hF : sgK WkX12_either_3 f f := sgK.rf
  have loop_5 : ∀ (n_5 : Nat) (y1_5 : Int32) (fp_5 : sg_F) (H : Heap) (locs : List Loc) (ls : Array Slot), sp = sX12_either_3_l5 n_5 y1_5 fp_5 L → 120 - (fp_5 0 13).toInt < (n_5 : Int) → (f 0 13).toInt ≤ (fp_5 0 13).toInt → 3 ≤ (fp_5 0 16).toInt → 0 ≤ (fp_5 0 15).toInt ∨ (fp_5 0 16).toInt = 3 → sgI loM hiM fp_5 → sgK WkX12_either_3 f fp_5 → va_P D vwCl (sgw 26 h (eM ca h) fp_5 L Q) H → va_S (sgA 26 h s.heap.size) s.heap H locs → lv_has ls 3 [(0, .ref (h 0)), (1, .int y1_5)] → W p l e ({ frames := 24, cells := 0, slots := 0, locals := 546 }) s m ([.ref (h 0)] : List Value).toArray below meth cd H locs 0 0 Qz (F0 m 5 ls []) := by
    intro n_5
    induction n_5 with
    | zero => intro y1_5 fp_5 H locs ls hs hm_5 hg0_5 hg1_5 hg2_5 hI hF hP hS hl; have zb := (show 0 ≤ (fp_5 0 13).toInt ∧ (fp_5 0 13).toInt ≤ 120 from hI 0 13); exact absurd hm_5 (by omega)
    | succ n_5 ih_5 =>
      intro y1_5 fp_5 H locs ls hs hm_5 hg0_5 hg1_5 hg2_5 hI hF hP hS hl
      have hs : sp = sX12_either_3_h5 (sX12_either_3_l5 n_5) y1_5 fp_5 L := hs
      obtain ⟨v_10, ev_10⟩ : ∃ z : Int32, z = fp_5 0 13 := ⟨_, rfl⟩
      have q_11 : 0 ≤ v_10.toInt ∧ v_10.toInt ≤ 120 := by rw [ev_10]; exact hI 0 13
      have q_12 : (fp_5 0 13).toInt = v_10.toInt := by rw [ev_10]
      obtain ⟨v_13, ev_13⟩ : ∃ z : Int32, z = fp_5 0 16 := ⟨_, rfl⟩
      have q_14 : 0 ≤ v_13.toInt ∧ v_13.toInt ≤ 6 := by rw [ev_13]; exact hI 0 16
      have q_15 : (fp_5 0 16).toInt = v_13.toInt := by rw [ev_13]
      obtain ⟨v_16, ev_16⟩ : ∃ z : Int32, z = fp_5 0 15 := ⟨_, rfl⟩
      have q_17 : (-1) ≤ v_16.toInt ∧ v_16.toInt ≤ 120 := by rw [ev_16]; exact hI 0 15
      have q_18 : (fp_5 0 15).toInt = v_16.toInt := by rw [ev_16]
      refine lv_aload_n hx hb dX12_either_5 rfl (lv_at hl 0 rfl) ?_
      refine lv_bipush (v := 124) hx hb dX12_either_6 bp_124 ?_
      obtain ⟨v_21, ev_21⟩ : ∃ z : Int32, z = fp_5 0 14 := ⟨_, rfl⟩
      have q_22 : 0 ≤ v_21.toInt ∧ v_21.toInt ≤ 120 := by rw [ev_21]; exact hI 0 14
      have q_23 : (fp_5 0 14).toInt = v_21.toInt := (congrArg Int32.toInt (show fp_5 0 14 = v_21 from ev_21.symm))
      refine sg_calli (va_runV (As := [.int 124]) (rest := []) ⟨hx, hb, hml, hown, hts⟩ (kX12_takes_124 l D ca za h hh fp_5 L Q hI H.size) (sl_c12_takes_1_0_0_20_12 hts ⟨Nat.le_of_ble_eq_true rfl, Nat.le_of_ble_eq_true rfl⟩) (sl_vM_0 hA hK hP hS hZ) rfl rfl hl.1 rfl (lv_room (Nat.le_of_ble_eq_true rfl)) dX12_either_8 ⟨Nat.le_refl _, Nat.le_refl _⟩) hA hS (fun r_29 f_26 L_27 Q_28 H locs hq hP hS => ?_)
      obtain ⟨⟨hI, hk_f_26, eL9, eQ9⟩, hq, u_30⟩ := hq
      rw [eL9, eQ9] at hP; clear eL9 eQ9
      have hF : sgK WkX12_either_3 f f_26 := sgK.tr hF hk_f_26 (by decide +kernel)
      obtain ⟨v_31, ev_31⟩ : ∃ z : Int32, z = f_26 0 13 := ⟨_, rfl⟩
      replace hs := hs.trans (spl_e ev_10 (spl_e ev_13 (spl_e ev_16 (spl_e ev_21 (spl2_e u_30 (spl_e ev_31 rfl))))))
      have q_32 : 0 ≤ v_31.toInt ∧ v_31.toInt ≤ 120 := by rw [ev_31]; exact hI 0 13
      have q_33 : (f_26 0 13).toInt = v_31.toInt := (congrArg Int32.toInt (show f_26 0 13 = v_31 from ev_31.symm))
      have k_35 : (124 : Int32).toInt = 124 := by decide
      rcases hq with ⟨rfl, hq⟩ | ⟨rfl, hq⟩
      · skip
        have hc_36 := hq
        refine lv_if_eq (tgt := 36) hx hb dX12_either_11 (by decide) (fun c => absurd c (by decide)) (fun c => ?_)
        refine lv_aload_n hx hb dX12_either_14 rfl (lv_at hl 0 rfl) ?_
        have q_37 : (f_26 0 16).toInt = v_13.toInt := (congrArg Int32.toInt (show f_26 0 16 = v_13 from ((hk_f_26 0 16 (by decide)).trans ev_13.symm)))
        have q_38 : (f_26 0 15).toInt = v_16.toInt := (congrArg Int32.toInt (show f_26 0 15 = v_16 from ((hk_f_26 0 15 (by decide)).trans ev_16.symm)))
        refine sg_calli (va_runV (As := []) (rest := []) ⟨hx, hb, hml, hown, hts⟩ (kX12_both_3 l D ca za h hh f_26 L Q hI (by omega) (by omega) H.size) (sl_c12_both_23_0_0_524_12 hts ⟨Nat.le_of_ble_eq_true rfl, Nat.le_of_ble_eq_true rfl⟩) (sl_vM_0 hA hK hP hS hZ) rfl rfl hl.1 rfl (lv_room (Nat.le_of_ble_eq_true rfl)) dX12_either_15 ⟨Nat.le_refl _, Nat.le_refl _⟩) hA hS (fun r_44 f_41 L_42 Q_43 H locs hq hP hS => ?_)
        obtain ⟨⟨hI, hk_f_41, eL9, eQ9⟩, hq, p_45, p_46, p_47, u_48⟩ := hq
        rw [eL9, eQ9] at hP; clear eL9 eQ9
        have hF : sgK WkX12_either_3 f f_41 := sgK.tr hF hk_f_41 (by decide +kernel)
        obtain ⟨v_49, ev_49⟩ : ∃ z : Int32, z = f_41 0 13 := ⟨_, rfl⟩
        have q_50 : 0 ≤ v_49.toInt ∧ v_49.toInt ≤ 120 := by rw [ev_49]; exact hI 0 13
        have q_51 : (f_41 0 13).toInt = v_49.toInt := (congrArg Int32.toInt (show f_41 0 13 = v_49 from ev_49.symm))
        obtain ⟨v_52, ev_52⟩ : ∃ z : Int32, z = f_41 0 16 := ⟨_, rfl⟩
        have q_53 : 0 ≤ v_52.toInt ∧ v_52.toInt ≤ 6 := by rw [ev_52]; exact hI 0 16
        have q_54 : (f_41 0 16).toInt = v_52.toInt := (congrArg Int32.toInt (show f_41 0 16 = v_52 from ev_52.symm))
        obtain ⟨v_55, ev_55⟩ : ∃ z : Int32, z = f_41 0 15 := ⟨_, rfl⟩
        replace hs := hs.trans ((if_pos rfl).trans (spl2_e u_48 (spl_e ev_49 (spl_e ev_52 (spl_e ev_55 rfl)))))
        have q_56 : (-1) ≤ v_55.toInt ∧ v_55.toInt ≤ 120 := by rw [ev_55]; exact hI 0 15
        have q_57 : (f_41 0 15).toInt = v_55.toInt := (congrArg Int32.toInt (show f_41 0 15 = v_55 from ev_55.symm))
        refine lv_istore_n (lv' := [(2, .int r_44), (0, .ref (h 0)), (1, .int y1_5)]) hx hb dX12_either_18 rfl hl (by decide) rfl (fun ls hl => ?_)
        refine lv_iload_n hx hb dX12_either_19 rfl (lv_at hl 2 rfl) ?_
        refine lv_if_ne (tgt := 27) hx hb dX12_either_20 (by decide) (fun c => ?_) (fun c => ?_)
        · skip
          have c_59 : y1_5.toInt ≠ 0 := (by first | exact (cm_ne1 ti_0 c) | (have z := bn_ne c; have k1 : (0 : Int32).toInt = 0 := ti_0; omega))
          refine lv_iconst (v := 1) hx hb dX12_either_27 ic_1 ?_
          refine lv_goto (tgt := 32) hx hb dX12_either_28 (by decide) ?_
          refine lv_istore_n (lv' := [(1, .int 1), (2, .int r_44), (0, .ref (h 0))]) hx hb dX12_either_32 rfl hl (by decide) rfl (fun ls hl => ?_)
          refine lv_goto (tgt := 5) hx hb dX12_either_33 (by decide) ?_
          exact ih_5 1 f_41 _ _ _ (hs.trans ((if_neg c_59).trans rfl)) (by have kc0 : (1 : Int32).toInt = 1 := ti_1; have zz0_13 : (f_41 0 13).toInt = v_49.toInt := (congrArg Int32.toInt (show f_41 0 13 = v_49 from ev_49.symm)); omega) (by have kc0 : (1 : Int32).toInt = 1 := ti_1; have zz0_13 : (f_41 0 13).toInt = v_49.toInt := (congrArg Int32.toInt (show f_41 0 13 = v_49 from ev_49.symm)); omega) (by have kc0 : (1 : Int32).toInt = 1 := ti_1; have zz0_16 : (f_41 0 16).toInt = v_52.toInt := (congrArg Int32.toInt (show f_41 0 16 = v_52 from ev_52.symm)); omega) (by have kc0 : (1 : Int32).toInt = 1 := ti_1; have zz0_15 : (f_41 0 15).toInt = v_55.toInt := (congrArg Int32.toInt (show f_41 0 15 = v_55 from ev_55.symm)); have zz0_16 : (f_41 0 16).toInt = v_52.toInt := (congrArg Int32.toInt (show f_41 0 16 = v_52 from ev_52.symm)); omega) hI hF hP hS (lv_sub hl [2, 0] rfl)
        · skip
          have c_60 : y1_5.toInt = 0 := (by first | exact (cm_eq1 ti_0 c) | (have z := Int32.toInt_inj.mpr c; have k1 : (0 : Int32).toInt = 0 := ti_0; omega))
          replace hs := hs.trans ((if_pos c_60).trans rfl)
          refine lv_iload_n hx hb dX12_either_23 rfl (lv_at hl 0 rfl) ?_
          refine lv_if_eq (tgt := 31) hx hb dX12_either_24 (by decide) (fun c => ?_) (fun c => ?_)
          · skip
            have c_61 : r_44.toInt = 0 := (by first | exact (cm_eq1 ti_0 c) | (have z := Int32.toInt_inj.mpr c; have k1 : (0 : Int32).toInt = 0 := ti_0; omega))
            refine lv_iconst (v := 0) hx hb dX12_either_31 ic_0 ?_
            refine lv_istore_n (lv' := [(1, .int 0), (2, .int r_44), (0, .ref (h 0))]) hx hb dX12_either_32 rfl hl (by decide) rfl (fun ls hl => ?_)
            refine lv_goto (tgt := 5) hx hb dX12_either_33 (by decide) ?_
            exact ih_5 0 f_41 _ _ _ (hs.trans ((if_pos c_61).trans rfl)) (by have kc0 : (0 : Int32).toInt = 0 := ti_0; have zz0_13 : (f_41 0 13).toInt = v_49.toInt := (congrArg Int32.toInt (show f_41 0 13 = v_49 from ev_49.symm)); omega) (by have kc0 : (0 : Int32).toInt = 0 := ti_0; have zz0_13 : (f_41 0 13).toInt = v_49.toInt := (congrArg Int32.toInt (show f_41 0 13 = v_49 from ev_49.symm)); omega) (by have kc0 : (0 : Int32).toInt = 0 := ti_0; have zz0_16 : (f_41 0 16).toInt = v_52.toInt := (congrArg Int32.toInt (show f_41 0 16 = v_52 from ev_52.symm)); omega) (by have kc0 : (0 : Int32).toInt = 0 := ti_0; have zz0_15 : (f_41 0 15).toInt = v_55.toInt := (congrArg Int32.toInt (show f_41 0 15 = v_55 from ev_55.symm)); have zz0_16 : (f_41 0 16).toInt = v_52.toInt := (congrArg Int32.toInt (show f_41 0 16 = v_52 from ev_52.symm)); omega) hI hF hP hS (lv_sub hl [2, 0] rfl)
          · skip
            have c_62 : r_44.toInt ≠ 0 := (by first | exact (cm_ne1 ti_0 c) | (have z := bn_ne c; have k1 : (0 : Int32).toInt = 0 := ti_0; omega))
            refine lv_iconst (v := 1) hx hb dX12_either_27 ic_1 ?_
            refine lv_goto (tgt := 32) hx hb dX12_either_28 (by decide) ?_
            refine lv_istore_n (lv' := [(1, .int 1), (2, .int r_44), (0, .ref (h 0))]) hx hb dX12_either_32 rfl hl (by decide) rfl (fun ls hl => ?_)
            refine lv_goto (tgt := 5) hx hb dX12_either_33 (by decide) ?_
            exact ih_5 1 f_41 _ _ _ (hs.trans ((if_neg c_62).trans rfl)) (by have kc0 : (1 : Int32).toInt = 1 := ti_1; have zz0_13 : (f_41 0 13).toInt = v_49.toInt := (congrArg Int32.toInt (show f_41 0 13 = v_49 from ev_49.symm)); omega) (by have kc0 : (1 : Int32).toInt = 1 := ti_1; have zz0_13 : (f_41 0 13).toInt = v_49.toInt := (congrArg Int32.toInt (show f_41 0 13 = v_49 from ev_49.symm)); omega) (by have kc0 : (1 : Int32).toInt = 1 := ti_1; have zz0_16 : (f_41 0 16).toInt = v_52.toInt := (congrArg Int32.toInt (show f_41 0 16 = v_52 from ev_52.symm)); omega) (by have kc0 : (1 : Int32).toInt = 1 := ti_1; have zz0_15 : (f_41 0 15).toInt = v_55.toInt := (congrArg Int32.toInt (show f_41 0 15 = v_55 from ev_55.symm)); have zz0_16 : (f_41 0 16).toInt = v_52.toInt := (congrArg Int32.toInt (show f_41 0 16 = v_52 from ev_52.symm)); omega) hI hF hP hS (lv_sub hl [2, 0] rfl)
      · skip
        have hc_36 := hq
        refine lv_if_eq (tgt := 36) hx hb dX12_either_11 (by decide) (fun c => ?_) (fun c => absurd c (by decide))
        refine lv_iload_n hx hb dX12_either_36 rfl (lv_at hl 1 rfl) ?_
        have q_64 : (f_26 0 16).toInt = v_13.toInt := (congrArg Int32.toInt (show f_26 0 16 = v_13 from ((hk_f_26 0 16 (by decide)).trans ev_13.symm)))
        have q_65 : (f_26 0 15).toInt = v_16.toInt := (congrArg Int32.toInt (show f_26 0 15 = v_16 from ((hk_f_26 0 15 (by decide)).trans ev_16.symm)))
        exact hret _ _ _ _ (y1_5) f_26 L Q dX12_either_37 hP hS ⟨⟨hI, hF, rfl, rfl⟩, trivial, (by omega), (by omega), (by omega), (Eq.trans (Eq.symm (hs.trans ((if_neg (by decide)).trans rfl))) hsp)⟩
  refine lv_aload_n hx hb dX12_either_0 rfl (lv_at hl 0 rfl) ?_
  have q_67 : (f 0 16).toInt = v_1.toInt := (congrArg Int32.toInt (show f 0 16 = v_1 from ev_1.symm))
  have q_68 : (f 0 15).toInt = v_3.toInt := (congrArg Int32.toInt (show f 0 15 = v_3 from ev_3.symm))
  have q_70 : (f 0 13).toInt = v_5.toInt := (congrArg Int32.toInt (show f 0 13 = v_5 from ev_5.symm))
  refine sg_calli (va_runV (As := []) (rest := []) ⟨hx, hb, hml, hown, hts⟩ (kX12_both_3 l D ca za h hh f L Q hI (by omega) (by omega) H.size) (sl_c12_both_23_0_0_524_12 hts ⟨Nat.le_of_ble_eq_true rfl, Nat.le_of_ble_eq_true rfl⟩) (sl_vM_0 hA hK hP hS hZ) rfl rfl hl.1 rfl (lv_room (Nat.le_of_ble_eq_true rfl)) dX12_either_1 ⟨Nat.le_refl _, Nat.le_refl _⟩) hA hS (fun r_74 f_71 L_72 Q_73 H locs hq hP hS => ?_)
  obtain ⟨⟨hI, hk_f_71, eL9, eQ9⟩, hq, p_75, p_76, p_77, u_78⟩ := hq
  rw [eL9, eQ9] at hP; clear eL9 eQ9
  have hF : sgK WkX12_either_3 f f_71 := sgK.tr hF hk_f_71 (by decide +kernel)
  obtain ⟨v_79, ev_79⟩ : ∃ z : Int32, z = f_71 0 13 := ⟨_, rfl⟩
  have q_80 : 0 ≤ v_79.toInt ∧ v_79.toInt ≤ 120 := by rw [ev_79]; exact hI 0 13
  have q_81 : (f_71 0 13).toInt = v_79.toInt := (congrArg Int32.toInt (show f_71 0 13 = v_79 from ev_79.symm))
  obtain ⟨v_82, ev_82⟩ : ∃ z : Int32, z = f_71 0 16 := ⟨_, rfl⟩
  have q_83 : 0 ≤ v_82.toInt ∧ v_82.toInt ≤ 6 := by rw [ev_82]; exact hI 0 16
  have q_84 : (f_71 0 16).toInt = v_82.toInt := (congrArg Int32.toInt (show f_71 0 16 = v_82 from ev_82.symm))
  obtain ⟨v_85, ev_85⟩ : ∃ z : Int32, z = f_71 0 15 := ⟨_, rfl⟩
  have q_86 : (-1) ≤ v_85.toInt ∧ v_85.toInt ≤ 120 := by rw [ev_85]; exact hI 0 15
  have q_87 : (f_71 0 15).toInt = v_85.toInt := (congrArg Int32.toInt (show f_71 0 15 = v_85 from ev_85.symm))
  refine lv_istore_n (lv' := [(1, .int r_74), (0, .ref (h 0))]) hx hb dX12_either_4 rfl hl (by decide) rfl (fun ls hl => ?_)
  exact loop_5 121 r_74 f_71 _ _ _ (hs.trans ((spl_e ev_1 (spl_e ev_3 (spl_e ev_5 (spl2_e u_78 (spl_e ev_79 (spl_e ev_82 (spl_e ev_85 rfl))))))))) (by have zz0_13 : (f_71 0 13).toInt = v_79.toInt := (congrArg Int32.toInt (show f_71 0 13 = v_79 from ev_79.symm)); omega) (by have zz0_13 : (f_71 0 13).toInt = v_79.toInt := (congrArg Int32.toInt (show f_71 0 13 = v_79 from ev_79.symm)); omega) (by have zz0_16 : (f_71 0 16).toInt = v_82.toInt := (congrArg Int32.toInt (show f_71 0 16 = v_82 from ev_82.symm)); omega) (by have zz0_15 : (f_71 0 15).toInt = v_85.toInt := (congrArg Int32.toInt (show f_71 0 15 = v_85 from ev_85.symm)); have zz0_16 : (f_71 0 16).toInt = v_82.toInt := (congrArg Int32.toInt (show f_71 0 16 = v_82 from ev_82.symm)); omega) hI hF hP hS (lv_sub hl [1, 0] rfl)

abbrev WkX12_one_2 : List (Nat × Nat × Option Nat) := [(0, 0, some 13), (0, 0, some 15), (0, 0, some 16)]
set_option maxHeartbeats 4000000 in
set_option maxRecDepth 100000 in
theorem kX12_one_2 (l : Launch) (D : va_G) (ca : Nat → ClassId) (za h : Nat → Nat) (hh : sgH 26 h) (f : sg_F) (L : sg_L) (Q : sg_Q) (hI : sgI loM hiM f) (p0 : 2 ≤ (f 0 16).toInt) (p1 : 0 ≤ (f 0 15).toInt ∨ (f 0 16).toInt = 2) (sz : Nat) : Met l yX12_one gwX12_one { frames := 25, cells := 0, slots := 0, locals := 568 } (sgP D vwCl (tyX ca) 26 h (eM ca h) zcM za f L Q sz [.ref (h 0)]) (sgQi D vwCl 26 h (eM ca h) sz (fun r f1 L1 Q1 => ((sgI loM hiM f1 ∧ sgK WkX12_one_2 f f1 ∧ L1 = L ∧ Q1 = Q) ∧ True ∧ ((f 0 13).toInt ≤ (f1 0 13).toInt) ∧ (2 ≤ (f1 0 16).toInt) ∧ (0 ≤ (f1 0 15).toInt ∨ (f1 0 16).toInt = 2) ∧ (r, f1) = sX12_one_2 f L))) 0 0 (sgA 26 h sz) := by
  refine sg_ofWi (cc := cX12_one) (maxL := 5) RX12 (by decide) rfl rfl (Nat.le_of_ble_eq_true rfl) ?_
  intro p e s m below meth cd Qz ls hx hb hml hown hts hK hZ hP hS hl hret
  have hA := sgY.self (n := 26) (h := h) (sz := s.heap.size)
  have hl : lv_has ls 5 [(0, .ref (h 0))] := hl
  obtain ⟨H, hH⟩ : ∃ z : Heap, z = s.heap := ⟨_, rfl⟩
  obtain ⟨locs, hlo⟩ : ∃ z : List Loc, z = [] := ⟨_, rfl⟩
  have hP : va_P D vwCl (sgw 26 h (eM ca h) f L Q) H := by rw [hH]; exact hP
  have hS : va_S (sgA 26 h s.heap.size) s.heap H locs := by rw [hH, hlo]; exact hS
  suffices hgo : W p l e ({ frames := 25, cells := 0, slots := 0, locals := 568 }) s m ([.ref (h 0)] : List Value).toArray below meth cd H locs 0 0 Qz (F0 m 0 ls []) by rw [hH, hlo] at hgo; exact hgo
  clear hH hlo
  obtain ⟨sp, hsp⟩ : ∃ z : Int32 × sg_F, z = sX12_one_2 f L := ⟨_, rfl⟩
  have hs : sp = sX12_one_2 f L := hsp
  obtain ⟨v_1, ev_1⟩ : ∃ z : Int32, z = f 0 16 := ⟨_, rfl⟩
  have q_2 : 0 ≤ v_1.toInt ∧ v_1.toInt ≤ 6 := by rw [ev_1]; exact hI 0 16
  obtain ⟨v_3, ev_3⟩ : ∃ z : Int32, z = f 0 15 := ⟨_, rfl⟩
  have q_4 : (-1) ≤ v_3.toInt ∧ v_3.toInt ≤ 120 := by rw [ev_3]; exact hI 0 15
  obtain ⟨v_5, ev_5⟩ : ∃ z : Int32, z = f 0 13 := ⟨_, rfl⟩
  replace hs := hs.trans (spl_e ev_1 (spl_e ev_3 (spl_e ev_5 rfl)))
  have q_6 : 0 ≤ v_5.toInt ∧ v_5.toInt ≤ 120 := by rw [ev_5]; exact hI 0 13
  have o_7 : (f 0 16).toInt = v_1.toInt := (congrArg Int32.toInt (show f 0 16 = v_1 from ev_1.symm))
  have o_8 : (f 0 15).toInt = v_3.toInt := (congrArg Int32.toInt (show f 0 15 = v_3 from ev_3.symm))
  have o_9 : (f 0 13).toInt = v_5.toInt := (congrArg Int32.toInt (show f 0 13 = v_5 from ev_5.symm))
  have hF : sgK WkX12_one_2 f f := sgK.rf
  have blk_229 : ∀ (y3_229 : Int32) (y4_229 : Int32) (fp_229 : sg_F) (H : Heap) (locs : List Loc) (ls : Array Slot), sp = sX12_one_2_b229 y3_229 y4_229 fp_229 L → (-1) ≤ (fp_229 0 15).toInt ∧ (fp_229 0 15).toInt ≤ (-1) → 0 ≤ y4_229.toInt ∧ y4_229.toInt ≤ 4 → (f 0 13).toInt ≤ (fp_229 0 13).toInt → 2 ≤ (fp_229 0 16).toInt → 0 ≤ (fp_229 0 15).toInt ∨ (fp_229 0 16).toInt = 2 → sgI loM hiM fp_229 → sgK WkX12_one_2 f fp_229 → va_P D vwCl (sgw 26 h (eM ca h) fp_229 L Q) H → va_S (sgA 26 h s.heap.size) s.heap H locs → lv_has ls 5 [(0, .ref (h 0)), (3, .int y3_229), (4, .int y4_229)] → W p l e ({ frames := 25, cells := 0, slots := 0, locals := 568 }) s m ([.ref (h 0)] : List Value).toArray below meth cd H locs 0 0 Qz (F0 m 229 ls []) := by
    intro y3_229 y4_229 fp_229 H locs ls hs hy0_229 hy1_229 hg0_229 hg1_229 hg2_229 hI hF hP hS hl
    obtain ⟨v_10, ev_10⟩ : ∃ z : Int32, z = fp_229 0 15 := ⟨_, rfl⟩
    have q_11 : (-1) ≤ v_10.toInt ∧ v_10.toInt ≤ 120 := by rw [ev_10]; exact hI 0 15
    have q_12 : (fp_229 0 15).toInt = v_10.toInt := by rw [ev_10]
    obtain ⟨v_13, ev_13⟩ : ∃ z : Int32, z = fp_229 0 13 := ⟨_, rfl⟩
    have q_14 : 0 ≤ v_13.toInt ∧ v_13.toInt ≤ 120 := by rw [ev_13]; exact hI 0 13
    have q_15 : (fp_229 0 13).toInt = v_13.toInt := by rw [ev_13]
    obtain ⟨v_16, ev_16⟩ : ∃ z : Int32, z = fp_229 0 16 := ⟨_, rfl⟩
    replace hs := hs.trans (spl_e ev_10 (spl_e ev_13 (spl_e ev_16 rfl)))
    have q_17 : 0 ≤ v_16.toInt ∧ v_16.toInt ≤ 6 := by rw [ev_16]; exact hI 0 16
    have q_18 : (fp_229 0 16).toInt = v_16.toInt := by rw [ev_16]
    refine lv_iload hx hb dX12_one_229 (lv_at hl 2 rfl) ?_
    refine lv_if_ne (tgt := 241) hx hb dX12_one_231 (by decide) (fun c => ?_) (fun c => ?_)
    · skip
      have c_19 : y4_229.toInt ≠ 0 := (by first | exact (cm_ne1 ti_0 c) | (have z := bn_ne c; have k1 : (0 : Int32).toInt = 0 := ti_0; omega))
      refine lv_iload_n hx hb dX12_one_241 rfl (lv_at hl 1 rfl) ?_
      exact hret _ _ _ _ (y3_229) fp_229 L Q dX12_one_242 hP hS ⟨⟨hI, hF, rfl, rfl⟩, trivial, (by omega), (by omega), (by omega), (Eq.trans (Eq.symm (hs.trans ((if_neg c_19).trans rfl))) hsp)⟩
    · skip
      have c_20 : y4_229.toInt = 0 := (by first | exact (cm_eq1 ti_0 c) | (have z := Int32.toInt_inj.mpr c; have k1 : (0 : Int32).toInt = 0 := ti_0; omega))
      refine lv_aload_n hx hb dX12_one_234 rfl (lv_at hl 0 rfl) ?_
      refine sg_calli (va_runV (As := []) (rest := []) ⟨hx, hb, hml, hown, hts⟩ (kX12_wrong l D ca za h hh fp_229 L Q hI H.size) (sl_c12_wrong_0_0_0_0_12 hts ⟨Nat.le_of_ble_eq_true rfl, Nat.le_of_ble_eq_true rfl⟩) (sl_vM_0 hA hK hP hS hZ) rfl rfl hl.1 rfl (lv_room (Nat.le_of_ble_eq_true rfl)) dX12_one_235 ⟨Nat.le_refl _, Nat.le_refl _⟩) hA hS (fun r_28 f_25 L_26 Q_27 H locs hq hP hS => ?_)
      obtain ⟨⟨hI, hk_f_25, eL9, eQ9⟩, hq, p_29, u_30⟩ := hq
      rw [eL9, eQ9] at hP; clear eL9 eQ9
      have hF : sgK WkX12_one_2 f f_25 := sgK.tr hF hk_f_25 (by decide +kernel)
      obtain ⟨v_31, ev_31⟩ : ∃ z : Int32, z = f_25 0 15 := ⟨_, rfl⟩
      have q_32 : (-1) ≤ v_31.toInt ∧ v_31.toInt ≤ 120 := by rw [ev_31]; exact hI 0 15
      have q_33 : (f_25 0 15).toInt = v_31.toInt := (congrArg Int32.toInt (show f_25 0 15 = v_31 from ev_31.symm))
      obtain rfl : r_28 = 0 := Int32.toInt_inj.mp (by have k9 : (0 : Int32).toInt = 0 := ti_0; omega)
      refine lv_goto (tgt := 242) hx hb dX12_one_238 (by decide) ?_
      have q_34 : (f_25 0 13).toInt = v_13.toInt := (congrArg Int32.toInt (show f_25 0 13 = v_13 from ((hk_f_25 0 13 (by decide)).trans ev_13.symm)))
      have q_35 : (f_25 0 16).toInt = v_16.toInt := (congrArg Int32.toInt (show f_25 0 16 = v_16 from ((hk_f_25 0 16 (by decide)).trans ev_16.symm)))
      have k99 : (0 : Int32).toInt = 0 := ti_0
      exact hret _ _ _ _ (0) f_25 L Q dX12_one_242 hP hS ⟨⟨hI, hF, rfl, rfl⟩, trivial, (by omega), (by omega), (by omega), (Eq.trans (Eq.symm (hs.trans ((if_pos c_20).trans (spl2_e u_30 (spl_e ev_31 rfl))))) hsp)⟩
  have loop_176 : ∀ (n_176 : Nat) (y3_176 : Int32) (y4_176 : Int32) (fp_176 : sg_F) (H : Heap) (locs : List Loc) (ls : Array Slot), sp = sX12_one_2_l176 n_176 y3_176 y4_176 fp_176 L → 4 - y4_176.toInt < (n_176 : Int) → (-1) ≤ (fp_176 0 15).toInt ∧ (fp_176 0 15).toInt ≤ (-1) → 0 ≤ y4_176.toInt ∧ y4_176.toInt ≤ 4 → (f 0 13).toInt ≤ (fp_176 0 13).toInt → 2 ≤ (fp_176 0 16).toInt → 0 ≤ (fp_176 0 15).toInt ∨ (fp_176 0 16).toInt = 2 → sgI loM hiM fp_176 → sgK WkX12_one_2 f fp_176 → va_P D vwCl (sgw 26 h (eM ca h) fp_176 L Q) H → va_S (sgA 26 h s.heap.size) s.heap H locs → lv_has ls 5 [(0, .ref (h 0)), (3, .int y3_176), (4, .int y4_176)] → W p l e ({ frames := 25, cells := 0, slots := 0, locals := 568 }) s m ([.ref (h 0)] : List Value).toArray below meth cd H locs 0 0 Qz (F0 m 176 ls []) := by
    intro n_176
    induction n_176 with
    | zero => intro y3_176 y4_176 fp_176 H locs ls hs hm_176 hy0_176 hy1_176 hg0_176 hg1_176 hg2_176 hI hF hP hS hl; exact absurd hm_176 (by omega)
    | succ n_176 ih_176 =>
      intro y3_176 y4_176 fp_176 H locs ls hs hm_176 hy0_176 hy1_176 hg0_176 hg1_176 hg2_176 hI hF hP hS hl
      have hs : sp = sX12_one_2_h176 (sX12_one_2_l176 n_176) y3_176 y4_176 fp_176 L := hs
      obtain ⟨v_38, ev_38⟩ : ∃ z : Int32, z = fp_176 0 15 := ⟨_, rfl⟩
      have q_39 : (-1) ≤ v_38.toInt ∧ v_38.toInt ≤ 120 := by rw [ev_38]; exact hI 0 15
      have q_40 : (fp_176 0 15).toInt = v_38.toInt := by rw [ev_38]
      obtain ⟨v_41, ev_41⟩ : ∃ z : Int32, z = fp_176 0 13 := ⟨_, rfl⟩
      have q_42 : 0 ≤ v_41.toInt ∧ v_41.toInt ≤ 120 := by rw [ev_41]; exact hI 0 13
      have q_43 : (fp_176 0 13).toInt = v_41.toInt := by rw [ev_41]
      obtain ⟨v_44, ev_44⟩ : ∃ z : Int32, z = fp_176 0 16 := ⟨_, rfl⟩
      replace hs := hs.trans (spl_e ev_38 (spl_e ev_41 (spl_e ev_44 rfl)))
      have q_45 : 0 ≤ v_44.toInt ∧ v_44.toInt ≤ 6 := by rw [ev_44]; exact hI 0 16
      have q_46 : (fp_176 0 16).toInt = v_44.toInt := by rw [ev_44]
      refine lv_iload hx hb dX12_one_176 (lv_at hl 2 rfl) ?_
      refine lv_iconst (v := 4) hx hb dX12_one_178 ic_4 ?_
      refine lv_icmp_ge (tgt := 229) hx hb dX12_one_179 (by decide) (fun c => ?_) (fun c => ?_)
      · skip
        have c_47 : 4 ≤ y4_176.toInt := (by first | exact (cm_le0 ti_4 c) | (have z := bn_le c; have k1 : (4 : Int32).toInt = 4 := ti_4; omega))
        exact blk_229 y3_176 y4_176 fp_176 _ _ _ (hs.trans ((if_neg (Int.not_lt.mpr c_47)).trans rfl)) (by have zz0_15 : (fp_176 0 15).toInt = v_38.toInt := (congrArg Int32.toInt (show fp_176 0 15 = v_38 from ev_38.symm)); exact ⟨by omega, by omega⟩) hy1_176 (by have zz0_13 : (fp_176 0 13).toInt = v_41.toInt := (congrArg Int32.toInt (show fp_176 0 13 = v_41 from ev_41.symm)); omega) (by have zz0_16 : (fp_176 0 16).toInt = v_44.toInt := (congrArg Int32.toInt (show fp_176 0 16 = v_44 from ev_44.symm)); omega) (by have zz0_15 : (fp_176 0 15).toInt = v_38.toInt := (congrArg Int32.toInt (show fp_176 0 15 = v_38 from ev_38.symm)); have zz0_16 : (fp_176 0 16).toInt = v_44.toInt := (congrArg Int32.toInt (show fp_176 0 16 = v_44 from ev_44.symm)); omega) hI hF hP hS (lv_sub hl [0, 1, 2] rfl)
      · skip
        have c_48 : y4_176.toInt < 4 := (by first | exact (cm_nle0 ti_4 c) | (have z := bn_nle c; have k1 : (4 : Int32).toInt = 4 := ti_4; omega))
        refine lv_aload_n hx hb dX12_one_182 rfl (lv_at hl 0 rfl) ?_
        obtain ⟨v_50, ev_50⟩ : ∃ z : Int32, z = fp_176 0 14 := ⟨_, rfl⟩
        have q_51 : 0 ≤ v_50.toInt ∧ v_50.toInt ≤ 120 := by rw [ev_50]; exact hI 0 14
        have q_52 : (fp_176 0 14).toInt = v_50.toInt := (congrArg Int32.toInt (show fp_176 0 14 = v_50 from ev_50.symm))
        refine sg_calli (va_runV (As := []) (rest := []) ⟨hx, hb, hml, hown, hts⟩ (kX12_byteAt l D ca za h hh fp_176 L Q hI H.size) (sl_c12_byteAt_0_0_0_0_12 hts ⟨Nat.le_of_ble_eq_true rfl, Nat.le_of_ble_eq_true rfl⟩) (sl_vM_0 hA hK hP hS hZ) rfl rfl hl.1 rfl (lv_room (Nat.le_of_ble_eq_true rfl)) dX12_one_183 ⟨Nat.le_refl _, Nat.le_refl _⟩) hA hS (fun r_56 f_53 L_54 Q_55 H locs hq hP hS => ?_)
        obtain ⟨⟨ef9, eL9, eQ9⟩, hq, p_57, u_58⟩ := hq
        replace hs := hs.trans ((if_pos c_48).trans (spl_e ev_50 (spl_e u_58 rfl)))
        rw [ef9, eL9, eQ9] at hP; clear ef9 eL9 eQ9
        refine lv_bipush (v := 48) hx hb dX12_one_186 bp_48 ?_
        refine lv_icmp_lt (tgt := 229) hx hb dX12_one_188 (by decide) (fun c => ?_) (fun c => ?_)
        · skip
          have c_59 : r_56.toInt < 48 := (by first | exact (cm_lt1 ti_48 c) | (have z := bn_lt c; have k1 : (48 : Int32).toInt = 48 := ti_48; omega))
          exact blk_229 y3_176 y4_176 fp_176 _ _ _ (hs.trans ((if_pos c_59).trans rfl)) (by have zz0_15 : (fp_176 0 15).toInt = v_38.toInt := (congrArg Int32.toInt (show fp_176 0 15 = v_38 from ev_38.symm)); exact ⟨by omega, by omega⟩) hy1_176 (by have zz0_13 : (fp_176 0 13).toInt = v_41.toInt := (congrArg Int32.toInt (show fp_176 0 13 = v_41 from ev_41.symm)); omega) (by have zz0_16 : (fp_176 0 16).toInt = v_44.toInt := (congrArg Int32.toInt (show fp_176 0 16 = v_44 from ev_44.symm)); omega) (by have zz0_15 : (fp_176 0 15).toInt = v_38.toInt := (congrArg Int32.toInt (show fp_176 0 15 = v_38 from ev_38.symm)); have zz0_16 : (fp_176 0 16).toInt = v_44.toInt := (congrArg Int32.toInt (show fp_176 0 16 = v_44 from ev_44.symm)); omega) hI hF hP hS (lv_sub hl [0, 1, 2] rfl)
        · skip
          have c_60 : 48 ≤ r_56.toInt := (by first | exact (cm_nlt1 ti_48 c) | (have z := bn_nlt c; have k1 : (48 : Int32).toInt = 48 := ti_48; omega))
          replace hs := hs.trans ((if_neg (Int.not_lt.mpr c_60)).trans rfl)
          refine lv_aload_n hx hb dX12_one_191 rfl (lv_at hl 0 rfl) ?_
          refine sg_calli (va_runV (As := []) (rest := []) ⟨hx, hb, hml, hown, hts⟩ (kX12_byteAt l D ca za h hh fp_176 L Q hI H.size) (sl_c12_byteAt_0_0_0_0_12 hts ⟨Nat.le_of_ble_eq_true rfl, Nat.le_of_ble_eq_true rfl⟩) (sl_vM_0 hA hK hP hS hZ) rfl rfl hl.1 rfl (lv_room (Nat.le_of_ble_eq_true rfl)) dX12_one_192 ⟨Nat.le_refl _, Nat.le_refl _⟩) hA hS (fun r_66 f_63 L_64 Q_65 H locs hq hP hS => ?_)
          obtain ⟨⟨ef9, eL9, eQ9⟩, hq, p_67, u_68⟩ := hq
          rw [ef9, eL9, eQ9] at hP; clear ef9 eL9 eQ9
          rw [show r_66 = r_56 from u_68.trans u_58.symm]
          refine lv_bipush (v := 57) hx hb dX12_one_195 bp_57 ?_
          refine lv_icmp_gt (tgt := 229) hx hb dX12_one_197 (by decide) (fun c => ?_) (fun c => ?_)
          · skip
            have c_69 : 57 < r_56.toInt := (by first | exact (cm_lt0 ti_57 c) | (have z := bn_lt c; have k1 : (57 : Int32).toInt = 57 := ti_57; omega))
            exact blk_229 y3_176 y4_176 fp_176 _ _ _ (hs.trans ((if_pos c_69).trans rfl)) (by have zz0_15 : (fp_176 0 15).toInt = v_38.toInt := (congrArg Int32.toInt (show fp_176 0 15 = v_38 from ev_38.symm)); exact ⟨by omega, by omega⟩) hy1_176 (by have zz0_13 : (fp_176 0 13).toInt = v_41.toInt := (congrArg Int32.toInt (show fp_176 0 13 = v_41 from ev_41.symm)); omega) (by have zz0_16 : (fp_176 0 16).toInt = v_44.toInt := (congrArg Int32.toInt (show fp_176 0 16 = v_44 from ev_44.symm)); omega) (by have zz0_15 : (fp_176 0 15).toInt = v_38.toInt := (congrArg Int32.toInt (show fp_176 0 15 = v_38 from ev_38.symm)); have zz0_16 : (fp_176 0 16).toInt = v_44.toInt := (congrArg Int32.toInt (show fp_176 0 16 = v_44 from ev_44.symm)); omega) hI hF hP hS (lv_sub hl [0, 1, 2] rfl)
          · skip
            have c_70 : r_56.toInt ≤ 57 := (by first | exact (cm_nlt0 ti_57 c) | (have z := bn_nlt c; have k1 : (57 : Int32).toInt = 57 := ti_57; omega))
            refine lv_bipush (v := 10) hx hb dX12_one_200 bp_10 ?_
            refine lv_iload_n hx hb dX12_one_202 rfl (lv_at hl 1 rfl) ?_
            refine lv_imul hx hb dX12_one_203 ?_
            refine lv_topi (fun v_71 ev_71 => ?_)
            refine lv_aload_n hx hb dX12_one_204 rfl (lv_at hl 0 rfl) ?_
            refine sg_calli (va_runV (As := []) (rest := [.int v_71]) ⟨hx, hb, hml, hown, hts⟩ (kX12_byteAt l D ca za h hh fp_176 L Q hI H.size) (sl_c12_byteAt_0_0_0_0_12 hts ⟨Nat.le_of_ble_eq_true rfl, Nat.le_of_ble_eq_true rfl⟩) (sl_vM_0 hA hK hP hS hZ) rfl rfl hl.1 rfl (lv_room (Nat.le_of_ble_eq_true rfl)) dX12_one_205 ⟨Nat.le_refl _, Nat.le_refl _⟩) hA hS (fun r_77 f_74 L_75 Q_76 H locs hq hP hS => ?_)
            obtain ⟨⟨ef9, eL9, eQ9⟩, hq, p_78, u_79⟩ := hq
            rw [ef9, eL9, eQ9] at hP; clear ef9 eL9 eQ9
            rw [show r_77 = r_56 from u_79.trans u_58.symm]
            refine lv_iadd hx hb dX12_one_208 ?_
            refine lv_topi (fun v_80 ev_80 => ?_)
            refine lv_bipush (v := 48) hx hb dX12_one_209 bp_48 ?_
            refine lv_isub hx hb dX12_one_211 ?_
            refine lv_topi (fun v_81 ev_81 => ?_)
            refine lv_istore_n (lv' := [(3, .int v_81), (0, .ref (h 0)), (4, .int y4_176)]) hx hb dX12_one_212 rfl hl (by decide) rfl (fun ls hl => ?_)
            obtain ⟨v_82, ev_82⟩ : ∃ z : Int32, z = y4_176 + 1 := ⟨_, rfl⟩
            have q_83 : v_82.toInt = y4_176.toInt + 1 := by rw [ev_82]; exact (bn_addc y4_176 1 (by decide) (by omega) (by omega))
            refine lv_iinc (v := v_82) (lv' := [(4, .int v_82), (3, .int v_81), (0, .ref (h 0))]) hx hb dX12_one_213 hl (k := 2) rfl (by rw [ev_82]; rfl) (by decide) rfl (fun ls hl => ?_)
            refine lv_aload_n hx hb dX12_one_216 rfl (lv_at hl 2 rfl) ?_
            refine lv_dup hx hb dX12_one_217 rfl ?_
            refine sl_gM_0_13_12 (v := v_41) hx hb hts hown hK hP (show fp_176 0 13 = v_41 from ev_41.symm) dX12_one_218 ?_
            refine lv_iconst (v := 1) hx hb dX12_one_221 ic_1 ?_
            refine lv_iadd hx hb dX12_one_222 ?_
            refine lv_topi (fun v_84 ev_84 => ?_)
            have q_85 : v_84.toInt = v_41.toInt + 1 := by rw [ev_84]; first | exact cm_add ti_1 (by omega) (by omega) | (have k1 : (1 : Int32).toInt = 1 := ti_1; exact (bn_addI (by omega) (by omega)).trans (by omega))
            refine sl_pM_0_13_12 (x := v_84) hx hb hts hown hh hA hK hP hS dX12_one_223 (fun f_86 H locs ef_86 hP hS => ?_)
            have hI : sgI loM hiM f_86 := by rw [ef_86]; exact sgI.put hI 0 13 (show 0 ≤ (v_84 : Int32).toInt ∧ (v_84 : Int32).toInt ≤ 120 from ⟨by omega, by omega⟩)
            have hF : sgK WkX12_one_2 f f_86 := sgK.put hF ef_86 (by rfl)
            refine lv_goto (tgt := 176) hx hb dX12_one_226 (by decide) ?_
            exact ih_176 v_81 v_82 f_86 _ _ _ (hs.trans ((if_neg (Int.not_lt.mpr c_70)).trans (spl_e ev_71 (spl_e ev_80 (spl_e ev_81 (spl_e ev_82 (spl_e ev_84 (spl_e ef_86 rfl)))))))) (by omega) (by have zz0_15 : (f_86 0 15).toInt = v_38.toInt := (congrArg Int32.toInt (show f_86 0 15 = v_38 from (by rw [ef_86, sg_up_s, sgu_n (by decide)]; exact ev_38.symm))); exact ⟨by omega, by omega⟩) ⟨by omega, by omega⟩ (by have zz0_13 : (f_86 0 13).toInt = v_84.toInt := (congrArg Int32.toInt (show f_86 0 13 = v_84 from (by rw [ef_86, sg_up_s, sgu_s]))); omega) (by have zz0_16 : (f_86 0 16).toInt = v_44.toInt := (congrArg Int32.toInt (show f_86 0 16 = v_44 from (by rw [ef_86, sg_up_s, sgu_n (by decide)]; exact ev_44.symm))); omega) (by have zz0_15 : (f_86 0 15).toInt = v_38.toInt := (congrArg Int32.toInt (show f_86 0 15 = v_38 from (by rw [ef_86, sg_up_s, sgu_n (by decide)]; exact ev_38.symm))); have zz0_16 : (f_86 0 16).toInt = v_44.toInt := (congrArg Int32.toInt (show f_86 0 16 = v_44 from (by rw [ef_86, sg_up_s, sgu_n (by decide)]; exact ev_44.symm))); omega) hI hF hP hS (lv_sub hl [2, 1, 0] rfl)
  refine lv_aload_n hx hb dX12_one_0 rfl (lv_at hl 0 rfl) ?_
  refine sl_gM_0_15_12 (v := v_3) hx hb hts hown hK hP (show f 0 15 = v_3 from ev_3.symm) dX12_one_1 ?_
  refine lv_if_lt (tgt := 9) hx hb dX12_one_4 (by decide) (fun c => ?_) (fun c => ?_)
  · skip
    have c_87 : v_3.toInt < 0 := (by first | exact (cm_lt1 ti_0 c) | (have z := bn_lt c; have k1 : (0 : Int32).toInt = 0 := ti_0; omega))
    refine lv_aload_n hx hb dX12_one_9 rfl (lv_at hl 0 rfl) ?_
    have q_89 : (f 0 13).toInt = v_5.toInt := (congrArg Int32.toInt (show f 0 13 = v_5 from ev_5.symm))
    obtain ⟨v_90, ev_90⟩ : ∃ z : Int32, z = f 0 14 := ⟨_, rfl⟩
    have q_91 : 0 ≤ v_90.toInt ∧ v_90.toInt ≤ 120 := by rw [ev_90]; exact hI 0 14
    have q_92 : (f 0 14).toInt = v_90.toInt := (congrArg Int32.toInt (show f 0 14 = v_90 from ev_90.symm))
    refine sg_calli (va_runV (As := []) (rest := []) ⟨hx, hb, hml, hown, hts⟩ (kX12_byteAt l D ca za h hh f L Q hI H.size) (sl_c12_byteAt_0_0_0_0_12 hts ⟨Nat.le_of_ble_eq_true rfl, Nat.le_of_ble_eq_true rfl⟩) (sl_vM_0 hA hK hP hS hZ) rfl rfl hl.1 rfl (lv_room (Nat.le_of_ble_eq_true rfl)) dX12_one_10 ⟨Nat.le_refl _, Nat.le_refl _⟩) hA hS (fun r_96 f_93 L_94 Q_95 H locs hq hP hS => ?_)
    obtain ⟨⟨ef9, eL9, eQ9⟩, hq, p_97, u_98⟩ := hq
    replace hs := hs.trans ((if_pos c_87).trans (spl_e ev_90 (spl_e u_98 rfl)))
    rw [ef9, eL9, eQ9] at hP; clear ef9 eL9 eQ9
    refine lv_istore_n (lv' := [(1, .int r_96), (0, .ref (h 0))]) hx hb dX12_one_13 rfl hl (by decide) rfl (fun ls hl => ?_)
    refine lv_iload_n hx hb dX12_one_14 rfl (lv_at hl 0 rfl) ?_
    refine lv_bipush (v := 33) hx hb dX12_one_15 bp_33 ?_
    refine lv_icmp_eq (tgt := 32) hx hb dX12_one_17 (by decide) (fun c => ?_) (fun c => ?_)
    · skip
      have c_99 : r_96.toInt = 33 := (by first | exact (cm_eq1 ti_33 c) | (have z := Int32.toInt_inj.mpr c; have k1 : (33 : Int32).toInt = 33 := ti_33; omega))
      refine lv_aload_n hx hb dX12_one_32 rfl (lv_at hl 1 rfl) ?_
      have c_101 : v_1 = 2 := Int32.toInt_inj.mp (by have k9 : (2 : Int32).toInt = 2 := ti_2; omega)
      refine sl_gM_0_16_12 (v := 2) hx hb hts hown hK hP (show f 0 16 = 2 from (Eq.trans ev_1.symm c_101)) dX12_one_33 ?_
      refine lv_bipush (v := 6) hx hb dX12_one_36 bp_6 ?_
      refine lv_icmp_ne (tgt := 46) hx hb dX12_one_38 (by decide) (fun c => ?_) (fun c => absurd c (by decide))
      refine lv_aload_n hx hb dX12_one_46 rfl (lv_at hl 1 rfl) ?_
      refine lv_dup hx hb dX12_one_47 rfl ?_
      refine sl_gM_0_16_12 (v := 2) hx hb hts hown hK hP (show f 0 16 = 2 from (Eq.trans ev_1.symm c_101)) dX12_one_48 ?_
      refine lv_iconst (v := 1) hx hb dX12_one_51 ic_1 ?_
      refine lv_iadd hx hb dX12_one_52 ?_
      refine W.eq (g2 := F0 m 53 ls [.int 3, .ref (h 0)]) (by rw [show (2 + 1 : Int32) = 3 from by decide]) ?_
      refine sl_pM_0_16_12 (x := 3) hx hb hts hown hh hA hK hP hS dX12_one_53 (fun f_102 H locs ef_102 hP hS => ?_)
      have hI : sgI loM hiM f_102 := by rw [ef_102]; exact sgI.put hI 0 16 (show 0 ≤ (3 : Int32).toInt ∧ (3 : Int32).toInt ≤ 6 from by decide)
      have hF : sgK WkX12_one_2 f f_102 := sgK.put hF ef_102 (by rfl)
      refine lv_aload_n hx hb dX12_one_56 rfl (lv_at hl 1 rfl) ?_
      refine lv_dup hx hb dX12_one_57 rfl ?_
      refine sl_gM_0_13_12 (v := v_5) hx hb hts hown hK hP (show f_102 0 13 = v_5 from (by rw [ef_102, sg_up_s, sgu_n (by decide)]; exact ev_5.symm)) dX12_one_58 ?_
      refine lv_iconst (v := 1) hx hb dX12_one_61 ic_1 ?_
      refine lv_iadd hx hb dX12_one_62 ?_
      refine lv_topi (fun v_103 ev_103 => ?_)
      have q_104 : v_103.toInt = v_5.toInt + 1 := by rw [ev_103]; first | exact cm_add ti_1 (by omega) (by omega) | (have k1 : (1 : Int32).toInt = 1 := ti_1; exact (bn_addI (by omega) (by omega)).trans (by omega))
      refine sl_pM_0_13_12 (x := v_103) hx hb hts hown hh hA hK hP hS dX12_one_63 (fun f_105 H locs ef_105 hP hS => ?_)
      have hI : sgI loM hiM f_105 := by rw [ef_105]; exact sgI.put hI 0 13 (show 0 ≤ (v_103 : Int32).toInt ∧ (v_103 : Int32).toInt ≤ 120 from ⟨by omega, by omega⟩)
      have hF : sgK WkX12_one_2 f f_105 := sgK.put hF ef_105 (by rfl)
      refine lv_iload_n hx hb dX12_one_66 rfl (lv_at hl 0 rfl) ?_
      refine lv_bipush (v := 40) hx hb dX12_one_67 bp_40 ?_
      refine lv_icmp_ne (tgt := 79) hx hb dX12_one_69 (by decide) (fun c => ?_) (fun c => ?_)
      · skip
        have c_106 : r_96.toInt ≠ 40 := (by first | exact (cm_ne1 ti_40 c) | (have z := bn_ne c; have k1 : (40 : Int32).toInt = 40 := ti_40; omega))
        refine lv_aload_n hx hb dX12_one_79 rfl (lv_at hl 1 rfl) ?_
        have q_108 : (f_105 0 16).toInt = 3 := (congrArg Int32.toInt (show f_105 0 16 = 3 from (by rw [ef_105, sg_up_s, sgu_n (by decide)]; exact (by rw [ef_102, sg_up_s, sgu_s])))).trans (by decide)
        have q_109 : (f_105 0 15).toInt = v_3.toInt := (congrArg Int32.toInt (show f_105 0 15 = v_3 from (by rw [ef_105, sg_up_s, sgu_n (by decide)]; exact (by rw [ef_102, sg_up_s, sgu_n (by decide)]; exact ev_3.symm))))
        have q_111 : (f_105 0 13).toInt = v_103.toInt := (congrArg Int32.toInt (show f_105 0 13 = v_103 from (by rw [ef_105, sg_up_s, sgu_s])))
        refine sg_calli (va_runV (As := []) (rest := []) ⟨hx, hb, hml, hown, hts⟩ (kX12_one_3 l D ca za h hh f_105 L Q hI (by omega) (by omega) H.size) (sl_c12_one_19_0_0_431_12 hts ⟨Nat.le_of_ble_eq_true rfl, Nat.le_of_ble_eq_true rfl⟩) (sl_vM_0 hA hK hP hS hZ) rfl rfl hl.1 rfl (lv_room (Nat.le_of_ble_eq_true rfl)) dX12_one_80 ⟨Nat.le_refl _, Nat.le_refl _⟩) hA hS (fun r_115 f_112 L_113 Q_114 H locs hq hP hS => ?_)
        obtain ⟨⟨hI, hk_f_112, eL9, eQ9⟩, hq, p_116, p_117, p_118, u_119⟩ := hq
        rw [eL9, eQ9] at hP; clear eL9 eQ9
        have hF : sgK WkX12_one_2 f f_112 := sgK.tr hF hk_f_112 (by decide +kernel)
        obtain ⟨v_120, ev_120⟩ : ∃ z : Int32, z = f_112 0 13 := ⟨_, rfl⟩
        have q_121 : 0 ≤ v_120.toInt ∧ v_120.toInt ≤ 120 := by rw [ev_120]; exact hI 0 13
        have q_122 : (f_112 0 13).toInt = v_120.toInt := (congrArg Int32.toInt (show f_112 0 13 = v_120 from ev_120.symm))
        obtain ⟨v_123, ev_123⟩ : ∃ z : Int32, z = f_112 0 16 := ⟨_, rfl⟩
        have q_124 : 0 ≤ v_123.toInt ∧ v_123.toInt ≤ 6 := by rw [ev_123]; exact hI 0 16
        have q_125 : (f_112 0 16).toInt = v_123.toInt := (congrArg Int32.toInt (show f_112 0 16 = v_123 from ev_123.symm))
        obtain ⟨v_126, ev_126⟩ : ∃ z : Int32, z = f_112 0 15 := ⟨_, rfl⟩
        have q_127 : (-1) ≤ v_126.toInt ∧ v_126.toInt ≤ 120 := by rw [ev_126]; exact hI 0 15
        have q_128 : (f_112 0 15).toInt = v_126.toInt := (congrArg Int32.toInt (show f_112 0 15 = v_126 from ev_126.symm))
        refine lv_istore_n (lv' := [(2, .int r_115), (1, .int r_96), (0, .ref (h 0))]) hx hb dX12_one_83 rfl hl (by decide) rfl (fun ls hl => ?_)
        refine lv_iload_n hx hb dX12_one_84 rfl (lv_at hl 1 rfl) ?_
        refine lv_bipush (v := 40) hx hb dX12_one_85 bp_40 ?_
        refine lv_icmp_ne (tgt := 104) hx hb dX12_one_87 (by decide) (fun c => ?_) (fun c => ?_)
        · skip
          have c_130 : r_96.toInt ≠ 40 := (by first | exact (cm_ne1 ti_40 c) | (have z := bn_ne c; have k1 : (40 : Int32).toInt = 40 := ti_40; omega))
          refine lv_aload_n hx hb dX12_one_104 rfl (lv_at hl 2 rfl) ?_
          refine lv_dup hx hb dX12_one_105 rfl ?_
          refine sl_gM_0_16_12 (v := v_123) hx hb hts hown hK hP (show f_112 0 16 = v_123 from ev_123.symm) dX12_one_106 ?_
          refine lv_iconst (v := 1) hx hb dX12_one_109 ic_1 ?_
          refine lv_isub hx hb dX12_one_110 ?_
          refine lv_topi (fun v_132 ev_132 => ?_)
          have q_133 : v_132.toInt = v_123.toInt - 1 := by rw [ev_132]; first | exact cm_sub ti_1 (by omega) (by omega) | (have k1 : (1 : Int32).toInt = 1 := ti_1; exact (bn_subI (by omega) (by omega)).trans (by omega))
          refine sl_pM_0_16_12 (x := v_132) hx hb hts hown hh hA hK hP hS dX12_one_111 (fun f_134 H locs ef_134 hP hS => ?_)
          replace hs := hs.trans ((if_pos c_99).trans (spl_e ef_102 (spl_e ev_103 (spl_e ef_105 (spl2_e u_119 (spl_e ev_120 (spl_e ev_123 (spl_e ev_126 (spl_e ev_132 (spl_e ef_134 rfl))))))))))
          have hI : sgI loM hiM f_134 := by rw [ef_134]; exact sgI.put hI 0 16 (show 0 ≤ (v_132 : Int32).toInt ∧ (v_132 : Int32).toInt ≤ 6 from ⟨by omega, by omega⟩)
          have hF : sgK WkX12_one_2 f f_134 := sgK.put hF ef_134 (by rfl)
          refine lv_iload_n hx hb dX12_one_114 rfl (lv_at hl 1 rfl) ?_
          refine lv_bipush (v := 40) hx hb dX12_one_115 bp_40 ?_
          refine lv_icmp_ne (tgt := 124) hx hb dX12_one_117 (by decide) (fun c => ?_) (fun c => ?_)
          · skip
            have c_135 : r_96.toInt ≠ 40 := (by first | exact (cm_ne1 ti_40 c) | (have z := bn_ne c; have k1 : (40 : Int32).toInt = 40 := ti_40; omega))
            refine lv_iload_n hx hb dX12_one_124 rfl (lv_at hl 1 rfl) ?_
            refine lv_bipush (v := 45) hx hb dX12_one_125 bp_45 ?_
            refine lv_icmp_ne (tgt := 135) hx hb dX12_one_127 (by decide) (fun c => ?_) (fun c => ?_)
            · skip
              have c_137 : r_96.toInt ≠ 45 := (by first | exact (cm_ne1 ti_45 c) | (have z := bn_ne c; have k1 : (45 : Int32).toInt = 45 := ti_45; omega))
              refine lv_iload_n hx hb dX12_one_135 rfl (lv_at hl 0 rfl) ?_
              refine lv_if_ne (tgt := 143) hx hb dX12_one_136 (by decide) (fun c => ?_) (fun c => ?_)
              · skip
                have c_139 : r_115.toInt ≠ 0 := (by first | exact (cm_ne1 ti_0 c) | (have z := bn_ne c; have k1 : (0 : Int32).toInt = 0 := ti_0; omega))
                refine lv_iconst (v := 0) hx hb dX12_one_143 ic_0 ?_
                have q_141 : (f_134 0 13).toInt = v_120.toInt := (congrArg Int32.toInt (show f_134 0 13 = v_120 from (by rw [ef_134, sg_up_s, sgu_n (by decide)]; exact ev_120.symm)))
                have q_142 : (f_134 0 16).toInt = v_132.toInt := (congrArg Int32.toInt (show f_134 0 16 = v_132 from (by rw [ef_134, sg_up_s, sgu_s])))
                have q_143 : (f_134 0 15).toInt = v_126.toInt := (congrArg Int32.toInt (show f_134 0 15 = v_126 from (by rw [ef_134, sg_up_s, sgu_n (by decide)]; exact ev_126.symm)))
                have k99 : (0 : Int32).toInt = 0 := ti_0
                exact hret _ _ _ _ (0) f_134 L Q dX12_one_144 hP hS ⟨⟨hI, hF, rfl, rfl⟩, trivial, (by omega), (by omega), (by omega), (Eq.trans (Eq.symm (hs.trans ((if_neg c_139).trans rfl))) hsp)⟩
              · skip
                have c_140 : r_115.toInt = 0 := (by first | exact (cm_eq1 ti_0 c) | (have z := Int32.toInt_inj.mpr c; have k1 : (0 : Int32).toInt = 0 := ti_0; omega))
                refine lv_iconst (v := 1) hx hb dX12_one_139 ic_1 ?_
                refine lv_goto (tgt := 144) hx hb dX12_one_140 (by decide) ?_
                have q_145 : (f_134 0 13).toInt = v_120.toInt := (congrArg Int32.toInt (show f_134 0 13 = v_120 from (by rw [ef_134, sg_up_s, sgu_n (by decide)]; exact ev_120.symm)))
                have q_146 : (f_134 0 16).toInt = v_132.toInt := (congrArg Int32.toInt (show f_134 0 16 = v_132 from (by rw [ef_134, sg_up_s, sgu_s])))
                have q_147 : (f_134 0 15).toInt = v_126.toInt := (congrArg Int32.toInt (show f_134 0 15 = v_126 from (by rw [ef_134, sg_up_s, sgu_n (by decide)]; exact ev_126.symm)))
                have k99 : (1 : Int32).toInt = 1 := ti_1
                exact hret _ _ _ _ (1) f_134 L Q dX12_one_144 hP hS ⟨⟨hI, hF, rfl, rfl⟩, trivial, (by omega), (by omega), (by omega), (Eq.trans (Eq.symm (hs.trans ((if_pos c_140).trans rfl))) hsp)⟩
            · skip
              exfalso; have c_138 : r_96.toInt = 45 := (by first | exact (cm_eq1 ti_45 c) | (have z := Int32.toInt_inj.mpr c; have k1 : (45 : Int32).toInt = 45 := ti_45; omega)); first | exact absurd c_138 (by assumption) | omega
          · skip
            exfalso; have c_136 : r_96.toInt = 40 := (by first | exact (cm_eq1 ti_40 c) | (have z := Int32.toInt_inj.mpr c; have k1 : (40 : Int32).toInt = 40 := ti_40; omega)); first | exact absurd c_136 (by assumption) | omega
        · skip
          exfalso; have c_131 : r_96.toInt = 40 := (by first | exact (cm_eq1 ti_40 c) | (have z := Int32.toInt_inj.mpr c; have k1 : (40 : Int32).toInt = 40 := ti_40; omega)); first | exact absurd c_131 (by assumption) | omega
      · skip
        exfalso; have c_107 : r_96.toInt = 40 := (by first | exact (cm_eq1 ti_40 c) | (have z := Int32.toInt_inj.mpr c; have k1 : (40 : Int32).toInt = 40 := ti_40; omega)); first | exact absurd c_107 (by assumption) | omega
    · skip
      have c_100 : r_96.toInt ≠ 33 := (by first | exact (cm_ne1 ti_33 c) | (have z := bn_ne c; have k1 : (33 : Int32).toInt = 33 := ti_33; omega))
      replace hs := hs.trans ((if_neg c_100).trans rfl)
      refine lv_iload_n hx hb dX12_one_20 rfl (lv_at hl 0 rfl) ?_
      refine lv_bipush (v := 45) hx hb dX12_one_21 bp_45 ?_
      refine lv_icmp_eq (tgt := 32) hx hb dX12_one_23 (by decide) (fun c => ?_) (fun c => ?_)
      · skip
        have c_149 : r_96.toInt = 45 := (by first | exact (cm_eq1 ti_45 c) | (have z := Int32.toInt_inj.mpr c; have k1 : (45 : Int32).toInt = 45 := ti_45; omega))
        refine lv_aload_n hx hb dX12_one_32 rfl (lv_at hl 1 rfl) ?_
        have c_151 : v_1 = 2 := Int32.toInt_inj.mp (by have k9 : (2 : Int32).toInt = 2 := ti_2; omega)
        refine sl_gM_0_16_12 (v := 2) hx hb hts hown hK hP (show f 0 16 = 2 from (Eq.trans ev_1.symm c_151)) dX12_one_33 ?_
        refine lv_bipush (v := 6) hx hb dX12_one_36 bp_6 ?_
        refine lv_icmp_ne (tgt := 46) hx hb dX12_one_38 (by decide) (fun c => ?_) (fun c => absurd c (by decide))
        refine lv_aload_n hx hb dX12_one_46 rfl (lv_at hl 1 rfl) ?_
        refine lv_dup hx hb dX12_one_47 rfl ?_
        refine sl_gM_0_16_12 (v := 2) hx hb hts hown hK hP (show f 0 16 = 2 from (Eq.trans ev_1.symm c_151)) dX12_one_48 ?_
        refine lv_iconst (v := 1) hx hb dX12_one_51 ic_1 ?_
        refine lv_iadd hx hb dX12_one_52 ?_
        refine W.eq (g2 := F0 m 53 ls [.int 3, .ref (h 0)]) (by rw [show (2 + 1 : Int32) = 3 from by decide]) ?_
        refine sl_pM_0_16_12 (x := 3) hx hb hts hown hh hA hK hP hS dX12_one_53 (fun f_152 H locs ef_152 hP hS => ?_)
        have hI : sgI loM hiM f_152 := by rw [ef_152]; exact sgI.put hI 0 16 (show 0 ≤ (3 : Int32).toInt ∧ (3 : Int32).toInt ≤ 6 from by decide)
        have hF : sgK WkX12_one_2 f f_152 := sgK.put hF ef_152 (by rfl)
        refine lv_aload_n hx hb dX12_one_56 rfl (lv_at hl 1 rfl) ?_
        refine lv_dup hx hb dX12_one_57 rfl ?_
        refine sl_gM_0_13_12 (v := v_5) hx hb hts hown hK hP (show f_152 0 13 = v_5 from (by rw [ef_152, sg_up_s, sgu_n (by decide)]; exact ev_5.symm)) dX12_one_58 ?_
        refine lv_iconst (v := 1) hx hb dX12_one_61 ic_1 ?_
        refine lv_iadd hx hb dX12_one_62 ?_
        refine lv_topi (fun v_153 ev_153 => ?_)
        have q_154 : v_153.toInt = v_5.toInt + 1 := by rw [ev_153]; first | exact cm_add ti_1 (by omega) (by omega) | (have k1 : (1 : Int32).toInt = 1 := ti_1; exact (bn_addI (by omega) (by omega)).trans (by omega))
        refine sl_pM_0_13_12 (x := v_153) hx hb hts hown hh hA hK hP hS dX12_one_63 (fun f_155 H locs ef_155 hP hS => ?_)
        have hI : sgI loM hiM f_155 := by rw [ef_155]; exact sgI.put hI 0 13 (show 0 ≤ (v_153 : Int32).toInt ∧ (v_153 : Int32).toInt ≤ 120 from ⟨by omega, by omega⟩)
        have hF : sgK WkX12_one_2 f f_155 := sgK.put hF ef_155 (by rfl)
        refine lv_iload_n hx hb dX12_one_66 rfl (lv_at hl 0 rfl) ?_
        refine lv_bipush (v := 40) hx hb dX12_one_67 bp_40 ?_
        refine lv_icmp_ne (tgt := 79) hx hb dX12_one_69 (by decide) (fun c => ?_) (fun c => ?_)
        · skip
          have c_156 : r_96.toInt ≠ 40 := (by first | exact (cm_ne1 ti_40 c) | (have z := bn_ne c; have k1 : (40 : Int32).toInt = 40 := ti_40; omega))
          refine lv_aload_n hx hb dX12_one_79 rfl (lv_at hl 1 rfl) ?_
          have q_158 : (f_155 0 16).toInt = 3 := (congrArg Int32.toInt (show f_155 0 16 = 3 from (by rw [ef_155, sg_up_s, sgu_n (by decide)]; exact (by rw [ef_152, sg_up_s, sgu_s])))).trans (by decide)
          have q_159 : (f_155 0 15).toInt = v_3.toInt := (congrArg Int32.toInt (show f_155 0 15 = v_3 from (by rw [ef_155, sg_up_s, sgu_n (by decide)]; exact (by rw [ef_152, sg_up_s, sgu_n (by decide)]; exact ev_3.symm))))
          have q_161 : (f_155 0 13).toInt = v_153.toInt := (congrArg Int32.toInt (show f_155 0 13 = v_153 from (by rw [ef_155, sg_up_s, sgu_s])))
          refine sg_calli (va_runV (As := []) (rest := []) ⟨hx, hb, hml, hown, hts⟩ (kX12_one_3 l D ca za h hh f_155 L Q hI (by omega) (by omega) H.size) (sl_c12_one_19_0_0_431_12 hts ⟨Nat.le_of_ble_eq_true rfl, Nat.le_of_ble_eq_true rfl⟩) (sl_vM_0 hA hK hP hS hZ) rfl rfl hl.1 rfl (lv_room (Nat.le_of_ble_eq_true rfl)) dX12_one_80 ⟨Nat.le_refl _, Nat.le_refl _⟩) hA hS (fun r_165 f_162 L_163 Q_164 H locs hq hP hS => ?_)
          obtain ⟨⟨hI, hk_f_162, eL9, eQ9⟩, hq, p_166, p_167, p_168, u_169⟩ := hq
          rw [eL9, eQ9] at hP; clear eL9 eQ9
          have hF : sgK WkX12_one_2 f f_162 := sgK.tr hF hk_f_162 (by decide +kernel)
          obtain ⟨v_170, ev_170⟩ : ∃ z : Int32, z = f_162 0 13 := ⟨_, rfl⟩
          have q_171 : 0 ≤ v_170.toInt ∧ v_170.toInt ≤ 120 := by rw [ev_170]; exact hI 0 13
          have q_172 : (f_162 0 13).toInt = v_170.toInt := (congrArg Int32.toInt (show f_162 0 13 = v_170 from ev_170.symm))
          obtain ⟨v_173, ev_173⟩ : ∃ z : Int32, z = f_162 0 16 := ⟨_, rfl⟩
          have q_174 : 0 ≤ v_173.toInt ∧ v_173.toInt ≤ 6 := by rw [ev_173]; exact hI 0 16
          have q_175 : (f_162 0 16).toInt = v_173.toInt := (congrArg Int32.toInt (show f_162 0 16 = v_173 from ev_173.symm))
          obtain ⟨v_176, ev_176⟩ : ∃ z : Int32, z = f_162 0 15 := ⟨_, rfl⟩
          have q_177 : (-1) ≤ v_176.toInt ∧ v_176.toInt ≤ 120 := by rw [ev_176]; exact hI 0 15
          have q_178 : (f_162 0 15).toInt = v_176.toInt := (congrArg Int32.toInt (show f_162 0 15 = v_176 from ev_176.symm))
          refine lv_istore_n (lv' := [(2, .int r_165), (1, .int r_96), (0, .ref (h 0))]) hx hb dX12_one_83 rfl hl (by decide) rfl (fun ls hl => ?_)
          refine lv_iload_n hx hb dX12_one_84 rfl (lv_at hl 1 rfl) ?_
          refine lv_bipush (v := 40) hx hb dX12_one_85 bp_40 ?_
          refine lv_icmp_ne (tgt := 104) hx hb dX12_one_87 (by decide) (fun c => ?_) (fun c => ?_)
          · skip
            have c_180 : r_96.toInt ≠ 40 := (by first | exact (cm_ne1 ti_40 c) | (have z := bn_ne c; have k1 : (40 : Int32).toInt = 40 := ti_40; omega))
            refine lv_aload_n hx hb dX12_one_104 rfl (lv_at hl 2 rfl) ?_
            refine lv_dup hx hb dX12_one_105 rfl ?_
            refine sl_gM_0_16_12 (v := v_173) hx hb hts hown hK hP (show f_162 0 16 = v_173 from ev_173.symm) dX12_one_106 ?_
            refine lv_iconst (v := 1) hx hb dX12_one_109 ic_1 ?_
            refine lv_isub hx hb dX12_one_110 ?_
            refine lv_topi (fun v_182 ev_182 => ?_)
            have q_183 : v_182.toInt = v_173.toInt - 1 := by rw [ev_182]; first | exact cm_sub ti_1 (by omega) (by omega) | (have k1 : (1 : Int32).toInt = 1 := ti_1; exact (bn_subI (by omega) (by omega)).trans (by omega))
            refine sl_pM_0_16_12 (x := v_182) hx hb hts hown hh hA hK hP hS dX12_one_111 (fun f_184 H locs ef_184 hP hS => ?_)
            have hI : sgI loM hiM f_184 := by rw [ef_184]; exact sgI.put hI 0 16 (show 0 ≤ (v_182 : Int32).toInt ∧ (v_182 : Int32).toInt ≤ 6 from ⟨by omega, by omega⟩)
            have hF : sgK WkX12_one_2 f f_184 := sgK.put hF ef_184 (by rfl)
            refine lv_iload_n hx hb dX12_one_114 rfl (lv_at hl 1 rfl) ?_
            refine lv_bipush (v := 40) hx hb dX12_one_115 bp_40 ?_
            refine lv_icmp_ne (tgt := 124) hx hb dX12_one_117 (by decide) (fun c => ?_) (fun c => ?_)
            · skip
              have c_185 : r_96.toInt ≠ 40 := (by first | exact (cm_ne1 ti_40 c) | (have z := bn_ne c; have k1 : (40 : Int32).toInt = 40 := ti_40; omega))
              refine lv_iload_n hx hb dX12_one_124 rfl (lv_at hl 1 rfl) ?_
              refine lv_bipush (v := 45) hx hb dX12_one_125 bp_45 ?_
              refine lv_icmp_ne (tgt := 135) hx hb dX12_one_127 (by decide) (fun c => ?_) (fun c => ?_)
              · skip
                exfalso; have c_187 : r_96.toInt ≠ 45 := (by first | exact (cm_ne1 ti_45 c) | (have z := bn_ne c; have k1 : (45 : Int32).toInt = 45 := ti_45; omega)); first | exact absurd (by assumption) c_187 | omega
              · skip
                have c_188 : r_96.toInt = 45 := (by first | exact (cm_eq1 ti_45 c) | (have z := Int32.toInt_inj.mpr c; have k1 : (45 : Int32).toInt = 45 := ti_45; omega))
                refine lv_iload_n hx hb dX12_one_130 rfl (lv_at hl 0 rfl) ?_
                refine lv_ineg hx hb dX12_one_131 ?_
                refine lv_topi (fun v_189 ev_189 => ?_)
                refine lv_goto (tgt := 144) hx hb dX12_one_132 (by decide) ?_
                have q_190 : (f_184 0 13).toInt = v_170.toInt := (congrArg Int32.toInt (show f_184 0 13 = v_170 from (by rw [ef_184, sg_up_s, sgu_n (by decide)]; exact ev_170.symm)))
                have q_191 : (f_184 0 16).toInt = v_182.toInt := (congrArg Int32.toInt (show f_184 0 16 = v_182 from (by rw [ef_184, sg_up_s, sgu_s])))
                have q_192 : (f_184 0 15).toInt = v_176.toInt := (congrArg Int32.toInt (show f_184 0 15 = v_176 from (by rw [ef_184, sg_up_s, sgu_n (by decide)]; exact ev_176.symm)))
                exact hret _ _ _ _ (v_189) f_184 L Q dX12_one_144 hP hS ⟨⟨hI, hF, rfl, rfl⟩, trivial, (by omega), (by omega), (by omega), (Eq.trans (Eq.symm (hs.trans ((if_pos c_149).trans (spl_e ef_152 (spl_e ev_153 (spl_e ef_155 (spl2_e u_169 (spl_e ev_170 (spl_e ev_173 (spl_e ev_176 (spl_e ev_182 (spl_e ef_184 (spl_e ev_189 rfl))))))))))))) hsp)⟩
            · skip
              exfalso; have c_186 : r_96.toInt = 40 := (by first | exact (cm_eq1 ti_40 c) | (have z := Int32.toInt_inj.mpr c; have k1 : (40 : Int32).toInt = 40 := ti_40; omega)); first | exact absurd c_186 (by assumption) | omega
          · skip
            exfalso; have c_181 : r_96.toInt = 40 := (by first | exact (cm_eq1 ti_40 c) | (have z := Int32.toInt_inj.mpr c; have k1 : (40 : Int32).toInt = 40 := ti_40; omega)); first | exact absurd c_181 (by assumption) | omega
        · skip
          exfalso; have c_157 : r_96.toInt = 40 := (by first | exact (cm_eq1 ti_40 c) | (have z := Int32.toInt_inj.mpr c; have k1 : (40 : Int32).toInt = 40 := ti_40; omega)); first | exact absurd c_157 (by assumption) | omega
      · skip
        have c_150 : r_96.toInt ≠ 45 := (by first | exact (cm_ne1 ti_45 c) | (have z := bn_ne c; have k1 : (45 : Int32).toInt = 45 := ti_45; omega))
        replace hs := hs.trans ((if_neg c_150).trans rfl)
        refine lv_iload_n hx hb dX12_one_26 rfl (lv_at hl 0 rfl) ?_
        refine lv_bipush (v := 40) hx hb dX12_one_27 bp_40 ?_
        refine lv_icmp_ne (tgt := 145) hx hb dX12_one_29 (by decide) (fun c => ?_) (fun c => ?_)
        · skip
          have c_194 : r_96.toInt ≠ 40 := (by first | exact (cm_ne1 ti_40 c) | (have z := bn_ne c; have k1 : (40 : Int32).toInt = 40 := ti_40; omega))
          refine lv_iload_n hx hb dX12_one_145 rfl (lv_at hl 0 rfl) ?_
          refine sg_calli (va_runS (As := [.int r_96]) (rest := []) ⟨hx, hb, hml, hown, hts⟩ (kX12_nameOf l D ca za h hh f L Q hI r_96 ⟨by omega, by omega⟩ H.size) (va_cwS 1 hts (gw_S (fun _ h => List.mem_cons_of_mem _ h) mw_869 mw_870 mw_619 mw_868) rfl rfl rfl hd_yX12_nameOf.2 ⟨Nat.le_of_ble_eq_true rfl, Nat.le_of_ble_eq_true rfl⟩) (sg_preS hA hK hP hS hZ) rfl rfl hl.1 rfl (lv_room (Nat.le_of_ble_eq_true rfl)) dX12_one_146 ⟨Nat.le_refl _, Nat.le_refl _⟩) hA hS (fun r_199 f_196 L_197 Q_198 H locs hq hP hS => ?_)
          obtain ⟨⟨ef9, eL9, eQ9⟩, hq, p_200, u_201⟩ := hq
          replace hs := hs.trans ((if_neg c_194).trans (spl_e u_201 rfl))
          rw [ef9, eL9, eQ9] at hP; clear ef9 eL9 eQ9
          refine lv_istore_n (lv' := [(2, .int r_199), (1, .int r_96), (0, .ref (h 0))]) hx hb dX12_one_149 rfl hl (by decide) rfl (fun ls hl => ?_)
          refine lv_iload_n hx hb dX12_one_150 rfl (lv_at hl 0 rfl) ?_
          refine lv_if_lt (tgt := 171) hx hb dX12_one_151 (by decide) (fun c => ?_) (fun c => ?_)
          · skip
            have c_202 : r_199.toInt < 0 := (by first | exact (cm_lt1 ti_0 c) | (have z := bn_lt c; have k1 : (0 : Int32).toInt = 0 := ti_0; omega))
            refine lv_iconst (v := 0) hx hb dX12_one_171 ic_0 ?_
            refine lv_istore_n (lv' := [(3, .int 0), (2, .int r_199), (1, .int r_96), (0, .ref (h 0))]) hx hb dX12_one_172 rfl hl (by decide) rfl (fun ls hl => ?_)
            refine lv_iconst (v := 0) hx hb dX12_one_173 ic_0 ?_
            refine lv_istore (lv' := [(4, .int 0), (3, .int 0), (2, .int r_199), (1, .int r_96), (0, .ref (h 0))]) hx hb dX12_one_174 hl (by decide) rfl (fun ls hl => ?_)
            exact loop_176 5 0 0 f _ _ _ (hs.trans ((if_pos c_202).trans rfl)) (by have kc0 : (0 : Int32).toInt = 0 := ti_0; have kc1 : (0 : Int32).toInt = 0 := ti_0; omega) (by have zz0_15 : (f 0 15).toInt = v_3.toInt := (congrArg Int32.toInt (show f 0 15 = v_3 from ev_3.symm)); exact ⟨by omega, by omega⟩) (by decide) (by have kc0 : (0 : Int32).toInt = 0 := ti_0; have kc1 : (0 : Int32).toInt = 0 := ti_0; have zz0_13 : (f 0 13).toInt = v_5.toInt := (congrArg Int32.toInt (show f 0 13 = v_5 from ev_5.symm)); omega) (by have kc0 : (0 : Int32).toInt = 0 := ti_0; have kc1 : (0 : Int32).toInt = 0 := ti_0; have zz0_16 : (f 0 16).toInt = v_1.toInt := (congrArg Int32.toInt (show f 0 16 = v_1 from ev_1.symm)); omega) (by have kc0 : (0 : Int32).toInt = 0 := ti_0; have kc1 : (0 : Int32).toInt = 0 := ti_0; have zz0_15 : (f 0 15).toInt = v_3.toInt := (congrArg Int32.toInt (show f 0 15 = v_3 from ev_3.symm)); have zz0_16 : (f 0 16).toInt = v_1.toInt := (congrArg Int32.toInt (show f 0 16 = v_1 from ev_1.symm)); omega) hI hF hP hS (lv_sub hl [4, 1, 0] rfl)
          · skip
            have c_203 : 0 ≤ r_199.toInt := (by first | exact (cm_nlt1 ti_0 c) | (have z := bn_nlt c; have k1 : (0 : Int32).toInt = 0 := ti_0; omega))
            refine lv_aload_n hx hb dX12_one_154 rfl (lv_at hl 2 rfl) ?_
            refine lv_dup hx hb dX12_one_155 rfl ?_
            refine sl_gM_0_13_12 (v := v_5) hx hb hts hown hK hP (show f 0 13 = v_5 from ev_5.symm) dX12_one_156 ?_
            refine lv_iconst (v := 1) hx hb dX12_one_159 ic_1 ?_
            refine lv_iadd hx hb dX12_one_160 ?_
            refine lv_topi (fun v_204 ev_204 => ?_)
            have q_205 : v_204.toInt = v_5.toInt + 1 := by rw [ev_204]; first | exact cm_add ti_1 (by omega) (by omega) | (have k1 : (1 : Int32).toInt = 1 := ti_1; exact (bn_addI (by omega) (by omega)).trans (by omega))
            refine sl_pM_0_13_12 (x := v_204) hx hb hts hown hh hA hK hP hS dX12_one_161 (fun f_206 H locs ef_206 hP hS => ?_)
            have hI : sgI loM hiM f_206 := by rw [ef_206]; exact sgI.put hI 0 13 (show 0 ≤ (v_204 : Int32).toInt ∧ (v_204 : Int32).toInt ≤ 120 from ⟨by omega, by omega⟩)
            have hF : sgK WkX12_one_2 f f_206 := sgK.put hF ef_206 (by rfl)
            refine lv_aload_n hx hb dX12_one_164 rfl (lv_at hl 2 rfl) ?_
            refine sl_gM_0_17_12 hx hb hts hown hK hP dX12_one_165 ?_
            refine lv_iload_n hx hb dX12_one_168 rfl (lv_at hl 0 rfl) ?_
            refine sg_iald hx hb hK hP 8 (by decide) 0 rfl rfl (i := r_199) (vp_in_iff.mpr ⟨by omega, by omega⟩) dX12_one_169 ?_
            refine lv_topi (fun v_207 ev_207 => ?_)
            have q_208 : 0 ≤ v_207.toInt ∧ v_207.toInt ≤ 60 := by rw [ev_207]; exact hI 8 _
            have q_209 : (f_206 0 13).toInt = v_204.toInt := (congrArg Int32.toInt (show f_206 0 13 = v_204 from (by rw [ef_206, sg_up_s, sgu_s])))
            have q_210 : (f_206 0 16).toInt = v_1.toInt := (congrArg Int32.toInt (show f_206 0 16 = v_1 from (by rw [ef_206, sg_up_s, sgu_n (by decide)]; exact ev_1.symm)))
            have q_211 : (f_206 0 15).toInt = v_3.toInt := (congrArg Int32.toInt (show f_206 0 15 = v_3 from (by rw [ef_206, sg_up_s, sgu_n (by decide)]; exact ev_3.symm)))
            exact hret _ _ _ _ (v_207) f_206 L Q dX12_one_170 hP hS ⟨⟨hI, hF, rfl, rfl⟩, trivial, (by omega), (by omega), (by omega), (Eq.trans (Eq.symm (hs.trans ((if_neg (Int.not_lt.mpr c_203)).trans (spl_e ev_204 (spl_e ef_206 (spl_e ev_207 rfl)))))) hsp)⟩
        · skip
          have c_195 : r_96.toInt = 40 := (by first | exact (cm_eq1 ti_40 c) | (have z := Int32.toInt_inj.mpr c; have k1 : (40 : Int32).toInt = 40 := ti_40; omega))
          refine lv_aload_n hx hb dX12_one_32 rfl (lv_at hl 1 rfl) ?_
          have c_213 : v_1 = 2 := Int32.toInt_inj.mp (by have k9 : (2 : Int32).toInt = 2 := ti_2; omega)
          refine sl_gM_0_16_12 (v := 2) hx hb hts hown hK hP (show f 0 16 = 2 from (Eq.trans ev_1.symm c_213)) dX12_one_33 ?_
          refine lv_bipush (v := 6) hx hb dX12_one_36 bp_6 ?_
          refine lv_icmp_ne (tgt := 46) hx hb dX12_one_38 (by decide) (fun c => ?_) (fun c => absurd c (by decide))
          refine lv_aload_n hx hb dX12_one_46 rfl (lv_at hl 1 rfl) ?_
          refine lv_dup hx hb dX12_one_47 rfl ?_
          refine sl_gM_0_16_12 (v := 2) hx hb hts hown hK hP (show f 0 16 = 2 from (Eq.trans ev_1.symm c_213)) dX12_one_48 ?_
          refine lv_iconst (v := 1) hx hb dX12_one_51 ic_1 ?_
          refine lv_iadd hx hb dX12_one_52 ?_
          refine W.eq (g2 := F0 m 53 ls [.int 3, .ref (h 0)]) (by rw [show (2 + 1 : Int32) = 3 from by decide]) ?_
          refine sl_pM_0_16_12 (x := 3) hx hb hts hown hh hA hK hP hS dX12_one_53 (fun f_214 H locs ef_214 hP hS => ?_)
          have hI : sgI loM hiM f_214 := by rw [ef_214]; exact sgI.put hI 0 16 (show 0 ≤ (3 : Int32).toInt ∧ (3 : Int32).toInt ≤ 6 from by decide)
          have hF : sgK WkX12_one_2 f f_214 := sgK.put hF ef_214 (by rfl)
          refine lv_aload_n hx hb dX12_one_56 rfl (lv_at hl 1 rfl) ?_
          refine lv_dup hx hb dX12_one_57 rfl ?_
          refine sl_gM_0_13_12 (v := v_5) hx hb hts hown hK hP (show f_214 0 13 = v_5 from (by rw [ef_214, sg_up_s, sgu_n (by decide)]; exact ev_5.symm)) dX12_one_58 ?_
          refine lv_iconst (v := 1) hx hb dX12_one_61 ic_1 ?_
          refine lv_iadd hx hb dX12_one_62 ?_
          refine lv_topi (fun v_215 ev_215 => ?_)
          have q_216 : v_215.toInt = v_5.toInt + 1 := by rw [ev_215]; first | exact cm_add ti_1 (by omega) (by omega) | (have k1 : (1 : Int32).toInt = 1 := ti_1; exact (bn_addI (by omega) (by omega)).trans (by omega))
          refine sl_pM_0_13_12 (x := v_215) hx hb hts hown hh hA hK hP hS dX12_one_63 (fun f_217 H locs ef_217 hP hS => ?_)
          have hI : sgI loM hiM f_217 := by rw [ef_217]; exact sgI.put hI 0 13 (show 0 ≤ (v_215 : Int32).toInt ∧ (v_215 : Int32).toInt ≤ 120 from ⟨by omega, by omega⟩)
          have hF : sgK WkX12_one_2 f f_217 := sgK.put hF ef_217 (by rfl)
          refine lv_iload_n hx hb dX12_one_66 rfl (lv_at hl 0 rfl) ?_
          refine lv_bipush (v := 40) hx hb dX12_one_67 bp_40 ?_
          refine lv_icmp_ne (tgt := 79) hx hb dX12_one_69 (by decide) (fun c => ?_) (fun c => ?_)
          · skip
            exfalso; have c_218 : r_96.toInt ≠ 40 := (by first | exact (cm_ne1 ti_40 c) | (have z := bn_ne c; have k1 : (40 : Int32).toInt = 40 := ti_40; omega)); first | exact absurd (by assumption) c_218 | omega
          · skip
            have c_219 : r_96.toInt = 40 := (by first | exact (cm_eq1 ti_40 c) | (have z := Int32.toInt_inj.mpr c; have k1 : (40 : Int32).toInt = 40 := ti_40; omega))
            refine lv_aload_n hx hb dX12_one_72 rfl (lv_at hl 1 rfl) ?_
            have q_220 : (f_217 0 16).toInt = 3 := (congrArg Int32.toInt (show f_217 0 16 = 3 from (by rw [ef_217, sg_up_s, sgu_n (by decide)]; exact (by rw [ef_214, sg_up_s, sgu_s])))).trans (by decide)
            have q_221 : (f_217 0 15).toInt = v_3.toInt := (congrArg Int32.toInt (show f_217 0 15 = v_3 from (by rw [ef_217, sg_up_s, sgu_n (by decide)]; exact (by rw [ef_214, sg_up_s, sgu_n (by decide)]; exact ev_3.symm))))
            have q_223 : (f_217 0 13).toInt = v_215.toInt := (congrArg Int32.toInt (show f_217 0 13 = v_215 from (by rw [ef_217, sg_up_s, sgu_s])))
            refine sg_calli (va_runV (As := []) (rest := []) ⟨hx, hb, hml, hown, hts⟩ (kX12_either_3 l D ca za h hh f_217 L Q hI (by omega) (by omega) H.size) (sl_c12_either_24_0_0_546_12 hts ⟨Nat.le_of_ble_eq_true rfl, Nat.le_of_ble_eq_true rfl⟩) (sl_vM_0 hA hK hP hS hZ) rfl rfl hl.1 rfl (lv_room (Nat.le_of_ble_eq_true rfl)) dX12_one_73 ⟨Nat.le_refl _, Nat.le_refl _⟩) hA hS (fun r_227 f_224 L_225 Q_226 H locs hq hP hS => ?_)
            obtain ⟨⟨hI, hk_f_224, eL9, eQ9⟩, hq, p_228, p_229, p_230, u_231⟩ := hq
            rw [eL9, eQ9] at hP; clear eL9 eQ9
            have hF : sgK WkX12_one_2 f f_224 := sgK.tr hF hk_f_224 (by decide +kernel)
            obtain ⟨v_232, ev_232⟩ : ∃ z : Int32, z = f_224 0 13 := ⟨_, rfl⟩
            have q_233 : 0 ≤ v_232.toInt ∧ v_232.toInt ≤ 120 := by rw [ev_232]; exact hI 0 13
            have q_234 : (f_224 0 13).toInt = v_232.toInt := (congrArg Int32.toInt (show f_224 0 13 = v_232 from ev_232.symm))
            obtain ⟨v_235, ev_235⟩ : ∃ z : Int32, z = f_224 0 16 := ⟨_, rfl⟩
            have q_236 : 0 ≤ v_235.toInt ∧ v_235.toInt ≤ 6 := by rw [ev_235]; exact hI 0 16
            have q_237 : (f_224 0 16).toInt = v_235.toInt := (congrArg Int32.toInt (show f_224 0 16 = v_235 from ev_235.symm))
            obtain ⟨v_238, ev_238⟩ : ∃ z : Int32, z = f_224 0 15 := ⟨_, rfl⟩
            have q_239 : (-1) ≤ v_238.toInt ∧ v_238.toInt ≤ 120 := by rw [ev_238]; exact hI 0 15
            have q_240 : (f_224 0 15).toInt = v_238.toInt := (congrArg Int32.toInt (show f_224 0 15 = v_238 from ev_238.symm))
            refine lv_goto (tgt := 83) hx hb dX12_one_76 (by decide) ?_
            refine lv_istore_n (lv' := [(2, .int r_227), (1, .int r_96), (0, .ref (h 0))]) hx hb dX12_one_83 rfl hl (by decide) rfl (fun ls hl => ?_)
            refine lv_iload_n hx hb dX12_one_84 rfl (lv_at hl 1 rfl) ?_
            refine lv_bipush (v := 40) hx hb dX12_one_85 bp_40 ?_
            refine lv_icmp_ne (tgt := 104) hx hb dX12_one_87 (by decide) (fun c => ?_) (fun c => ?_)
            · skip
              exfalso; have c_242 : r_96.toInt ≠ 40 := (by first | exact (cm_ne1 ti_40 c) | (have z := bn_ne c; have k1 : (40 : Int32).toInt = 40 := ti_40; omega)); first | exact absurd (by assumption) c_242 | omega
            · skip
              have c_243 : r_96.toInt = 40 := (by first | exact (cm_eq1 ti_40 c) | (have z := Int32.toInt_inj.mpr c; have k1 : (40 : Int32).toInt = 40 := ti_40; omega))
              refine lv_aload_n hx hb dX12_one_90 rfl (lv_at hl 2 rfl) ?_
              refine lv_bipush (v := 41) hx hb dX12_one_91 bp_41 ?_
              have q_246 : (f_224 0 14).toInt = v_90.toInt := (congrArg Int32.toInt (show f_224 0 14 = v_90 from ((hk_f_224 0 14 (by decide)).trans (by rw [ef_217, sg_up_s, sgu_n (by decide)]; exact (by rw [ef_214, sg_up_s, sgu_n (by decide)]; exact ev_90.symm)))))
              refine sg_calli (va_runV (As := [.int 41]) (rest := []) ⟨hx, hb, hml, hown, hts⟩ (kX12_takes_41 l D ca za h hh f_224 L Q hI H.size) (sl_c12_takes_1_0_0_20_12 hts ⟨Nat.le_of_ble_eq_true rfl, Nat.le_of_ble_eq_true rfl⟩) (sl_vM_0 hA hK hP hS hZ) rfl rfl hl.1 rfl (lv_room (Nat.le_of_ble_eq_true rfl)) dX12_one_93 ⟨Nat.le_refl _, Nat.le_refl _⟩) hA hS (fun r_252 f_249 L_250 Q_251 H locs hq hP hS => ?_)
              obtain ⟨⟨hI, hk_f_249, eL9, eQ9⟩, hq, u_253⟩ := hq
              rw [eL9, eQ9] at hP; clear eL9 eQ9
              have hF : sgK WkX12_one_2 f f_249 := sgK.tr hF hk_f_249 (by decide +kernel)
              obtain ⟨v_254, ev_254⟩ : ∃ z : Int32, z = f_249 0 13 := ⟨_, rfl⟩
              replace hs := hs.trans ((if_pos c_195).trans (spl_e ef_214 (spl_e ev_215 (spl_e ef_217 (spl2_e u_231 (spl_e ev_232 (spl_e ev_235 (spl_e ev_238 (spl2_e u_253 (spl_e ev_254 rfl))))))))))
              have q_255 : 0 ≤ v_254.toInt ∧ v_254.toInt ≤ 120 := by rw [ev_254]; exact hI 0 13
              have q_256 : (f_249 0 13).toInt = v_254.toInt := (congrArg Int32.toInt (show f_249 0 13 = v_254 from ev_254.symm))
              have k_258 : (41 : Int32).toInt = 41 := by decide
              rcases hq with ⟨rfl, hq⟩ | ⟨rfl, hq⟩
              · skip
                have hc_259 := hq
                refine lv_if_ne (tgt := 104) hx hb dX12_one_96 (by decide) (fun c => ?_) (fun c => absurd c (by decide))
                refine lv_aload_n hx hb dX12_one_104 rfl (lv_at hl 2 rfl) ?_
                refine lv_dup hx hb dX12_one_105 rfl ?_
                refine sl_gM_0_16_12 (v := v_235) hx hb hts hown hK hP (show f_249 0 16 = v_235 from ((hk_f_249 0 16 (by decide)).trans ev_235.symm)) dX12_one_106 ?_
                refine lv_iconst (v := 1) hx hb dX12_one_109 ic_1 ?_
                refine lv_isub hx hb dX12_one_110 ?_
                refine lv_topi (fun v_260 ev_260 => ?_)
                have q_261 : v_260.toInt = v_235.toInt - 1 := by rw [ev_260]; first | exact cm_sub ti_1 (by omega) (by omega) | (have k1 : (1 : Int32).toInt = 1 := ti_1; exact (bn_subI (by omega) (by omega)).trans (by omega))
                refine sl_pM_0_16_12 (x := v_260) hx hb hts hown hh hA hK hP hS dX12_one_111 (fun f_262 H locs ef_262 hP hS => ?_)
                have hI : sgI loM hiM f_262 := by rw [ef_262]; exact sgI.put hI 0 16 (show 0 ≤ (v_260 : Int32).toInt ∧ (v_260 : Int32).toInt ≤ 6 from ⟨by omega, by omega⟩)
                have hF : sgK WkX12_one_2 f f_262 := sgK.put hF ef_262 (by rfl)
                refine lv_iload_n hx hb dX12_one_114 rfl (lv_at hl 1 rfl) ?_
                refine lv_bipush (v := 40) hx hb dX12_one_115 bp_40 ?_
                refine lv_icmp_ne (tgt := 124) hx hb dX12_one_117 (by decide) (fun c => ?_) (fun c => ?_)
                · skip
                  exfalso; have c_263 : r_96.toInt ≠ 40 := (by first | exact (cm_ne1 ti_40 c) | (have z := bn_ne c; have k1 : (40 : Int32).toInt = 40 := ti_40; omega)); first | exact absurd (by assumption) c_263 | omega
                · skip
                  have c_264 : r_96.toInt = 40 := (by first | exact (cm_eq1 ti_40 c) | (have z := Int32.toInt_inj.mpr c; have k1 : (40 : Int32).toInt = 40 := ti_40; omega))
                  refine lv_iload_n hx hb dX12_one_120 rfl (lv_at hl 0 rfl) ?_
                  refine lv_goto (tgt := 144) hx hb dX12_one_121 (by decide) ?_
                  have q_265 : (f_262 0 13).toInt = v_254.toInt := (congrArg Int32.toInt (show f_262 0 13 = v_254 from (by rw [ef_262, sg_up_s, sgu_n (by decide)]; exact ev_254.symm)))
                  have q_266 : (f_262 0 16).toInt = v_260.toInt := (congrArg Int32.toInt (show f_262 0 16 = v_260 from (by rw [ef_262, sg_up_s, sgu_s])))
                  have q_267 : (f_262 0 15).toInt = v_238.toInt := (congrArg Int32.toInt (show f_262 0 15 = v_238 from (by rw [ef_262, sg_up_s, sgu_n (by decide)]; exact ((hk_f_249 0 15 (by decide)).trans ev_238.symm))))
                  exact hret _ _ _ _ (r_227) f_262 L Q dX12_one_144 hP hS ⟨⟨hI, hF, rfl, rfl⟩, trivial, (by omega), (by omega), (by omega), (Eq.trans (Eq.symm (hs.trans ((if_pos rfl).trans (spl_e ev_260 (spl_e ef_262 rfl))))) hsp)⟩
              · skip
                have hc_259 := hq
                refine lv_if_ne (tgt := 104) hx hb dX12_one_96 (by decide) (fun c => absurd c (by decide)) (fun c => ?_)
                refine lv_aload_n hx hb dX12_one_99 rfl (lv_at hl 2 rfl) ?_
                refine sg_calli (va_runV (As := []) (rest := []) ⟨hx, hb, hml, hown, hts⟩ (kX12_wrong l D ca za h hh f_249 L Q hI H.size) (sl_c12_wrong_0_0_0_0_12 hts ⟨Nat.le_of_ble_eq_true rfl, Nat.le_of_ble_eq_true rfl⟩) (sl_vM_0 hA hK hP hS hZ) rfl rfl hl.1 rfl (lv_room (Nat.le_of_ble_eq_true rfl)) dX12_one_100 ⟨Nat.le_refl _, Nat.le_refl _⟩) hA hS (fun r_272 f_269 L_270 Q_271 H locs hq hP hS => ?_)
                obtain ⟨⟨hI, hk_f_269, eL9, eQ9⟩, hq, p_273, u_274⟩ := hq
                rw [eL9, eQ9] at hP; clear eL9 eQ9
                have hF : sgK WkX12_one_2 f f_269 := sgK.tr hF hk_f_269 (by decide +kernel)
                obtain ⟨v_275, ev_275⟩ : ∃ z : Int32, z = f_269 0 15 := ⟨_, rfl⟩
                have q_276 : (-1) ≤ v_275.toInt ∧ v_275.toInt ≤ 120 := by rw [ev_275]; exact hI 0 15
                have q_277 : (f_269 0 15).toInt = v_275.toInt := (congrArg Int32.toInt (show f_269 0 15 = v_275 from ev_275.symm))
                obtain rfl : r_272 = 0 := Int32.toInt_inj.mp (by have k9 : (0 : Int32).toInt = 0 := ti_0; omega)
                have q_278 : (f_269 0 13).toInt = v_254.toInt := (congrArg Int32.toInt (show f_269 0 13 = v_254 from ((hk_f_269 0 13 (by decide)).trans ev_254.symm)))
                have q_279 : (f_269 0 16).toInt = v_235.toInt := (congrArg Int32.toInt (show f_269 0 16 = v_235 from ((hk_f_269 0 16 (by decide)).trans ((hk_f_249 0 16 (by decide)).trans ev_235.symm))))
                have k99 : (0 : Int32).toInt = 0 := ti_0
                exact hret _ _ _ _ (0) f_269 L Q dX12_one_103 hP hS ⟨⟨hI, hF, rfl, rfl⟩, trivial, (by omega), (by omega), (by omega), (Eq.trans (Eq.symm (hs.trans ((if_neg (by decide)).trans (spl2_e u_274 (spl_e ev_275 rfl))))) hsp)⟩
  · skip
    have c_88 : 0 ≤ v_3.toInt := (by first | exact (cm_nlt1 ti_0 c) | (have z := bn_nlt c; have k1 : (0 : Int32).toInt = 0 := ti_0; omega))
    refine lv_iconst (v := 0) hx hb dX12_one_7 ic_0 ?_
    have q_282 : (f 0 13).toInt = v_5.toInt := (congrArg Int32.toInt (show f 0 13 = v_5 from ev_5.symm))
    have q_283 : (f 0 16).toInt = v_1.toInt := (congrArg Int32.toInt (show f 0 16 = v_1 from ev_1.symm))
    have q_284 : (f 0 15).toInt = v_3.toInt := (congrArg Int32.toInt (show f 0 15 = v_3 from ev_3.symm))
    have k99 : (0 : Int32).toInt = 0 := ti_0
    exact hret _ _ _ _ (0) f L Q dX12_one_8 hP hS ⟨⟨hI, hF, rfl, rfl⟩, trivial, (by omega), (by omega), (by omega), (Eq.trans (Eq.symm (hs.trans ((if_neg (Int.not_lt.mpr c_88)).trans rfl))) hsp)⟩

abbrev WkX12_product_2 : List (Nat × Nat × Option Nat) := [(0, 0, some 13), (0, 0, some 15), (0, 0, some 16)]
set_option maxHeartbeats 4000000 in
set_option maxRecDepth 100000 in
theorem kX12_product_2 (l : Launch) (D : va_G) (ca : Nat → ClassId) (za h : Nat → Nat) (hh : sgH 26 h) (f : sg_F) (L : sg_L) (Q : sg_Q) (hI : sgI loM hiM f) (p0 : 2 ≤ (f 0 16).toInt) (p1 : 0 ≤ (f 0 15).toInt ∨ (f 0 16).toInt = 2) (sz : Nat) : Met l yX12_product gwX12_product { frames := 26, cells := 0, slots := 0, locals := 592 } (sgP D vwCl (tyX ca) 26 h (eM ca h) zcM za f L Q sz [.ref (h 0)]) (sgQi D vwCl 26 h (eM ca h) sz (fun r f1 L1 Q1 => ((sgI loM hiM f1 ∧ sgK WkX12_product_2 f f1 ∧ L1 = L ∧ Q1 = Q) ∧ True ∧ ((f 0 13).toInt ≤ (f1 0 13).toInt) ∧ (2 ≤ (f1 0 16).toInt) ∧ (0 ≤ (f1 0 15).toInt ∨ (f1 0 16).toInt = 2) ∧ (r, f1) = sX12_product_2 f L))) 0 0 (sgA 26 h sz) := by
  refine sg_ofWi (cc := cX12_product) (maxL := 4) RX12 (by decide) rfl rfl (Nat.le_of_ble_eq_true rfl) ?_
  intro p e s m below meth cd Qz ls hx hb hml hown hts hK hZ hP hS hl hret
  have hA := sgY.self (n := 26) (h := h) (sz := s.heap.size)
  have hl : lv_has ls 4 [(0, .ref (h 0))] := hl
  obtain ⟨H, hH⟩ : ∃ z : Heap, z = s.heap := ⟨_, rfl⟩
  obtain ⟨locs, hlo⟩ : ∃ z : List Loc, z = [] := ⟨_, rfl⟩
  have hP : va_P D vwCl (sgw 26 h (eM ca h) f L Q) H := by rw [hH]; exact hP
  have hS : va_S (sgA 26 h s.heap.size) s.heap H locs := by rw [hH, hlo]; exact hS
  suffices hgo : W p l e ({ frames := 26, cells := 0, slots := 0, locals := 592 }) s m ([.ref (h 0)] : List Value).toArray below meth cd H locs 0 0 Qz (F0 m 0 ls []) by rw [hH, hlo] at hgo; exact hgo
  clear hH hlo
  obtain ⟨sp, hsp⟩ : ∃ z : Int32 × sg_F, z = sX12_product_2 f L := ⟨_, rfl⟩
  have hs : sp = sX12_product_2 f L := hsp
  obtain ⟨v_1, ev_1⟩ : ∃ z : Int32, z = f 0 16 := ⟨_, rfl⟩
  have q_2 : 0 ≤ v_1.toInt ∧ v_1.toInt ≤ 6 := by rw [ev_1]; exact hI 0 16
  obtain ⟨v_3, ev_3⟩ : ∃ z : Int32, z = f 0 15 := ⟨_, rfl⟩
  have q_4 : (-1) ≤ v_3.toInt ∧ v_3.toInt ≤ 120 := by rw [ev_3]; exact hI 0 15
  obtain ⟨v_5, ev_5⟩ : ∃ z : Int32, z = f 0 13 := ⟨_, rfl⟩
  have q_6 : 0 ≤ v_5.toInt ∧ v_5.toInt ≤ 120 := by rw [ev_5]; exact hI 0 13
  obtain ⟨v_7, ev_7⟩ : ∃ z : Int32, z = f 0 14 := ⟨_, rfl⟩
  have q_8 : 0 ≤ v_7.toInt ∧ v_7.toInt ≤ 120 := by rw [ev_7]; exact hI 0 14
  have o_9 : (f 0 16).toInt = v_1.toInt := (congrArg Int32.toInt (show f 0 16 = v_1 from ev_1.symm))
  have o_10 : (f 0 15).toInt = v_3.toInt := (congrArg Int32.toInt (show f 0 15 = v_3 from ev_3.symm))
  have o_11 : (f 0 13).toInt = v_5.toInt := (congrArg Int32.toInt (show f 0 13 = v_5 from ev_5.symm))
  have o_12 : (f 0 14).toInt = v_7.toInt := (congrArg Int32.toInt (show f 0 14 = v_7 from ev_7.symm))
  have hF : sgK WkX12_product_2 f f := sgK.rf
  have loop_10 : ∀ (n_10 : Nat) (y1_10 : Int32) (y2_10 : Int32) (fp_10 : sg_F) (H : Heap) (locs : List Loc) (ls : Array Slot), sp = sX12_product_2_l10 n_10 y1_10 y2_10 fp_10 L → 120 - (fp_10 0 13).toInt < (n_10 : Int) → 0 ≤ y2_10.toInt ∧ y2_10.toInt ≤ 255 → (f 0 13).toInt ≤ (fp_10 0 13).toInt → 2 ≤ (fp_10 0 16).toInt → 0 ≤ (fp_10 0 15).toInt ∨ (fp_10 0 16).toInt = 2 → y2_10.toInt = 0 ∨ (fp_10 0 13).toInt < (fp_10 0 14).toInt → sgI loM hiM fp_10 → sgK WkX12_product_2 f fp_10 → va_P D vwCl (sgw 26 h (eM ca h) fp_10 L Q) H → va_S (sgA 26 h s.heap.size) s.heap H locs → lv_has ls 4 [(0, .ref (h 0)), (1, .int y1_10), (2, .int y2_10)] → W p l e ({ frames := 26, cells := 0, slots := 0, locals := 592 }) s m ([.ref (h 0)] : List Value).toArray below meth cd H locs 0 0 Qz (F0 m 10 ls []) := by
    intro n_10
    induction n_10 with
    | zero => intro y1_10 y2_10 fp_10 H locs ls hs hm_10 hy0_10 hg0_10 hg1_10 hg2_10 hg3_10 hI hF hP hS hl; have zb := (show 0 ≤ (fp_10 0 13).toInt ∧ (fp_10 0 13).toInt ≤ 120 from hI 0 13); exact absurd hm_10 (by omega)
    | succ n_10 ih_10 =>
      intro y1_10 y2_10 fp_10 H locs ls hs hm_10 hy0_10 hg0_10 hg1_10 hg2_10 hg3_10 hI hF hP hS hl
      have hs : sp = sX12_product_2_h10 (sX12_product_2_l10 n_10) y1_10 y2_10 fp_10 L := hs
      obtain ⟨v_13, ev_13⟩ : ∃ z : Int32, z = fp_10 0 13 := ⟨_, rfl⟩
      have q_14 : 0 ≤ v_13.toInt ∧ v_13.toInt ≤ 120 := by rw [ev_13]; exact hI 0 13
      have q_15 : (fp_10 0 13).toInt = v_13.toInt := by rw [ev_13]
      obtain ⟨v_16, ev_16⟩ : ∃ z : Int32, z = fp_10 0 16 := ⟨_, rfl⟩
      have q_17 : 0 ≤ v_16.toInt ∧ v_16.toInt ≤ 6 := by rw [ev_16]; exact hI 0 16
      have q_18 : (fp_10 0 16).toInt = v_16.toInt := by rw [ev_16]
      obtain ⟨v_19, ev_19⟩ : ∃ z : Int32, z = fp_10 0 15 := ⟨_, rfl⟩
      have q_20 : (-1) ≤ v_19.toInt ∧ v_19.toInt ≤ 120 := by rw [ev_19]; exact hI 0 15
      have q_21 : (fp_10 0 15).toInt = v_19.toInt := by rw [ev_19]
      obtain ⟨v_22, ev_22⟩ : ∃ z : Int32, z = fp_10 0 14 := ⟨_, rfl⟩
      replace hs := hs.trans (spl_e ev_13 (spl_e ev_16 (spl_e ev_19 (spl_e ev_22 rfl))))
      have q_23 : 0 ≤ v_22.toInt ∧ v_22.toInt ≤ 120 := by rw [ev_22]; exact hI 0 14
      have q_24 : (fp_10 0 14).toInt = v_22.toInt := by rw [ev_22]
      refine lv_aload_n hx hb dX12_product_10 rfl (lv_at hl 0 rfl) ?_
      refine sl_gM_0_15_12 (v := v_19) hx hb hts hown hK hP (show fp_10 0 15 = v_19 from ev_19.symm) dX12_product_11 ?_
      refine lv_if_ge (tgt := 94) hx hb dX12_product_14 (by decide) (fun c => ?_) (fun c => ?_)
      · skip
        have c_25 : 0 ≤ v_19.toInt := (by first | exact (cm_le0 ti_0 c) | (have z := bn_le c; have k1 : (0 : Int32).toInt = 0 := ti_0; omega))
        refine lv_iload_n hx hb dX12_product_94 rfl (lv_at hl 1 rfl) ?_
        exact hret _ _ _ _ (y1_10) fp_10 L Q dX12_product_95 hP hS ⟨⟨hI, hF, rfl, rfl⟩, trivial, (by omega), (by omega), (by omega), (Eq.trans (Eq.symm (hs.trans ((if_neg (Int.not_lt.mpr c_25)).trans rfl))) hsp)⟩
      · skip
        have c_26 : v_19.toInt < 0 := (by first | exact (cm_nle0 ti_0 c) | (have z := bn_nle c; have k1 : (0 : Int32).toInt = 0 := ti_0; omega))
        replace hs := hs.trans ((if_pos c_26).trans rfl)
        refine lv_iload_n hx hb dX12_product_17 rfl (lv_at hl 2 rfl) ?_
        refine lv_bipush (v := 42) hx hb dX12_product_18 bp_42 ?_
        refine lv_icmp_eq (tgt := 35) hx hb dX12_product_20 (by decide) (fun c => ?_) (fun c => ?_)
        · skip
          have c_31 : y2_10.toInt = 42 := (by first | exact (cm_eq1 ti_42 c) | (have z := Int32.toInt_inj.mpr c; have k1 : (42 : Int32).toInt = 42 := ti_42; omega))
          refine lv_aload_n hx hb dX12_product_35 rfl (lv_at hl 0 rfl) ?_
          refine lv_dup hx hb dX12_product_36 rfl ?_
          refine sl_gM_0_13_12 (v := v_13) hx hb hts hown hK hP (show fp_10 0 13 = v_13 from ev_13.symm) dX12_product_37 ?_
          refine lv_iconst (v := 1) hx hb dX12_product_40 ic_1 ?_
          refine lv_iadd hx hb dX12_product_41 ?_
          refine lv_topi (fun v_33 ev_33 => ?_)
          have q_34 : v_33.toInt = v_13.toInt + 1 := by rw [ev_33]; first | exact cm_add ti_1 (by omega) (by omega) | (have k1 : (1 : Int32).toInt = 1 := ti_1; exact (bn_addI (by omega) (by omega)).trans (by omega))
          refine sl_pM_0_13_12 (x := v_33) hx hb hts hown hh hA hK hP hS dX12_product_42 (fun f_35 H locs ef_35 hP hS => ?_)
          have hI : sgI loM hiM f_35 := by rw [ef_35]; exact sgI.put hI 0 13 (show 0 ≤ (v_33 : Int32).toInt ∧ (v_33 : Int32).toInt ≤ 120 from ⟨by omega, by omega⟩)
          have hF : sgK WkX12_product_2 f f_35 := sgK.put hF ef_35 (by rfl)
          refine lv_aload_n hx hb dX12_product_45 rfl (lv_at hl 0 rfl) ?_
          have q_36 : (f_35 0 16).toInt = v_16.toInt := (congrArg Int32.toInt (show f_35 0 16 = v_16 from (by rw [ef_35, sg_up_s, sgu_n (by decide)]; exact ev_16.symm)))
          have q_37 : (f_35 0 15).toInt = v_19.toInt := (congrArg Int32.toInt (show f_35 0 15 = v_19 from (by rw [ef_35, sg_up_s, sgu_n (by decide)]; exact ev_19.symm)))
          have q_39 : (f_35 0 13).toInt = v_33.toInt := (congrArg Int32.toInt (show f_35 0 13 = v_33 from (by rw [ef_35, sg_up_s, sgu_s])))
          refine sg_calli (va_runV (As := []) (rest := []) ⟨hx, hb, hml, hown, hts⟩ (kX12_one_2 l D ca za h hh f_35 L Q hI (by omega) (by omega) H.size) (sl_c12_one_25_0_0_568_12 hts ⟨Nat.le_of_ble_eq_true rfl, Nat.le_of_ble_eq_true rfl⟩) (sl_vM_0 hA hK hP hS hZ) rfl rfl hl.1 rfl (lv_room (Nat.le_of_ble_eq_true rfl)) dX12_product_46 ⟨Nat.le_refl _, Nat.le_refl _⟩) hA hS (fun r_43 f_40 L_41 Q_42 H locs hq hP hS => ?_)
          obtain ⟨⟨hI, hk_f_40, eL9, eQ9⟩, hq, p_44, p_45, p_46, u_47⟩ := hq
          rw [eL9, eQ9] at hP; clear eL9 eQ9
          have hF : sgK WkX12_product_2 f f_40 := sgK.tr hF hk_f_40 (by decide +kernel)
          obtain ⟨v_48, ev_48⟩ : ∃ z : Int32, z = f_40 0 13 := ⟨_, rfl⟩
          have q_49 : 0 ≤ v_48.toInt ∧ v_48.toInt ≤ 120 := by rw [ev_48]; exact hI 0 13
          have q_50 : (f_40 0 13).toInt = v_48.toInt := (congrArg Int32.toInt (show f_40 0 13 = v_48 from ev_48.symm))
          obtain ⟨v_51, ev_51⟩ : ∃ z : Int32, z = f_40 0 16 := ⟨_, rfl⟩
          have q_52 : 0 ≤ v_51.toInt ∧ v_51.toInt ≤ 6 := by rw [ev_51]; exact hI 0 16
          have q_53 : (f_40 0 16).toInt = v_51.toInt := (congrArg Int32.toInt (show f_40 0 16 = v_51 from ev_51.symm))
          obtain ⟨v_54, ev_54⟩ : ∃ z : Int32, z = f_40 0 15 := ⟨_, rfl⟩
          have q_55 : (-1) ≤ v_54.toInt ∧ v_54.toInt ≤ 120 := by rw [ev_54]; exact hI 0 15
          have q_56 : (f_40 0 15).toInt = v_54.toInt := (congrArg Int32.toInt (show f_40 0 15 = v_54 from ev_54.symm))
          refine lv_istore_n (lv' := [(3, .int r_43), (0, .ref (h 0)), (1, .int y1_10), (2, .int y2_10)]) hx hb dX12_product_49 rfl hl (by decide) rfl (fun ls hl => ?_)
          refine lv_iload_n hx hb dX12_product_50 rfl (lv_at hl 3 rfl) ?_
          refine lv_bipush (v := 42) hx hb dX12_product_51 bp_42 ?_
          refine lv_icmp_ne (tgt := 62) hx hb dX12_product_53 (by decide) (fun c => ?_) (fun c => ?_)
          · skip
            exfalso; have c_58 : y2_10.toInt ≠ 42 := (by first | exact (cm_ne1 ti_42 c) | (have z := bn_ne c; have k1 : (42 : Int32).toInt = 42 := ti_42; omega)); first | exact absurd (by assumption) c_58 | omega
          · skip
            have c_59 : y2_10.toInt = 42 := (by first | exact (cm_eq1 ti_42 c) | (have z := Int32.toInt_inj.mpr c; have k1 : (42 : Int32).toInt = 42 := ti_42; omega))
            refine lv_iload_n hx hb dX12_product_56 rfl (lv_at hl 2 rfl) ?_
            refine lv_iload_n hx hb dX12_product_57 rfl (lv_at hl 0 rfl) ?_
            refine lv_imul hx hb dX12_product_58 ?_
            refine lv_topi (fun v_60 ev_60 => ?_)
            refine lv_goto (tgt := 85) hx hb dX12_product_59 (by decide) ?_
            refine lv_istore_n (lv' := [(1, .int v_60), (3, .int r_43), (0, .ref (h 0)), (2, .int y2_10)]) hx hb dX12_product_85 rfl hl (by decide) rfl (fun ls hl => ?_)
            refine lv_aload_n hx hb dX12_product_86 rfl (lv_at hl 2 rfl) ?_
            have q_62 : (f_40 0 14).toInt = v_22.toInt := (congrArg Int32.toInt (show f_40 0 14 = v_22 from ((hk_f_40 0 14 (by decide)).trans (by rw [ef_35, sg_up_s, sgu_n (by decide)]; exact ev_22.symm))))
            refine sg_calli (va_runV (As := []) (rest := []) ⟨hx, hb, hml, hown, hts⟩ (kX12_byteAt l D ca za h hh f_40 L Q hI H.size) (sl_c12_byteAt_0_0_0_0_12 hts ⟨Nat.le_of_ble_eq_true rfl, Nat.le_of_ble_eq_true rfl⟩) (sl_vM_0 hA hK hP hS hZ) rfl rfl hl.1 rfl (lv_room (Nat.le_of_ble_eq_true rfl)) dX12_product_87 ⟨Nat.le_refl _, Nat.le_refl _⟩) hA hS (fun r_66 f_63 L_64 Q_65 H locs hq hP hS => ?_)
            obtain ⟨⟨ef9, eL9, eQ9⟩, hq, p_67, u_68⟩ := hq
            rw [ef9, eL9, eQ9] at hP; clear ef9 eL9 eQ9
            refine lv_istore_n (lv' := [(2, .int r_66), (1, .int v_60), (3, .int r_43), (0, .ref (h 0))]) hx hb dX12_product_90 rfl hl (by decide) rfl (fun ls hl => ?_)
            refine lv_goto (tgt := 10) hx hb dX12_product_91 (by decide) ?_
            exact ih_10 v_60 r_66 f_40 _ _ _ (hs.trans ((if_pos c_31).trans (spl_e ev_33 (spl_e ef_35 (spl2_e u_47 (spl_e ev_48 (spl_e ev_51 (spl_e ev_54 (spl_e ev_60 (spl_e u_68 rfl)))))))))) (by have zz0_13 : (f_40 0 13).toInt = v_48.toInt := (congrArg Int32.toInt (show f_40 0 13 = v_48 from ev_48.symm)); omega) ⟨by omega, by omega⟩ (by have zz0_13 : (f_40 0 13).toInt = v_48.toInt := (congrArg Int32.toInt (show f_40 0 13 = v_48 from ev_48.symm)); omega) (by have zz0_16 : (f_40 0 16).toInt = v_51.toInt := (congrArg Int32.toInt (show f_40 0 16 = v_51 from ev_51.symm)); omega) (by have zz0_15 : (f_40 0 15).toInt = v_54.toInt := (congrArg Int32.toInt (show f_40 0 15 = v_54 from ev_54.symm)); have zz0_16 : (f_40 0 16).toInt = v_51.toInt := (congrArg Int32.toInt (show f_40 0 16 = v_51 from ev_51.symm)); omega) (by have zz0_13 : (f_40 0 13).toInt = v_48.toInt := (congrArg Int32.toInt (show f_40 0 13 = v_48 from ev_48.symm)); have zz0_14 : (f_40 0 14).toInt = v_22.toInt := (congrArg Int32.toInt (show f_40 0 14 = v_22 from ((hk_f_40 0 14 (by decide)).trans (by rw [ef_35, sg_up_s, sgu_n (by decide)]; exact ev_22.symm)))); omega) hI hF hP hS (lv_sub hl [3, 1, 0] rfl)
        · skip
          have c_32 : y2_10.toInt ≠ 42 := (by first | exact (cm_ne1 ti_42 c) | (have z := bn_ne c; have k1 : (42 : Int32).toInt = 42 := ti_42; omega))
          replace hs := hs.trans ((if_neg c_32).trans rfl)
          refine lv_iload_n hx hb dX12_product_23 rfl (lv_at hl 2 rfl) ?_
          refine lv_bipush (v := 47) hx hb dX12_product_24 bp_47 ?_
          refine lv_icmp_eq (tgt := 35) hx hb dX12_product_26 (by decide) (fun c => ?_) (fun c => ?_)
          · skip
            have c_69 : y2_10.toInt = 47 := (by first | exact (cm_eq1 ti_47 c) | (have z := Int32.toInt_inj.mpr c; have k1 : (47 : Int32).toInt = 47 := ti_47; omega))
            refine lv_aload_n hx hb dX12_product_35 rfl (lv_at hl 0 rfl) ?_
            refine lv_dup hx hb dX12_product_36 rfl ?_
            refine sl_gM_0_13_12 (v := v_13) hx hb hts hown hK hP (show fp_10 0 13 = v_13 from ev_13.symm) dX12_product_37 ?_
            refine lv_iconst (v := 1) hx hb dX12_product_40 ic_1 ?_
            refine lv_iadd hx hb dX12_product_41 ?_
            refine lv_topi (fun v_71 ev_71 => ?_)
            have q_72 : v_71.toInt = v_13.toInt + 1 := by rw [ev_71]; first | exact cm_add ti_1 (by omega) (by omega) | (have k1 : (1 : Int32).toInt = 1 := ti_1; exact (bn_addI (by omega) (by omega)).trans (by omega))
            refine sl_pM_0_13_12 (x := v_71) hx hb hts hown hh hA hK hP hS dX12_product_42 (fun f_73 H locs ef_73 hP hS => ?_)
            have hI : sgI loM hiM f_73 := by rw [ef_73]; exact sgI.put hI 0 13 (show 0 ≤ (v_71 : Int32).toInt ∧ (v_71 : Int32).toInt ≤ 120 from ⟨by omega, by omega⟩)
            have hF : sgK WkX12_product_2 f f_73 := sgK.put hF ef_73 (by rfl)
            refine lv_aload_n hx hb dX12_product_45 rfl (lv_at hl 0 rfl) ?_
            have q_74 : (f_73 0 16).toInt = v_16.toInt := (congrArg Int32.toInt (show f_73 0 16 = v_16 from (by rw [ef_73, sg_up_s, sgu_n (by decide)]; exact ev_16.symm)))
            have q_75 : (f_73 0 15).toInt = v_19.toInt := (congrArg Int32.toInt (show f_73 0 15 = v_19 from (by rw [ef_73, sg_up_s, sgu_n (by decide)]; exact ev_19.symm)))
            have q_77 : (f_73 0 13).toInt = v_71.toInt := (congrArg Int32.toInt (show f_73 0 13 = v_71 from (by rw [ef_73, sg_up_s, sgu_s])))
            refine sg_calli (va_runV (As := []) (rest := []) ⟨hx, hb, hml, hown, hts⟩ (kX12_one_2 l D ca za h hh f_73 L Q hI (by omega) (by omega) H.size) (sl_c12_one_25_0_0_568_12 hts ⟨Nat.le_of_ble_eq_true rfl, Nat.le_of_ble_eq_true rfl⟩) (sl_vM_0 hA hK hP hS hZ) rfl rfl hl.1 rfl (lv_room (Nat.le_of_ble_eq_true rfl)) dX12_product_46 ⟨Nat.le_refl _, Nat.le_refl _⟩) hA hS (fun r_81 f_78 L_79 Q_80 H locs hq hP hS => ?_)
            obtain ⟨⟨hI, hk_f_78, eL9, eQ9⟩, hq, p_82, p_83, p_84, u_85⟩ := hq
            rw [eL9, eQ9] at hP; clear eL9 eQ9
            have hF : sgK WkX12_product_2 f f_78 := sgK.tr hF hk_f_78 (by decide +kernel)
            obtain ⟨v_86, ev_86⟩ : ∃ z : Int32, z = f_78 0 13 := ⟨_, rfl⟩
            have q_87 : 0 ≤ v_86.toInt ∧ v_86.toInt ≤ 120 := by rw [ev_86]; exact hI 0 13
            have q_88 : (f_78 0 13).toInt = v_86.toInt := (congrArg Int32.toInt (show f_78 0 13 = v_86 from ev_86.symm))
            obtain ⟨v_89, ev_89⟩ : ∃ z : Int32, z = f_78 0 16 := ⟨_, rfl⟩
            have q_90 : 0 ≤ v_89.toInt ∧ v_89.toInt ≤ 6 := by rw [ev_89]; exact hI 0 16
            have q_91 : (f_78 0 16).toInt = v_89.toInt := (congrArg Int32.toInt (show f_78 0 16 = v_89 from ev_89.symm))
            obtain ⟨v_92, ev_92⟩ : ∃ z : Int32, z = f_78 0 15 := ⟨_, rfl⟩
            replace hs := hs.trans ((if_pos c_69).trans (spl_e ev_71 (spl_e ef_73 (spl2_e u_85 (spl_e ev_86 (spl_e ev_89 (spl_e ev_92 rfl)))))))
            have q_93 : (-1) ≤ v_92.toInt ∧ v_92.toInt ≤ 120 := by rw [ev_92]; exact hI 0 15
            have q_94 : (f_78 0 15).toInt = v_92.toInt := (congrArg Int32.toInt (show f_78 0 15 = v_92 from ev_92.symm))
            refine lv_istore_n (lv' := [(3, .int r_81), (0, .ref (h 0)), (1, .int y1_10), (2, .int y2_10)]) hx hb dX12_product_49 rfl hl (by decide) rfl (fun ls hl => ?_)
            refine lv_iload_n hx hb dX12_product_50 rfl (lv_at hl 3 rfl) ?_
            refine lv_bipush (v := 42) hx hb dX12_product_51 bp_42 ?_
            refine lv_icmp_ne (tgt := 62) hx hb dX12_product_53 (by decide) (fun c => ?_) (fun c => ?_)
            · skip
              have c_96 : y2_10.toInt ≠ 42 := (by first | exact (cm_ne1 ti_42 c) | (have z := bn_ne c; have k1 : (42 : Int32).toInt = 42 := ti_42; omega))
              refine lv_iload_n hx hb dX12_product_62 rfl (lv_at hl 0 rfl) ?_
              refine lv_if_ne (tgt := 70) hx hb dX12_product_63 (by decide) (fun c => ?_) (fun c => ?_)
              · skip
                have c_98 : r_81.toInt ≠ 0 := (by first | exact (cm_ne1 ti_0 c) | (have z := bn_ne c; have k1 : (0 : Int32).toInt = 0 := ti_0; omega))
                refine lv_iload_n hx hb dX12_product_70 rfl (lv_at hl 3 rfl) ?_
                refine lv_bipush (v := 47) hx hb dX12_product_71 bp_47 ?_
                refine lv_icmp_ne (tgt := 82) hx hb dX12_product_73 (by decide) (fun c => ?_) (fun c => ?_)
                · skip
                  exfalso; have c_100 : y2_10.toInt ≠ 47 := (by first | exact (cm_ne1 ti_47 c) | (have z := bn_ne c; have k1 : (47 : Int32).toInt = 47 := ti_47; omega)); first | exact absurd (by assumption) c_100 | omega
                · skip
                  have c_101 : y2_10.toInt = 47 := (by first | exact (cm_eq1 ti_47 c) | (have z := Int32.toInt_inj.mpr c; have k1 : (47 : Int32).toInt = 47 := ti_47; omega))
                  refine lv_iload_n hx hb dX12_product_76 rfl (lv_at hl 2 rfl) ?_
                  refine lv_iload_n hx hb dX12_product_77 rfl (lv_at hl 0 rfl) ?_
                  refine lv_idiv hx hb dX12_product_78 (bn_nz (by omega)) ?_
                  refine lv_topi (fun v_102 ev_102 => ?_)
                  refine lv_goto (tgt := 85) hx hb dX12_product_79 (by decide) ?_
                  refine lv_istore_n (lv' := [(1, .int v_102), (3, .int r_81), (0, .ref (h 0)), (2, .int y2_10)]) hx hb dX12_product_85 rfl hl (by decide) rfl (fun ls hl => ?_)
                  refine lv_aload_n hx hb dX12_product_86 rfl (lv_at hl 2 rfl) ?_
                  have q_104 : (f_78 0 14).toInt = v_22.toInt := (congrArg Int32.toInt (show f_78 0 14 = v_22 from ((hk_f_78 0 14 (by decide)).trans (by rw [ef_73, sg_up_s, sgu_n (by decide)]; exact ev_22.symm))))
                  refine sg_calli (va_runV (As := []) (rest := []) ⟨hx, hb, hml, hown, hts⟩ (kX12_byteAt l D ca za h hh f_78 L Q hI H.size) (sl_c12_byteAt_0_0_0_0_12 hts ⟨Nat.le_of_ble_eq_true rfl, Nat.le_of_ble_eq_true rfl⟩) (sl_vM_0 hA hK hP hS hZ) rfl rfl hl.1 rfl (lv_room (Nat.le_of_ble_eq_true rfl)) dX12_product_87 ⟨Nat.le_refl _, Nat.le_refl _⟩) hA hS (fun r_108 f_105 L_106 Q_107 H locs hq hP hS => ?_)
                  obtain ⟨⟨ef9, eL9, eQ9⟩, hq, p_109, u_110⟩ := hq
                  rw [ef9, eL9, eQ9] at hP; clear ef9 eL9 eQ9
                  refine lv_istore_n (lv' := [(2, .int r_108), (1, .int v_102), (3, .int r_81), (0, .ref (h 0))]) hx hb dX12_product_90 rfl hl (by decide) rfl (fun ls hl => ?_)
                  refine lv_goto (tgt := 10) hx hb dX12_product_91 (by decide) ?_
                  exact ih_10 v_102 r_108 f_78 _ _ _ (hs.trans ((if_neg c_98).trans (spl_e ev_102 (spl_e u_110 rfl)))) (by have zz0_13 : (f_78 0 13).toInt = v_86.toInt := (congrArg Int32.toInt (show f_78 0 13 = v_86 from ev_86.symm)); omega) ⟨by omega, by omega⟩ (by have zz0_13 : (f_78 0 13).toInt = v_86.toInt := (congrArg Int32.toInt (show f_78 0 13 = v_86 from ev_86.symm)); omega) (by have zz0_16 : (f_78 0 16).toInt = v_89.toInt := (congrArg Int32.toInt (show f_78 0 16 = v_89 from ev_89.symm)); omega) (by have zz0_15 : (f_78 0 15).toInt = v_92.toInt := (congrArg Int32.toInt (show f_78 0 15 = v_92 from ev_92.symm)); have zz0_16 : (f_78 0 16).toInt = v_89.toInt := (congrArg Int32.toInt (show f_78 0 16 = v_89 from ev_89.symm)); omega) (by have zz0_13 : (f_78 0 13).toInt = v_86.toInt := (congrArg Int32.toInt (show f_78 0 13 = v_86 from ev_86.symm)); have zz0_14 : (f_78 0 14).toInt = v_22.toInt := (congrArg Int32.toInt (show f_78 0 14 = v_22 from ((hk_f_78 0 14 (by decide)).trans (by rw [ef_73, sg_up_s, sgu_n (by decide)]; exact ev_22.symm)))); omega) hI hF hP hS (lv_sub hl [3, 1, 0] rfl)
              · skip
                have c_99 : r_81.toInt = 0 := (by first | exact (cm_eq1 ti_0 c) | (have z := Int32.toInt_inj.mpr c; have k1 : (0 : Int32).toInt = 0 := ti_0; omega))
                refine lv_iconst (v := 0) hx hb dX12_product_66 ic_0 ?_
                refine lv_goto (tgt := 85) hx hb dX12_product_67 (by decide) ?_
                refine lv_istore_n (lv' := [(1, .int 0), (3, .int r_81), (0, .ref (h 0)), (2, .int y2_10)]) hx hb dX12_product_85 rfl hl (by decide) rfl (fun ls hl => ?_)
                refine lv_aload_n hx hb dX12_product_86 rfl (lv_at hl 2 rfl) ?_
                have q_112 : (f_78 0 14).toInt = v_22.toInt := (congrArg Int32.toInt (show f_78 0 14 = v_22 from ((hk_f_78 0 14 (by decide)).trans (by rw [ef_73, sg_up_s, sgu_n (by decide)]; exact ev_22.symm))))
                refine sg_calli (va_runV (As := []) (rest := []) ⟨hx, hb, hml, hown, hts⟩ (kX12_byteAt l D ca za h hh f_78 L Q hI H.size) (sl_c12_byteAt_0_0_0_0_12 hts ⟨Nat.le_of_ble_eq_true rfl, Nat.le_of_ble_eq_true rfl⟩) (sl_vM_0 hA hK hP hS hZ) rfl rfl hl.1 rfl (lv_room (Nat.le_of_ble_eq_true rfl)) dX12_product_87 ⟨Nat.le_refl _, Nat.le_refl _⟩) hA hS (fun r_116 f_113 L_114 Q_115 H locs hq hP hS => ?_)
                obtain ⟨⟨ef9, eL9, eQ9⟩, hq, p_117, u_118⟩ := hq
                rw [ef9, eL9, eQ9] at hP; clear ef9 eL9 eQ9
                refine lv_istore_n (lv' := [(2, .int r_116), (1, .int 0), (3, .int r_81), (0, .ref (h 0))]) hx hb dX12_product_90 rfl hl (by decide) rfl (fun ls hl => ?_)
                refine lv_goto (tgt := 10) hx hb dX12_product_91 (by decide) ?_
                exact ih_10 0 r_116 f_78 _ _ _ (hs.trans ((if_pos c_99).trans (spl_e u_118 rfl))) (by have kc0 : (0 : Int32).toInt = 0 := ti_0; have zz0_13 : (f_78 0 13).toInt = v_86.toInt := (congrArg Int32.toInt (show f_78 0 13 = v_86 from ev_86.symm)); omega) ⟨by omega, by omega⟩ (by have kc0 : (0 : Int32).toInt = 0 := ti_0; have zz0_13 : (f_78 0 13).toInt = v_86.toInt := (congrArg Int32.toInt (show f_78 0 13 = v_86 from ev_86.symm)); omega) (by have kc0 : (0 : Int32).toInt = 0 := ti_0; have zz0_16 : (f_78 0 16).toInt = v_89.toInt := (congrArg Int32.toInt (show f_78 0 16 = v_89 from ev_89.symm)); omega) (by have kc0 : (0 : Int32).toInt = 0 := ti_0; have zz0_15 : (f_78 0 15).toInt = v_92.toInt := (congrArg Int32.toInt (show f_78 0 15 = v_92 from ev_92.symm)); have zz0_16 : (f_78 0 16).toInt = v_89.toInt := (congrArg Int32.toInt (show f_78 0 16 = v_89 from ev_89.symm)); omega) (by have kc0 : (0 : Int32).toInt = 0 := ti_0; have zz0_13 : (f_78 0 13).toInt = v_86.toInt := (congrArg Int32.toInt (show f_78 0 13 = v_86 from ev_86.symm)); have zz0_14 : (f_78 0 14).toInt = v_22.toInt := (congrArg Int32.toInt (show f_78 0 14 = v_22 from ((hk_f_78 0 14 (by decide)).trans (by rw [ef_73, sg_up_s, sgu_n (by decide)]; exact ev_22.symm)))); omega) hI hF hP hS (lv_sub hl [3, 1, 0] rfl)
            · skip
              exfalso; have c_97 : y2_10.toInt = 42 := (by first | exact (cm_eq1 ti_42 c) | (have z := Int32.toInt_inj.mpr c; have k1 : (42 : Int32).toInt = 42 := ti_42; omega)); first | exact absurd c_97 (by assumption) | omega
          · skip
            have c_70 : y2_10.toInt ≠ 47 := (by first | exact (cm_ne1 ti_47 c) | (have z := bn_ne c; have k1 : (47 : Int32).toInt = 47 := ti_47; omega))
            replace hs := hs.trans ((if_neg c_70).trans rfl)
            refine lv_iload_n hx hb dX12_product_29 rfl (lv_at hl 2 rfl) ?_
            refine lv_bipush (v := 37) hx hb dX12_product_30 bp_37 ?_
            refine lv_icmp_ne (tgt := 94) hx hb dX12_product_32 (by decide) (fun c => ?_) (fun c => ?_)
            · skip
              have c_119 : y2_10.toInt ≠ 37 := (by first | exact (cm_ne1 ti_37 c) | (have z := bn_ne c; have k1 : (37 : Int32).toInt = 37 := ti_37; omega))
              refine lv_iload_n hx hb dX12_product_94 rfl (lv_at hl 1 rfl) ?_
              exact hret _ _ _ _ (y1_10) fp_10 L Q dX12_product_95 hP hS ⟨⟨hI, hF, rfl, rfl⟩, trivial, (by omega), (by omega), (by omega), (Eq.trans (Eq.symm (hs.trans ((if_neg c_119).trans rfl))) hsp)⟩
            · skip
              have c_120 : y2_10.toInt = 37 := (by first | exact (cm_eq1 ti_37 c) | (have z := Int32.toInt_inj.mpr c; have k1 : (37 : Int32).toInt = 37 := ti_37; omega))
              refine lv_aload_n hx hb dX12_product_35 rfl (lv_at hl 0 rfl) ?_
              refine lv_dup hx hb dX12_product_36 rfl ?_
              refine sl_gM_0_13_12 (v := v_13) hx hb hts hown hK hP (show fp_10 0 13 = v_13 from ev_13.symm) dX12_product_37 ?_
              refine lv_iconst (v := 1) hx hb dX12_product_40 ic_1 ?_
              refine lv_iadd hx hb dX12_product_41 ?_
              refine lv_topi (fun v_125 ev_125 => ?_)
              have q_126 : v_125.toInt = v_13.toInt + 1 := by rw [ev_125]; first | exact cm_add ti_1 (by omega) (by omega) | (have k1 : (1 : Int32).toInt = 1 := ti_1; exact (bn_addI (by omega) (by omega)).trans (by omega))
              refine sl_pM_0_13_12 (x := v_125) hx hb hts hown hh hA hK hP hS dX12_product_42 (fun f_127 H locs ef_127 hP hS => ?_)
              have hI : sgI loM hiM f_127 := by rw [ef_127]; exact sgI.put hI 0 13 (show 0 ≤ (v_125 : Int32).toInt ∧ (v_125 : Int32).toInt ≤ 120 from ⟨by omega, by omega⟩)
              have hF : sgK WkX12_product_2 f f_127 := sgK.put hF ef_127 (by rfl)
              refine lv_aload_n hx hb dX12_product_45 rfl (lv_at hl 0 rfl) ?_
              have q_128 : (f_127 0 16).toInt = v_16.toInt := (congrArg Int32.toInt (show f_127 0 16 = v_16 from (by rw [ef_127, sg_up_s, sgu_n (by decide)]; exact ev_16.symm)))
              have q_129 : (f_127 0 15).toInt = v_19.toInt := (congrArg Int32.toInt (show f_127 0 15 = v_19 from (by rw [ef_127, sg_up_s, sgu_n (by decide)]; exact ev_19.symm)))
              have q_131 : (f_127 0 13).toInt = v_125.toInt := (congrArg Int32.toInt (show f_127 0 13 = v_125 from (by rw [ef_127, sg_up_s, sgu_s])))
              refine sg_calli (va_runV (As := []) (rest := []) ⟨hx, hb, hml, hown, hts⟩ (kX12_one_2 l D ca za h hh f_127 L Q hI (by omega) (by omega) H.size) (sl_c12_one_25_0_0_568_12 hts ⟨Nat.le_of_ble_eq_true rfl, Nat.le_of_ble_eq_true rfl⟩) (sl_vM_0 hA hK hP hS hZ) rfl rfl hl.1 rfl (lv_room (Nat.le_of_ble_eq_true rfl)) dX12_product_46 ⟨Nat.le_refl _, Nat.le_refl _⟩) hA hS (fun r_135 f_132 L_133 Q_134 H locs hq hP hS => ?_)
              obtain ⟨⟨hI, hk_f_132, eL9, eQ9⟩, hq, p_136, p_137, p_138, u_139⟩ := hq
              rw [eL9, eQ9] at hP; clear eL9 eQ9
              have hF : sgK WkX12_product_2 f f_132 := sgK.tr hF hk_f_132 (by decide +kernel)
              obtain ⟨v_140, ev_140⟩ : ∃ z : Int32, z = f_132 0 13 := ⟨_, rfl⟩
              have q_141 : 0 ≤ v_140.toInt ∧ v_140.toInt ≤ 120 := by rw [ev_140]; exact hI 0 13
              have q_142 : (f_132 0 13).toInt = v_140.toInt := (congrArg Int32.toInt (show f_132 0 13 = v_140 from ev_140.symm))
              obtain ⟨v_143, ev_143⟩ : ∃ z : Int32, z = f_132 0 16 := ⟨_, rfl⟩
              have q_144 : 0 ≤ v_143.toInt ∧ v_143.toInt ≤ 6 := by rw [ev_143]; exact hI 0 16
              have q_145 : (f_132 0 16).toInt = v_143.toInt := (congrArg Int32.toInt (show f_132 0 16 = v_143 from ev_143.symm))
              obtain ⟨v_146, ev_146⟩ : ∃ z : Int32, z = f_132 0 15 := ⟨_, rfl⟩
              replace hs := hs.trans ((if_pos c_120).trans (spl_e ev_125 (spl_e ef_127 (spl2_e u_139 (spl_e ev_140 (spl_e ev_143 (spl_e ev_146 rfl)))))))
              have q_147 : (-1) ≤ v_146.toInt ∧ v_146.toInt ≤ 120 := by rw [ev_146]; exact hI 0 15
              have q_148 : (f_132 0 15).toInt = v_146.toInt := (congrArg Int32.toInt (show f_132 0 15 = v_146 from ev_146.symm))
              refine lv_istore_n (lv' := [(3, .int r_135), (0, .ref (h 0)), (1, .int y1_10), (2, .int y2_10)]) hx hb dX12_product_49 rfl hl (by decide) rfl (fun ls hl => ?_)
              refine lv_iload_n hx hb dX12_product_50 rfl (lv_at hl 3 rfl) ?_
              refine lv_bipush (v := 42) hx hb dX12_product_51 bp_42 ?_
              refine lv_icmp_ne (tgt := 62) hx hb dX12_product_53 (by decide) (fun c => ?_) (fun c => ?_)
              · skip
                have c_150 : y2_10.toInt ≠ 42 := (by first | exact (cm_ne1 ti_42 c) | (have z := bn_ne c; have k1 : (42 : Int32).toInt = 42 := ti_42; omega))
                refine lv_iload_n hx hb dX12_product_62 rfl (lv_at hl 0 rfl) ?_
                refine lv_if_ne (tgt := 70) hx hb dX12_product_63 (by decide) (fun c => ?_) (fun c => ?_)
                · skip
                  have c_152 : r_135.toInt ≠ 0 := (by first | exact (cm_ne1 ti_0 c) | (have z := bn_ne c; have k1 : (0 : Int32).toInt = 0 := ti_0; omega))
                  refine lv_iload_n hx hb dX12_product_70 rfl (lv_at hl 3 rfl) ?_
                  refine lv_bipush (v := 47) hx hb dX12_product_71 bp_47 ?_
                  refine lv_icmp_ne (tgt := 82) hx hb dX12_product_73 (by decide) (fun c => ?_) (fun c => ?_)
                  · skip
                    have c_154 : y2_10.toInt ≠ 47 := (by first | exact (cm_ne1 ti_47 c) | (have z := bn_ne c; have k1 : (47 : Int32).toInt = 47 := ti_47; omega))
                    refine lv_iload_n hx hb dX12_product_82 rfl (lv_at hl 2 rfl) ?_
                    refine lv_iload_n hx hb dX12_product_83 rfl (lv_at hl 0 rfl) ?_
                    refine lv_irem hx hb dX12_product_84 (bn_nz (by omega)) ?_
                    refine lv_topi (fun v_156 ev_156 => ?_)
                    refine lv_istore_n (lv' := [(1, .int v_156), (3, .int r_135), (0, .ref (h 0)), (2, .int y2_10)]) hx hb dX12_product_85 rfl hl (by decide) rfl (fun ls hl => ?_)
                    refine lv_aload_n hx hb dX12_product_86 rfl (lv_at hl 2 rfl) ?_
                    have q_158 : (f_132 0 14).toInt = v_22.toInt := (congrArg Int32.toInt (show f_132 0 14 = v_22 from ((hk_f_132 0 14 (by decide)).trans (by rw [ef_127, sg_up_s, sgu_n (by decide)]; exact ev_22.symm))))
                    refine sg_calli (va_runV (As := []) (rest := []) ⟨hx, hb, hml, hown, hts⟩ (kX12_byteAt l D ca za h hh f_132 L Q hI H.size) (sl_c12_byteAt_0_0_0_0_12 hts ⟨Nat.le_of_ble_eq_true rfl, Nat.le_of_ble_eq_true rfl⟩) (sl_vM_0 hA hK hP hS hZ) rfl rfl hl.1 rfl (lv_room (Nat.le_of_ble_eq_true rfl)) dX12_product_87 ⟨Nat.le_refl _, Nat.le_refl _⟩) hA hS (fun r_162 f_159 L_160 Q_161 H locs hq hP hS => ?_)
                    obtain ⟨⟨ef9, eL9, eQ9⟩, hq, p_163, u_164⟩ := hq
                    rw [ef9, eL9, eQ9] at hP; clear ef9 eL9 eQ9
                    refine lv_istore_n (lv' := [(2, .int r_162), (1, .int v_156), (3, .int r_135), (0, .ref (h 0))]) hx hb dX12_product_90 rfl hl (by decide) rfl (fun ls hl => ?_)
                    refine lv_goto (tgt := 10) hx hb dX12_product_91 (by decide) ?_
                    exact ih_10 v_156 r_162 f_132 _ _ _ (hs.trans ((if_neg c_152).trans (spl_e ev_156 (spl_e u_164 rfl)))) (by have zz0_13 : (f_132 0 13).toInt = v_140.toInt := (congrArg Int32.toInt (show f_132 0 13 = v_140 from ev_140.symm)); omega) ⟨by omega, by omega⟩ (by have zz0_13 : (f_132 0 13).toInt = v_140.toInt := (congrArg Int32.toInt (show f_132 0 13 = v_140 from ev_140.symm)); omega) (by have zz0_16 : (f_132 0 16).toInt = v_143.toInt := (congrArg Int32.toInt (show f_132 0 16 = v_143 from ev_143.symm)); omega) (by have zz0_15 : (f_132 0 15).toInt = v_146.toInt := (congrArg Int32.toInt (show f_132 0 15 = v_146 from ev_146.symm)); have zz0_16 : (f_132 0 16).toInt = v_143.toInt := (congrArg Int32.toInt (show f_132 0 16 = v_143 from ev_143.symm)); omega) (by have zz0_13 : (f_132 0 13).toInt = v_140.toInt := (congrArg Int32.toInt (show f_132 0 13 = v_140 from ev_140.symm)); have zz0_14 : (f_132 0 14).toInt = v_22.toInt := (congrArg Int32.toInt (show f_132 0 14 = v_22 from ((hk_f_132 0 14 (by decide)).trans (by rw [ef_127, sg_up_s, sgu_n (by decide)]; exact ev_22.symm)))); omega) hI hF hP hS (lv_sub hl [3, 1, 0] rfl)
                  · skip
                    exfalso; have c_155 : y2_10.toInt = 47 := (by first | exact (cm_eq1 ti_47 c) | (have z := Int32.toInt_inj.mpr c; have k1 : (47 : Int32).toInt = 47 := ti_47; omega)); first | exact absurd c_155 (by assumption) | omega
                · skip
                  have c_153 : r_135.toInt = 0 := (by first | exact (cm_eq1 ti_0 c) | (have z := Int32.toInt_inj.mpr c; have k1 : (0 : Int32).toInt = 0 := ti_0; omega))
                  refine lv_iconst (v := 0) hx hb dX12_product_66 ic_0 ?_
                  refine lv_goto (tgt := 85) hx hb dX12_product_67 (by decide) ?_
                  refine lv_istore_n (lv' := [(1, .int 0), (3, .int r_135), (0, .ref (h 0)), (2, .int y2_10)]) hx hb dX12_product_85 rfl hl (by decide) rfl (fun ls hl => ?_)
                  refine lv_aload_n hx hb dX12_product_86 rfl (lv_at hl 2 rfl) ?_
                  have q_166 : (f_132 0 14).toInt = v_22.toInt := (congrArg Int32.toInt (show f_132 0 14 = v_22 from ((hk_f_132 0 14 (by decide)).trans (by rw [ef_127, sg_up_s, sgu_n (by decide)]; exact ev_22.symm))))
                  refine sg_calli (va_runV (As := []) (rest := []) ⟨hx, hb, hml, hown, hts⟩ (kX12_byteAt l D ca za h hh f_132 L Q hI H.size) (sl_c12_byteAt_0_0_0_0_12 hts ⟨Nat.le_of_ble_eq_true rfl, Nat.le_of_ble_eq_true rfl⟩) (sl_vM_0 hA hK hP hS hZ) rfl rfl hl.1 rfl (lv_room (Nat.le_of_ble_eq_true rfl)) dX12_product_87 ⟨Nat.le_refl _, Nat.le_refl _⟩) hA hS (fun r_170 f_167 L_168 Q_169 H locs hq hP hS => ?_)
                  obtain ⟨⟨ef9, eL9, eQ9⟩, hq, p_171, u_172⟩ := hq
                  rw [ef9, eL9, eQ9] at hP; clear ef9 eL9 eQ9
                  refine lv_istore_n (lv' := [(2, .int r_170), (1, .int 0), (3, .int r_135), (0, .ref (h 0))]) hx hb dX12_product_90 rfl hl (by decide) rfl (fun ls hl => ?_)
                  refine lv_goto (tgt := 10) hx hb dX12_product_91 (by decide) ?_
                  exact ih_10 0 r_170 f_132 _ _ _ (hs.trans ((if_pos c_153).trans (spl_e u_172 rfl))) (by have kc0 : (0 : Int32).toInt = 0 := ti_0; have zz0_13 : (f_132 0 13).toInt = v_140.toInt := (congrArg Int32.toInt (show f_132 0 13 = v_140 from ev_140.symm)); omega) ⟨by omega, by omega⟩ (by have kc0 : (0 : Int32).toInt = 0 := ti_0; have zz0_13 : (f_132 0 13).toInt = v_140.toInt := (congrArg Int32.toInt (show f_132 0 13 = v_140 from ev_140.symm)); omega) (by have kc0 : (0 : Int32).toInt = 0 := ti_0; have zz0_16 : (f_132 0 16).toInt = v_143.toInt := (congrArg Int32.toInt (show f_132 0 16 = v_143 from ev_143.symm)); omega) (by have kc0 : (0 : Int32).toInt = 0 := ti_0; have zz0_15 : (f_132 0 15).toInt = v_146.toInt := (congrArg Int32.toInt (show f_132 0 15 = v_146 from ev_146.symm)); have zz0_16 : (f_132 0 16).toInt = v_143.toInt := (congrArg Int32.toInt (show f_132 0 16 = v_143 from ev_143.symm)); omega) (by have kc0 : (0 : Int32).toInt = 0 := ti_0; have zz0_13 : (f_132 0 13).toInt = v_140.toInt := (congrArg Int32.toInt (show f_132 0 13 = v_140 from ev_140.symm)); have zz0_14 : (f_132 0 14).toInt = v_22.toInt := (congrArg Int32.toInt (show f_132 0 14 = v_22 from ((hk_f_132 0 14 (by decide)).trans (by rw [ef_127, sg_up_s, sgu_n (by decide)]; exact ev_22.symm)))); omega) hI hF hP hS (lv_sub hl [3, 1, 0] rfl)
              · skip
                exfalso; have c_151 : y2_10.toInt = 42 := (by first | exact (cm_eq1 ti_42 c) | (have z := Int32.toInt_inj.mpr c; have k1 : (42 : Int32).toInt = 42 := ti_42; omega)); first | exact absurd c_151 (by assumption) | omega
  refine lv_aload_n hx hb dX12_product_0 rfl (lv_at hl 0 rfl) ?_
  have q_173 : (f 0 16).toInt = v_1.toInt := (congrArg Int32.toInt (show f 0 16 = v_1 from ev_1.symm))
  have q_174 : (f 0 15).toInt = v_3.toInt := (congrArg Int32.toInt (show f 0 15 = v_3 from ev_3.symm))
  have q_176 : (f 0 13).toInt = v_5.toInt := (congrArg Int32.toInt (show f 0 13 = v_5 from ev_5.symm))
  refine sg_calli (va_runV (As := []) (rest := []) ⟨hx, hb, hml, hown, hts⟩ (kX12_one_2 l D ca za h hh f L Q hI (by omega) (by omega) H.size) (sl_c12_one_25_0_0_568_12 hts ⟨Nat.le_of_ble_eq_true rfl, Nat.le_of_ble_eq_true rfl⟩) (sl_vM_0 hA hK hP hS hZ) rfl rfl hl.1 rfl (lv_room (Nat.le_of_ble_eq_true rfl)) dX12_product_1 ⟨Nat.le_refl _, Nat.le_refl _⟩) hA hS (fun r_180 f_177 L_178 Q_179 H locs hq hP hS => ?_)
  obtain ⟨⟨hI, hk_f_177, eL9, eQ9⟩, hq, p_181, p_182, p_183, u_184⟩ := hq
  rw [eL9, eQ9] at hP; clear eL9 eQ9
  have hF : sgK WkX12_product_2 f f_177 := sgK.tr hF hk_f_177 (by decide +kernel)
  obtain ⟨v_185, ev_185⟩ : ∃ z : Int32, z = f_177 0 13 := ⟨_, rfl⟩
  have q_186 : 0 ≤ v_185.toInt ∧ v_185.toInt ≤ 120 := by rw [ev_185]; exact hI 0 13
  have q_187 : (f_177 0 13).toInt = v_185.toInt := (congrArg Int32.toInt (show f_177 0 13 = v_185 from ev_185.symm))
  obtain ⟨v_188, ev_188⟩ : ∃ z : Int32, z = f_177 0 16 := ⟨_, rfl⟩
  have q_189 : 0 ≤ v_188.toInt ∧ v_188.toInt ≤ 6 := by rw [ev_188]; exact hI 0 16
  have q_190 : (f_177 0 16).toInt = v_188.toInt := (congrArg Int32.toInt (show f_177 0 16 = v_188 from ev_188.symm))
  obtain ⟨v_191, ev_191⟩ : ∃ z : Int32, z = f_177 0 15 := ⟨_, rfl⟩
  have q_192 : (-1) ≤ v_191.toInt ∧ v_191.toInt ≤ 120 := by rw [ev_191]; exact hI 0 15
  have q_193 : (f_177 0 15).toInt = v_191.toInt := (congrArg Int32.toInt (show f_177 0 15 = v_191 from ev_191.symm))
  refine lv_istore_n (lv' := [(1, .int r_180), (0, .ref (h 0))]) hx hb dX12_product_4 rfl hl (by decide) rfl (fun ls hl => ?_)
  refine lv_aload_n hx hb dX12_product_5 rfl (lv_at hl 1 rfl) ?_
  have q_196 : (f_177 0 14).toInt = v_7.toInt := (congrArg Int32.toInt (show f_177 0 14 = v_7 from ((hk_f_177 0 14 (by decide)).trans ev_7.symm)))
  refine sg_calli (va_runV (As := []) (rest := []) ⟨hx, hb, hml, hown, hts⟩ (kX12_byteAt l D ca za h hh f_177 L Q hI H.size) (sl_c12_byteAt_0_0_0_0_12 hts ⟨Nat.le_of_ble_eq_true rfl, Nat.le_of_ble_eq_true rfl⟩) (sl_vM_0 hA hK hP hS hZ) rfl rfl hl.1 rfl (lv_room (Nat.le_of_ble_eq_true rfl)) dX12_product_6 ⟨Nat.le_refl _, Nat.le_refl _⟩) hA hS (fun r_200 f_197 L_198 Q_199 H locs hq hP hS => ?_)
  obtain ⟨⟨ef9, eL9, eQ9⟩, hq, p_201, u_202⟩ := hq
  rw [ef9, eL9, eQ9] at hP; clear ef9 eL9 eQ9
  refine lv_istore_n (lv' := [(2, .int r_200), (1, .int r_180), (0, .ref (h 0))]) hx hb dX12_product_9 rfl hl (by decide) rfl (fun ls hl => ?_)
  exact loop_10 121 r_180 r_200 f_177 _ _ _ (hs.trans ((spl_e ev_1 (spl_e ev_3 (spl_e ev_5 (spl_e ev_7 (spl2_e u_184 (spl_e ev_185 (spl_e ev_188 (spl_e ev_191 (spl_e u_202 rfl))))))))))) (by have zz0_13 : (f_177 0 13).toInt = v_185.toInt := (congrArg Int32.toInt (show f_177 0 13 = v_185 from ev_185.symm)); omega) ⟨by omega, by omega⟩ (by have zz0_13 : (f_177 0 13).toInt = v_185.toInt := (congrArg Int32.toInt (show f_177 0 13 = v_185 from ev_185.symm)); omega) (by have zz0_16 : (f_177 0 16).toInt = v_188.toInt := (congrArg Int32.toInt (show f_177 0 16 = v_188 from ev_188.symm)); omega) (by have zz0_15 : (f_177 0 15).toInt = v_191.toInt := (congrArg Int32.toInt (show f_177 0 15 = v_191 from ev_191.symm)); have zz0_16 : (f_177 0 16).toInt = v_188.toInt := (congrArg Int32.toInt (show f_177 0 16 = v_188 from ev_188.symm)); omega) (by have zz0_13 : (f_177 0 13).toInt = v_185.toInt := (congrArg Int32.toInt (show f_177 0 13 = v_185 from ev_185.symm)); have zz0_14 : (f_177 0 14).toInt = v_7.toInt := (congrArg Int32.toInt (show f_177 0 14 = v_7 from ((hk_f_177 0 14 (by decide)).trans ev_7.symm))); omega) hI hF hP hS (lv_sub hl [2, 1, 0] rfl)

abbrev WkX12_sums_2 : List (Nat × Nat × Option Nat) := [(0, 0, some 13), (0, 0, some 15), (0, 0, some 16)]
set_option maxHeartbeats 4000000 in
set_option maxRecDepth 100000 in
theorem kX12_sums_2 (l : Launch) (D : va_G) (ca : Nat → ClassId) (za h : Nat → Nat) (hh : sgH 26 h) (f : sg_F) (L : sg_L) (Q : sg_Q) (hI : sgI loM hiM f) (p0 : 2 ≤ (f 0 16).toInt) (p1 : 0 ≤ (f 0 15).toInt ∨ (f 0 16).toInt = 2) (sz : Nat) : Met l yX12_sums gwX12_sums { frames := 27, cells := 0, slots := 0, locals := 615 } (sgP D vwCl (tyX ca) 26 h (eM ca h) zcM za f L Q sz [.ref (h 0)]) (sgQi D vwCl 26 h (eM ca h) sz (fun r f1 L1 Q1 => ((sgI loM hiM f1 ∧ sgK WkX12_sums_2 f f1 ∧ L1 = L ∧ Q1 = Q) ∧ True ∧ ((f 0 13).toInt ≤ (f1 0 13).toInt) ∧ (2 ≤ (f1 0 16).toInt) ∧ (0 ≤ (f1 0 15).toInt ∨ (f1 0 16).toInt = 2) ∧ (r, f1) = sX12_sums_2 f L))) 0 0 (sgA 26 h sz) := by
  refine sg_ofWi (cc := cX12_sums) (maxL := 4) RX12 (by decide) rfl rfl (Nat.le_of_ble_eq_true rfl) ?_
  intro p e s m below meth cd Qz ls hx hb hml hown hts hK hZ hP hS hl hret
  have hA := sgY.self (n := 26) (h := h) (sz := s.heap.size)
  have hl : lv_has ls 4 [(0, .ref (h 0))] := hl
  obtain ⟨H, hH⟩ : ∃ z : Heap, z = s.heap := ⟨_, rfl⟩
  obtain ⟨locs, hlo⟩ : ∃ z : List Loc, z = [] := ⟨_, rfl⟩
  have hP : va_P D vwCl (sgw 26 h (eM ca h) f L Q) H := by rw [hH]; exact hP
  have hS : va_S (sgA 26 h s.heap.size) s.heap H locs := by rw [hH, hlo]; exact hS
  suffices hgo : W p l e ({ frames := 27, cells := 0, slots := 0, locals := 615 }) s m ([.ref (h 0)] : List Value).toArray below meth cd H locs 0 0 Qz (F0 m 0 ls []) by rw [hH, hlo] at hgo; exact hgo
  clear hH hlo
  obtain ⟨sp, hsp⟩ : ∃ z : Int32 × sg_F, z = sX12_sums_2 f L := ⟨_, rfl⟩
  have hs : sp = sX12_sums_2 f L := hsp
  obtain ⟨v_1, ev_1⟩ : ∃ z : Int32, z = f 0 16 := ⟨_, rfl⟩
  have q_2 : 0 ≤ v_1.toInt ∧ v_1.toInt ≤ 6 := by rw [ev_1]; exact hI 0 16
  obtain ⟨v_3, ev_3⟩ : ∃ z : Int32, z = f 0 15 := ⟨_, rfl⟩
  have q_4 : (-1) ≤ v_3.toInt ∧ v_3.toInt ≤ 120 := by rw [ev_3]; exact hI 0 15
  obtain ⟨v_5, ev_5⟩ : ∃ z : Int32, z = f 0 13 := ⟨_, rfl⟩
  have q_6 : 0 ≤ v_5.toInt ∧ v_5.toInt ≤ 120 := by rw [ev_5]; exact hI 0 13
  have o_7 : (f 0 16).toInt = v_1.toInt := (congrArg Int32.toInt (show f 0 16 = v_1 from ev_1.symm))
  have o_8 : (f 0 15).toInt = v_3.toInt := (congrArg Int32.toInt (show f 0 15 = v_3 from ev_3.symm))
  have o_9 : (f 0 13).toInt = v_5.toInt := (congrArg Int32.toInt (show f 0 13 = v_5 from ev_5.symm))
  have hF : sgK WkX12_sums_2 f f := sgK.rf
  have loop_5 : ∀ (n_5 : Nat) (y1_5 : Int32) (fp_5 : sg_F) (H : Heap) (locs : List Loc) (ls : Array Slot), sp = sX12_sums_2_l5 n_5 y1_5 fp_5 L → 120 - (fp_5 0 13).toInt < (n_5 : Int) → (f 0 13).toInt ≤ (fp_5 0 13).toInt → 2 ≤ (fp_5 0 16).toInt → 0 ≤ (fp_5 0 15).toInt ∨ (fp_5 0 16).toInt = 2 → sgI loM hiM fp_5 → sgK WkX12_sums_2 f fp_5 → va_P D vwCl (sgw 26 h (eM ca h) fp_5 L Q) H → va_S (sgA 26 h s.heap.size) s.heap H locs → lv_has ls 4 [(0, .ref (h 0)), (1, .int y1_5)] → W p l e ({ frames := 27, cells := 0, slots := 0, locals := 615 }) s m ([.ref (h 0)] : List Value).toArray below meth cd H locs 0 0 Qz (F0 m 5 ls []) := by
    intro n_5
    induction n_5 with
    | zero => intro y1_5 fp_5 H locs ls hs hm_5 hg0_5 hg1_5 hg2_5 hI hF hP hS hl; have zb := (show 0 ≤ (fp_5 0 13).toInt ∧ (fp_5 0 13).toInt ≤ 120 from hI 0 13); exact absurd hm_5 (by omega)
    | succ n_5 ih_5 =>
      intro y1_5 fp_5 H locs ls hs hm_5 hg0_5 hg1_5 hg2_5 hI hF hP hS hl
      have hs : sp = sX12_sums_2_h5 (sX12_sums_2_l5 n_5) y1_5 fp_5 L := hs
      obtain ⟨v_10, ev_10⟩ : ∃ z : Int32, z = fp_5 0 13 := ⟨_, rfl⟩
      have q_11 : 0 ≤ v_10.toInt ∧ v_10.toInt ≤ 120 := by rw [ev_10]; exact hI 0 13
      have q_12 : (fp_5 0 13).toInt = v_10.toInt := by rw [ev_10]
      obtain ⟨v_13, ev_13⟩ : ∃ z : Int32, z = fp_5 0 16 := ⟨_, rfl⟩
      have q_14 : 0 ≤ v_13.toInt ∧ v_13.toInt ≤ 6 := by rw [ev_13]; exact hI 0 16
      have q_15 : (fp_5 0 16).toInt = v_13.toInt := by rw [ev_13]
      obtain ⟨v_16, ev_16⟩ : ∃ z : Int32, z = fp_5 0 15 := ⟨_, rfl⟩
      replace hs := hs.trans (spl_e ev_10 (spl_e ev_13 (spl_e ev_16 rfl)))
      have q_17 : (-1) ≤ v_16.toInt ∧ v_16.toInt ≤ 120 := by rw [ev_16]; exact hI 0 15
      have q_18 : (fp_5 0 15).toInt = v_16.toInt := by rw [ev_16]
      refine lv_aload_n hx hb dX12_sums_5 rfl (lv_at hl 0 rfl) ?_
      refine sl_gM_0_15_12 (v := v_16) hx hb hts hown hK hP (show fp_5 0 15 = v_16 from ev_16.symm) dX12_sums_6 ?_
      refine lv_if_ge (tgt := 77) hx hb dX12_sums_9 (by decide) (fun c => ?_) (fun c => ?_)
      · skip
        have c_19 : 0 ≤ v_16.toInt := (by first | exact (cm_le0 ti_0 c) | (have z := bn_le c; have k1 : (0 : Int32).toInt = 0 := ti_0; omega))
        refine lv_iload_n hx hb dX12_sums_77 rfl (lv_at hl 1 rfl) ?_
        exact hret _ _ _ _ (y1_5) fp_5 L Q dX12_sums_78 hP hS ⟨⟨hI, hF, rfl, rfl⟩, trivial, (by omega), (by omega), (by omega), (Eq.trans (Eq.symm (hs.trans ((if_neg (Int.not_lt.mpr c_19)).trans rfl))) hsp)⟩
      · skip
        have c_20 : v_16.toInt < 0 := (by first | exact (cm_nle0 ti_0 c) | (have z := bn_nle c; have k1 : (0 : Int32).toInt = 0 := ti_0; omega))
        refine lv_aload_n hx hb dX12_sums_12 rfl (lv_at hl 0 rfl) ?_
        obtain ⟨v_26, ev_26⟩ : ∃ z : Int32, z = fp_5 0 14 := ⟨_, rfl⟩
        have q_27 : 0 ≤ v_26.toInt ∧ v_26.toInt ≤ 120 := by rw [ev_26]; exact hI 0 14
        have q_28 : (fp_5 0 14).toInt = v_26.toInt := (congrArg Int32.toInt (show fp_5 0 14 = v_26 from ev_26.symm))
        refine sg_calli (va_runV (As := []) (rest := []) ⟨hx, hb, hml, hown, hts⟩ (kX12_byteAt l D ca za h hh fp_5 L Q hI H.size) (sl_c12_byteAt_0_0_0_0_12 hts ⟨Nat.le_of_ble_eq_true rfl, Nat.le_of_ble_eq_true rfl⟩) (sl_vM_0 hA hK hP hS hZ) rfl rfl hl.1 rfl (lv_room (Nat.le_of_ble_eq_true rfl)) dX12_sums_13 ⟨Nat.le_refl _, Nat.le_refl _⟩) hA hS (fun r_32 f_29 L_30 Q_31 H locs hq hP hS => ?_)
        obtain ⟨⟨ef9, eL9, eQ9⟩, hq, p_33, u_34⟩ := hq
        replace hs := hs.trans ((if_pos c_20).trans (spl_e ev_26 (spl_e u_34 rfl)))
        rw [ef9, eL9, eQ9] at hP; clear ef9 eL9 eQ9
        refine lv_bipush (v := 43) hx hb dX12_sums_16 bp_43 ?_
        refine lv_icmp_eq (tgt := 30) hx hb dX12_sums_18 (by decide) (fun c => ?_) (fun c => ?_)
        · skip
          have c_35 : r_32.toInt = 43 := (by first | exact (cm_eq1 ti_43 c) | (have z := Int32.toInt_inj.mpr c; have k1 : (43 : Int32).toInt = 43 := ti_43; omega))
          refine lv_aload_n hx hb dX12_sums_30 rfl (lv_at hl 0 rfl) ?_
          refine sg_calli (va_runV (As := []) (rest := []) ⟨hx, hb, hml, hown, hts⟩ (kX12_byteAt l D ca za h hh fp_5 L Q hI H.size) (sl_c12_byteAt_0_0_0_0_12 hts ⟨Nat.le_of_ble_eq_true rfl, Nat.le_of_ble_eq_true rfl⟩) (sl_vM_0 hA hK hP hS hZ) rfl rfl hl.1 rfl (lv_room (Nat.le_of_ble_eq_true rfl)) dX12_sums_31 ⟨Nat.le_refl _, Nat.le_refl _⟩) hA hS (fun r_42 f_39 L_40 Q_41 H locs hq hP hS => ?_)
          obtain ⟨⟨ef9, eL9, eQ9⟩, hq, p_43, u_44⟩ := hq
          rw [ef9, eL9, eQ9] at hP; clear ef9 eL9 eQ9
          rw [show r_42 = r_32 from u_44.trans u_34.symm]
          refine lv_bipush (v := 43) hx hb dX12_sums_34 bp_43 ?_
          refine lv_icmp_ne (tgt := 43) hx hb dX12_sums_36 (by decide) (fun c => ?_) (fun c => ?_)
          · skip
            exfalso; have c_45 : r_32.toInt ≠ 43 := (by first | exact (cm_ne1 ti_43 c) | (have z := bn_ne c; have k1 : (43 : Int32).toInt = 43 := ti_43; omega)); first | exact absurd (by assumption) c_45 | omega
          · skip
            have c_46 : r_32.toInt = 43 := (by first | exact (cm_eq1 ti_43 c) | (have z := Int32.toInt_inj.mpr c; have k1 : (43 : Int32).toInt = 43 := ti_43; omega))
            refine lv_iconst (v := 1) hx hb dX12_sums_39 ic_1 ?_
            refine lv_goto (tgt := 44) hx hb dX12_sums_40 (by decide) ?_
            refine lv_istore_n (lv' := [(2, .int 1), (0, .ref (h 0)), (1, .int y1_5)]) hx hb dX12_sums_44 rfl hl (by decide) rfl (fun ls hl => ?_)
            refine lv_aload_n hx hb dX12_sums_45 rfl (lv_at hl 1 rfl) ?_
            refine lv_dup hx hb dX12_sums_46 rfl ?_
            refine sl_gM_0_13_12 (v := v_10) hx hb hts hown hK hP (show fp_5 0 13 = v_10 from ev_10.symm) dX12_sums_47 ?_
            refine lv_iconst (v := 1) hx hb dX12_sums_50 ic_1 ?_
            refine lv_iadd hx hb dX12_sums_51 ?_
            refine lv_topi (fun v_47 ev_47 => ?_)
            have q_48 : v_47.toInt = v_10.toInt + 1 := by rw [ev_47]; first | exact cm_add ti_1 (by omega) (by omega) | (have k1 : (1 : Int32).toInt = 1 := ti_1; exact (bn_addI (by omega) (by omega)).trans (by omega))
            refine sl_pM_0_13_12 (x := v_47) hx hb hts hown hh hA hK hP hS dX12_sums_52 (fun f_49 H locs ef_49 hP hS => ?_)
            have hI : sgI loM hiM f_49 := by rw [ef_49]; exact sgI.put hI 0 13 (show 0 ≤ (v_47 : Int32).toInt ∧ (v_47 : Int32).toInt ≤ 120 from ⟨by omega, by omega⟩)
            have hF : sgK WkX12_sums_2 f f_49 := sgK.put hF ef_49 (by rfl)
            refine lv_aload_n hx hb dX12_sums_55 rfl (lv_at hl 1 rfl) ?_
            have q_50 : (f_49 0 16).toInt = v_13.toInt := (congrArg Int32.toInt (show f_49 0 16 = v_13 from (by rw [ef_49, sg_up_s, sgu_n (by decide)]; exact ev_13.symm)))
            have q_51 : (f_49 0 15).toInt = v_16.toInt := (congrArg Int32.toInt (show f_49 0 15 = v_16 from (by rw [ef_49, sg_up_s, sgu_n (by decide)]; exact ev_16.symm)))
            have q_53 : (f_49 0 13).toInt = v_47.toInt := (congrArg Int32.toInt (show f_49 0 13 = v_47 from (by rw [ef_49, sg_up_s, sgu_s])))
            refine sg_calli (va_runV (As := []) (rest := []) ⟨hx, hb, hml, hown, hts⟩ (kX12_product_2 l D ca za h hh f_49 L Q hI (by omega) (by omega) H.size) (sl_c12_product_26_0_0_592_12 hts ⟨Nat.le_of_ble_eq_true rfl, Nat.le_of_ble_eq_true rfl⟩) (sl_vM_0 hA hK hP hS hZ) rfl rfl hl.1 rfl (lv_room (Nat.le_of_ble_eq_true rfl)) dX12_sums_56 ⟨Nat.le_refl _, Nat.le_refl _⟩) hA hS (fun r_57 f_54 L_55 Q_56 H locs hq hP hS => ?_)
            obtain ⟨⟨hI, hk_f_54, eL9, eQ9⟩, hq, p_58, p_59, p_60, u_61⟩ := hq
            rw [eL9, eQ9] at hP; clear eL9 eQ9
            have hF : sgK WkX12_sums_2 f f_54 := sgK.tr hF hk_f_54 (by decide +kernel)
            obtain ⟨v_62, ev_62⟩ : ∃ z : Int32, z = f_54 0 13 := ⟨_, rfl⟩
            have q_63 : 0 ≤ v_62.toInt ∧ v_62.toInt ≤ 120 := by rw [ev_62]; exact hI 0 13
            have q_64 : (f_54 0 13).toInt = v_62.toInt := (congrArg Int32.toInt (show f_54 0 13 = v_62 from ev_62.symm))
            obtain ⟨v_65, ev_65⟩ : ∃ z : Int32, z = f_54 0 16 := ⟨_, rfl⟩
            have q_66 : 0 ≤ v_65.toInt ∧ v_65.toInt ≤ 6 := by rw [ev_65]; exact hI 0 16
            have q_67 : (f_54 0 16).toInt = v_65.toInt := (congrArg Int32.toInt (show f_54 0 16 = v_65 from ev_65.symm))
            obtain ⟨v_68, ev_68⟩ : ∃ z : Int32, z = f_54 0 15 := ⟨_, rfl⟩
            have q_69 : (-1) ≤ v_68.toInt ∧ v_68.toInt ≤ 120 := by rw [ev_68]; exact hI 0 15
            have q_70 : (f_54 0 15).toInt = v_68.toInt := (congrArg Int32.toInt (show f_54 0 15 = v_68 from ev_68.symm))
            refine lv_istore_n (lv' := [(3, .int r_57), (2, .int 1), (0, .ref (h 0)), (1, .int y1_5)]) hx hb dX12_sums_59 rfl hl (by decide) rfl (fun ls hl => ?_)
            refine lv_iload_n hx hb dX12_sums_60 rfl (lv_at hl 1 rfl) ?_
            refine lv_if_eq (tgt := 70) hx hb dX12_sums_61 (by decide) (fun c => absurd c (by decide)) (fun c => ?_)
            refine lv_iload_n hx hb dX12_sums_64 rfl (lv_at hl 3 rfl) ?_
            refine lv_iload_n hx hb dX12_sums_65 rfl (lv_at hl 0 rfl) ?_
            refine lv_iadd hx hb dX12_sums_66 ?_
            refine lv_topi (fun v_72 ev_72 => ?_)
            refine lv_goto (tgt := 73) hx hb dX12_sums_67 (by decide) ?_
            refine lv_istore_n (lv' := [(1, .int v_72), (3, .int r_57), (2, .int 1), (0, .ref (h 0))]) hx hb dX12_sums_73 rfl hl (by decide) rfl (fun ls hl => ?_)
            refine lv_goto (tgt := 5) hx hb dX12_sums_74 (by decide) ?_
            exact ih_5 v_72 f_54 _ _ _ (hs.trans ((if_pos c_35).trans (spl_e ev_47 (spl_e ef_49 (spl2_e u_61 (spl_e ev_62 (spl_e ev_65 (spl_e ev_68 (spl_e ev_72 rfl))))))))) (by have zz0_13 : (f_54 0 13).toInt = v_62.toInt := (congrArg Int32.toInt (show f_54 0 13 = v_62 from ev_62.symm)); omega) (by have zz0_13 : (f_54 0 13).toInt = v_62.toInt := (congrArg Int32.toInt (show f_54 0 13 = v_62 from ev_62.symm)); omega) (by have zz0_16 : (f_54 0 16).toInt = v_65.toInt := (congrArg Int32.toInt (show f_54 0 16 = v_65 from ev_65.symm)); omega) (by have zz0_15 : (f_54 0 15).toInt = v_68.toInt := (congrArg Int32.toInt (show f_54 0 15 = v_68 from ev_68.symm)); have zz0_16 : (f_54 0 16).toInt = v_65.toInt := (congrArg Int32.toInt (show f_54 0 16 = v_65 from ev_65.symm)); omega) hI hF hP hS (lv_sub hl [3, 0] rfl)
        · skip
          have c_36 : r_32.toInt ≠ 43 := (by first | exact (cm_ne1 ti_43 c) | (have z := bn_ne c; have k1 : (43 : Int32).toInt = 43 := ti_43; omega))
          replace hs := hs.trans ((if_neg c_36).trans rfl)
          refine lv_aload_n hx hb dX12_sums_21 rfl (lv_at hl 0 rfl) ?_
          refine sg_calli (va_runV (As := []) (rest := []) ⟨hx, hb, hml, hown, hts⟩ (kX12_byteAt l D ca za h hh fp_5 L Q hI H.size) (sl_c12_byteAt_0_0_0_0_12 hts ⟨Nat.le_of_ble_eq_true rfl, Nat.le_of_ble_eq_true rfl⟩) (sl_vM_0 hA hK hP hS hZ) rfl rfl hl.1 rfl (lv_room (Nat.le_of_ble_eq_true rfl)) dX12_sums_22 ⟨Nat.le_refl _, Nat.le_refl _⟩) hA hS (fun r_78 f_75 L_76 Q_77 H locs hq hP hS => ?_)
          obtain ⟨⟨ef9, eL9, eQ9⟩, hq, p_79, u_80⟩ := hq
          rw [ef9, eL9, eQ9] at hP; clear ef9 eL9 eQ9
          rw [show r_78 = r_32 from u_80.trans u_34.symm]
          refine lv_bipush (v := 45) hx hb dX12_sums_25 bp_45 ?_
          refine lv_icmp_ne (tgt := 77) hx hb dX12_sums_27 (by decide) (fun c => ?_) (fun c => ?_)
          · skip
            have c_81 : r_32.toInt ≠ 45 := (by first | exact (cm_ne1 ti_45 c) | (have z := bn_ne c; have k1 : (45 : Int32).toInt = 45 := ti_45; omega))
            refine lv_iload_n hx hb dX12_sums_77 rfl (lv_at hl 1 rfl) ?_
            exact hret _ _ _ _ (y1_5) fp_5 L Q dX12_sums_78 hP hS ⟨⟨hI, hF, rfl, rfl⟩, trivial, (by omega), (by omega), (by omega), (Eq.trans (Eq.symm (hs.trans ((if_neg c_81).trans rfl))) hsp)⟩
          · skip
            have c_82 : r_32.toInt = 45 := (by first | exact (cm_eq1 ti_45 c) | (have z := Int32.toInt_inj.mpr c; have k1 : (45 : Int32).toInt = 45 := ti_45; omega))
            refine lv_aload_n hx hb dX12_sums_30 rfl (lv_at hl 0 rfl) ?_
            refine sg_calli (va_runV (As := []) (rest := []) ⟨hx, hb, hml, hown, hts⟩ (kX12_byteAt l D ca za h hh fp_5 L Q hI H.size) (sl_c12_byteAt_0_0_0_0_12 hts ⟨Nat.le_of_ble_eq_true rfl, Nat.le_of_ble_eq_true rfl⟩) (sl_vM_0 hA hK hP hS hZ) rfl rfl hl.1 rfl (lv_room (Nat.le_of_ble_eq_true rfl)) dX12_sums_31 ⟨Nat.le_refl _, Nat.le_refl _⟩) hA hS (fun r_92 f_89 L_90 Q_91 H locs hq hP hS => ?_)
            obtain ⟨⟨ef9, eL9, eQ9⟩, hq, p_93, u_94⟩ := hq
            rw [ef9, eL9, eQ9] at hP; clear ef9 eL9 eQ9
            rw [show r_92 = r_32 from u_94.trans u_34.symm]
            refine lv_bipush (v := 43) hx hb dX12_sums_34 bp_43 ?_
            refine lv_icmp_ne (tgt := 43) hx hb dX12_sums_36 (by decide) (fun c => ?_) (fun c => ?_)
            · skip
              have c_95 : r_32.toInt ≠ 43 := (by first | exact (cm_ne1 ti_43 c) | (have z := bn_ne c; have k1 : (43 : Int32).toInt = 43 := ti_43; omega))
              refine lv_iconst (v := 0) hx hb dX12_sums_43 ic_0 ?_
              refine lv_istore_n (lv' := [(2, .int 0), (0, .ref (h 0)), (1, .int y1_5)]) hx hb dX12_sums_44 rfl hl (by decide) rfl (fun ls hl => ?_)
              refine lv_aload_n hx hb dX12_sums_45 rfl (lv_at hl 1 rfl) ?_
              refine lv_dup hx hb dX12_sums_46 rfl ?_
              refine sl_gM_0_13_12 (v := v_10) hx hb hts hown hK hP (show fp_5 0 13 = v_10 from ev_10.symm) dX12_sums_47 ?_
              refine lv_iconst (v := 1) hx hb dX12_sums_50 ic_1 ?_
              refine lv_iadd hx hb dX12_sums_51 ?_
              refine lv_topi (fun v_97 ev_97 => ?_)
              have q_98 : v_97.toInt = v_10.toInt + 1 := by rw [ev_97]; first | exact cm_add ti_1 (by omega) (by omega) | (have k1 : (1 : Int32).toInt = 1 := ti_1; exact (bn_addI (by omega) (by omega)).trans (by omega))
              refine sl_pM_0_13_12 (x := v_97) hx hb hts hown hh hA hK hP hS dX12_sums_52 (fun f_99 H locs ef_99 hP hS => ?_)
              have hI : sgI loM hiM f_99 := by rw [ef_99]; exact sgI.put hI 0 13 (show 0 ≤ (v_97 : Int32).toInt ∧ (v_97 : Int32).toInt ≤ 120 from ⟨by omega, by omega⟩)
              have hF : sgK WkX12_sums_2 f f_99 := sgK.put hF ef_99 (by rfl)
              refine lv_aload_n hx hb dX12_sums_55 rfl (lv_at hl 1 rfl) ?_
              have q_100 : (f_99 0 16).toInt = v_13.toInt := (congrArg Int32.toInt (show f_99 0 16 = v_13 from (by rw [ef_99, sg_up_s, sgu_n (by decide)]; exact ev_13.symm)))
              have q_101 : (f_99 0 15).toInt = v_16.toInt := (congrArg Int32.toInt (show f_99 0 15 = v_16 from (by rw [ef_99, sg_up_s, sgu_n (by decide)]; exact ev_16.symm)))
              have q_103 : (f_99 0 13).toInt = v_97.toInt := (congrArg Int32.toInt (show f_99 0 13 = v_97 from (by rw [ef_99, sg_up_s, sgu_s])))
              refine sg_calli (va_runV (As := []) (rest := []) ⟨hx, hb, hml, hown, hts⟩ (kX12_product_2 l D ca za h hh f_99 L Q hI (by omega) (by omega) H.size) (sl_c12_product_26_0_0_592_12 hts ⟨Nat.le_of_ble_eq_true rfl, Nat.le_of_ble_eq_true rfl⟩) (sl_vM_0 hA hK hP hS hZ) rfl rfl hl.1 rfl (lv_room (Nat.le_of_ble_eq_true rfl)) dX12_sums_56 ⟨Nat.le_refl _, Nat.le_refl _⟩) hA hS (fun r_107 f_104 L_105 Q_106 H locs hq hP hS => ?_)
              obtain ⟨⟨hI, hk_f_104, eL9, eQ9⟩, hq, p_108, p_109, p_110, u_111⟩ := hq
              rw [eL9, eQ9] at hP; clear eL9 eQ9
              have hF : sgK WkX12_sums_2 f f_104 := sgK.tr hF hk_f_104 (by decide +kernel)
              obtain ⟨v_112, ev_112⟩ : ∃ z : Int32, z = f_104 0 13 := ⟨_, rfl⟩
              have q_113 : 0 ≤ v_112.toInt ∧ v_112.toInt ≤ 120 := by rw [ev_112]; exact hI 0 13
              have q_114 : (f_104 0 13).toInt = v_112.toInt := (congrArg Int32.toInt (show f_104 0 13 = v_112 from ev_112.symm))
              obtain ⟨v_115, ev_115⟩ : ∃ z : Int32, z = f_104 0 16 := ⟨_, rfl⟩
              have q_116 : 0 ≤ v_115.toInt ∧ v_115.toInt ≤ 6 := by rw [ev_115]; exact hI 0 16
              have q_117 : (f_104 0 16).toInt = v_115.toInt := (congrArg Int32.toInt (show f_104 0 16 = v_115 from ev_115.symm))
              obtain ⟨v_118, ev_118⟩ : ∃ z : Int32, z = f_104 0 15 := ⟨_, rfl⟩
              have q_119 : (-1) ≤ v_118.toInt ∧ v_118.toInt ≤ 120 := by rw [ev_118]; exact hI 0 15
              have q_120 : (f_104 0 15).toInt = v_118.toInt := (congrArg Int32.toInt (show f_104 0 15 = v_118 from ev_118.symm))
              refine lv_istore_n (lv' := [(3, .int r_107), (2, .int 0), (0, .ref (h 0)), (1, .int y1_5)]) hx hb dX12_sums_59 rfl hl (by decide) rfl (fun ls hl => ?_)
              refine lv_iload_n hx hb dX12_sums_60 rfl (lv_at hl 1 rfl) ?_
              refine lv_if_eq (tgt := 70) hx hb dX12_sums_61 (by decide) (fun c => ?_) (fun c => absurd c (by decide))
              refine lv_iload_n hx hb dX12_sums_70 rfl (lv_at hl 3 rfl) ?_
              refine lv_iload_n hx hb dX12_sums_71 rfl (lv_at hl 0 rfl) ?_
              refine lv_isub hx hb dX12_sums_72 ?_
              refine lv_topi (fun v_122 ev_122 => ?_)
              refine lv_istore_n (lv' := [(1, .int v_122), (3, .int r_107), (2, .int 0), (0, .ref (h 0))]) hx hb dX12_sums_73 rfl hl (by decide) rfl (fun ls hl => ?_)
              refine lv_goto (tgt := 5) hx hb dX12_sums_74 (by decide) ?_
              exact ih_5 v_122 f_104 _ _ _ (hs.trans ((if_pos c_82).trans (spl_e ev_97 (spl_e ef_99 (spl2_e u_111 (spl_e ev_112 (spl_e ev_115 (spl_e ev_118 (spl_e ev_122 rfl))))))))) (by have zz0_13 : (f_104 0 13).toInt = v_112.toInt := (congrArg Int32.toInt (show f_104 0 13 = v_112 from ev_112.symm)); omega) (by have zz0_13 : (f_104 0 13).toInt = v_112.toInt := (congrArg Int32.toInt (show f_104 0 13 = v_112 from ev_112.symm)); omega) (by have zz0_16 : (f_104 0 16).toInt = v_115.toInt := (congrArg Int32.toInt (show f_104 0 16 = v_115 from ev_115.symm)); omega) (by have zz0_15 : (f_104 0 15).toInt = v_118.toInt := (congrArg Int32.toInt (show f_104 0 15 = v_118 from ev_118.symm)); have zz0_16 : (f_104 0 16).toInt = v_115.toInt := (congrArg Int32.toInt (show f_104 0 16 = v_115 from ev_115.symm)); omega) hI hF hP hS (lv_sub hl [3, 0] rfl)
            · skip
              exfalso; have c_96 : r_32.toInt = 43 := (by first | exact (cm_eq1 ti_43 c) | (have z := Int32.toInt_inj.mpr c; have k1 : (43 : Int32).toInt = 43 := ti_43; omega)); first | exact absurd c_96 (by assumption) | omega
  refine lv_aload_n hx hb dX12_sums_0 rfl (lv_at hl 0 rfl) ?_
  have q_123 : (f 0 16).toInt = v_1.toInt := (congrArg Int32.toInt (show f 0 16 = v_1 from ev_1.symm))
  have q_124 : (f 0 15).toInt = v_3.toInt := (congrArg Int32.toInt (show f 0 15 = v_3 from ev_3.symm))
  have q_126 : (f 0 13).toInt = v_5.toInt := (congrArg Int32.toInt (show f 0 13 = v_5 from ev_5.symm))
  refine sg_calli (va_runV (As := []) (rest := []) ⟨hx, hb, hml, hown, hts⟩ (kX12_product_2 l D ca za h hh f L Q hI (by omega) (by omega) H.size) (sl_c12_product_26_0_0_592_12 hts ⟨Nat.le_of_ble_eq_true rfl, Nat.le_of_ble_eq_true rfl⟩) (sl_vM_0 hA hK hP hS hZ) rfl rfl hl.1 rfl (lv_room (Nat.le_of_ble_eq_true rfl)) dX12_sums_1 ⟨Nat.le_refl _, Nat.le_refl _⟩) hA hS (fun r_130 f_127 L_128 Q_129 H locs hq hP hS => ?_)
  obtain ⟨⟨hI, hk_f_127, eL9, eQ9⟩, hq, p_131, p_132, p_133, u_134⟩ := hq
  rw [eL9, eQ9] at hP; clear eL9 eQ9
  have hF : sgK WkX12_sums_2 f f_127 := sgK.tr hF hk_f_127 (by decide +kernel)
  obtain ⟨v_135, ev_135⟩ : ∃ z : Int32, z = f_127 0 13 := ⟨_, rfl⟩
  have q_136 : 0 ≤ v_135.toInt ∧ v_135.toInt ≤ 120 := by rw [ev_135]; exact hI 0 13
  have q_137 : (f_127 0 13).toInt = v_135.toInt := (congrArg Int32.toInt (show f_127 0 13 = v_135 from ev_135.symm))
  obtain ⟨v_138, ev_138⟩ : ∃ z : Int32, z = f_127 0 16 := ⟨_, rfl⟩
  have q_139 : 0 ≤ v_138.toInt ∧ v_138.toInt ≤ 6 := by rw [ev_138]; exact hI 0 16
  have q_140 : (f_127 0 16).toInt = v_138.toInt := (congrArg Int32.toInt (show f_127 0 16 = v_138 from ev_138.symm))
  obtain ⟨v_141, ev_141⟩ : ∃ z : Int32, z = f_127 0 15 := ⟨_, rfl⟩
  have q_142 : (-1) ≤ v_141.toInt ∧ v_141.toInt ≤ 120 := by rw [ev_141]; exact hI 0 15
  have q_143 : (f_127 0 15).toInt = v_141.toInt := (congrArg Int32.toInt (show f_127 0 15 = v_141 from ev_141.symm))
  refine lv_istore_n (lv' := [(1, .int r_130), (0, .ref (h 0))]) hx hb dX12_sums_4 rfl hl (by decide) rfl (fun ls hl => ?_)
  exact loop_5 121 r_130 f_127 _ _ _ (hs.trans ((spl_e ev_1 (spl_e ev_3 (spl_e ev_5 (spl2_e u_134 (spl_e ev_135 (spl_e ev_138 (spl_e ev_141 rfl))))))))) (by have zz0_13 : (f_127 0 13).toInt = v_135.toInt := (congrArg Int32.toInt (show f_127 0 13 = v_135 from ev_135.symm)); omega) (by have zz0_13 : (f_127 0 13).toInt = v_135.toInt := (congrArg Int32.toInt (show f_127 0 13 = v_135 from ev_135.symm)); omega) (by have zz0_16 : (f_127 0 16).toInt = v_138.toInt := (congrArg Int32.toInt (show f_127 0 16 = v_138 from ev_138.symm)); omega) (by have zz0_15 : (f_127 0 15).toInt = v_141.toInt := (congrArg Int32.toInt (show f_127 0 15 = v_141 from ev_141.symm)); have zz0_16 : (f_127 0 16).toInt = v_138.toInt := (congrArg Int32.toInt (show f_127 0 16 = v_138 from ev_138.symm)); omega) hI hF hP hS (lv_sub hl [1, 0] rfl)

abbrev WkX12_compared_2 : List (Nat × Nat × Option Nat) := [(0, 0, some 13), (0, 0, some 15), (0, 0, some 16)]
set_option maxHeartbeats 4000000 in
set_option maxRecDepth 100000 in
theorem kX12_compared_2 (l : Launch) (D : va_G) (ca : Nat → ClassId) (za h : Nat → Nat) (hh : sgH 26 h) (f : sg_F) (L : sg_L) (Q : sg_Q) (hI : sgI loM hiM f) (p0 : 2 ≤ (f 0 16).toInt) (p1 : 0 ≤ (f 0 15).toInt ∨ (f 0 16).toInt = 2) (sz : Nat) : Met l yX12_compared gwX12_compared { frames := 28, cells := 0, slots := 0, locals := 638 } (sgP D vwCl (tyX ca) 26 h (eM ca h) zcM za f L Q sz [.ref (h 0)]) (sgQi D vwCl 26 h (eM ca h) sz (fun r f1 L1 Q1 => ((sgI loM hiM f1 ∧ sgK WkX12_compared_2 f f1 ∧ L1 = L ∧ Q1 = Q) ∧ True ∧ ((f 0 13).toInt ≤ (f1 0 13).toInt) ∧ (2 ≤ (f1 0 16).toInt) ∧ (0 ≤ (f1 0 15).toInt ∨ (f1 0 16).toInt = 2) ∧ (r, f1) = sX12_compared_2 f L))) 0 0 (sgA 26 h sz) := by
  refine sg_ofWi (cc := cX12_compared) (maxL := 4) RX12 (by decide) rfl rfl (Nat.le_of_ble_eq_true rfl) ?_
  intro p e s m below meth cd Qz ls hx hb hml hown hts hK hZ hP hS hl hret
  have hA := sgY.self (n := 26) (h := h) (sz := s.heap.size)
  have hl : lv_has ls 4 [(0, .ref (h 0))] := hl
  obtain ⟨H, hH⟩ : ∃ z : Heap, z = s.heap := ⟨_, rfl⟩
  obtain ⟨locs, hlo⟩ : ∃ z : List Loc, z = [] := ⟨_, rfl⟩
  have hP : va_P D vwCl (sgw 26 h (eM ca h) f L Q) H := by rw [hH]; exact hP
  have hS : va_S (sgA 26 h s.heap.size) s.heap H locs := by rw [hH, hlo]; exact hS
  suffices hgo : W p l e ({ frames := 28, cells := 0, slots := 0, locals := 638 }) s m ([.ref (h 0)] : List Value).toArray below meth cd H locs 0 0 Qz (F0 m 0 ls []) by rw [hH, hlo] at hgo; exact hgo
  clear hH hlo
  obtain ⟨sp, hsp⟩ : ∃ z : Int32 × sg_F, z = sX12_compared_2 f L := ⟨_, rfl⟩
  have hs : sp = sX12_compared_2 f L := hsp
  obtain ⟨v_1, ev_1⟩ : ∃ z : Int32, z = f 0 16 := ⟨_, rfl⟩
  have q_2 : 0 ≤ v_1.toInt ∧ v_1.toInt ≤ 6 := by rw [ev_1]; exact hI 0 16
  obtain ⟨v_3, ev_3⟩ : ∃ z : Int32, z = f 0 15 := ⟨_, rfl⟩
  have q_4 : (-1) ≤ v_3.toInt ∧ v_3.toInt ≤ 120 := by rw [ev_3]; exact hI 0 15
  obtain ⟨v_5, ev_5⟩ : ∃ z : Int32, z = f 0 13 := ⟨_, rfl⟩
  have q_6 : 0 ≤ v_5.toInt ∧ v_5.toInt ≤ 120 := by rw [ev_5]; exact hI 0 13
  have o_7 : (f 0 16).toInt = v_1.toInt := (congrArg Int32.toInt (show f 0 16 = v_1 from ev_1.symm))
  have o_8 : (f 0 15).toInt = v_3.toInt := (congrArg Int32.toInt (show f 0 15 = v_3 from ev_3.symm))
  have o_9 : (f 0 13).toInt = v_5.toInt := (congrArg Int32.toInt (show f 0 13 = v_5 from ev_5.symm))
  have hF : sgK WkX12_compared_2 f f := sgK.rf
  refine lv_aload_n hx hb dX12_compared_0 rfl (lv_at hl 0 rfl) ?_
  have q_10 : (f 0 16).toInt = v_1.toInt := (congrArg Int32.toInt (show f 0 16 = v_1 from ev_1.symm))
  have q_11 : (f 0 15).toInt = v_3.toInt := (congrArg Int32.toInt (show f 0 15 = v_3 from ev_3.symm))
  have q_13 : (f 0 13).toInt = v_5.toInt := (congrArg Int32.toInt (show f 0 13 = v_5 from ev_5.symm))
  refine sg_calli (va_runV (As := []) (rest := []) ⟨hx, hb, hml, hown, hts⟩ (kX12_sums_2 l D ca za h hh f L Q hI (by omega) (by omega) H.size) (sl_c12_sums_27_0_0_615_12 hts ⟨Nat.le_of_ble_eq_true rfl, Nat.le_of_ble_eq_true rfl⟩) (sl_vM_0 hA hK hP hS hZ) rfl rfl hl.1 rfl (lv_room (Nat.le_of_ble_eq_true rfl)) dX12_compared_1 ⟨Nat.le_refl _, Nat.le_refl _⟩) hA hS (fun r_17 f_14 L_15 Q_16 H locs hq hP hS => ?_)
  obtain ⟨⟨hI, hk_f_14, eL9, eQ9⟩, hq, p_18, p_19, p_20, u_21⟩ := hq
  rw [eL9, eQ9] at hP; clear eL9 eQ9
  have hF : sgK WkX12_compared_2 f f_14 := sgK.tr hF hk_f_14 (by decide +kernel)
  obtain ⟨v_22, ev_22⟩ : ∃ z : Int32, z = f_14 0 13 := ⟨_, rfl⟩
  have q_23 : 0 ≤ v_22.toInt ∧ v_22.toInt ≤ 120 := by rw [ev_22]; exact hI 0 13
  have q_24 : (f_14 0 13).toInt = v_22.toInt := (congrArg Int32.toInt (show f_14 0 13 = v_22 from ev_22.symm))
  obtain ⟨v_25, ev_25⟩ : ∃ z : Int32, z = f_14 0 16 := ⟨_, rfl⟩
  have q_26 : 0 ≤ v_25.toInt ∧ v_25.toInt ≤ 6 := by rw [ev_25]; exact hI 0 16
  have q_27 : (f_14 0 16).toInt = v_25.toInt := (congrArg Int32.toInt (show f_14 0 16 = v_25 from ev_25.symm))
  obtain ⟨v_28, ev_28⟩ : ∃ z : Int32, z = f_14 0 15 := ⟨_, rfl⟩
  have q_29 : (-1) ≤ v_28.toInt ∧ v_28.toInt ≤ 120 := by rw [ev_28]; exact hI 0 15
  have q_30 : (f_14 0 15).toInt = v_28.toInt := (congrArg Int32.toInt (show f_14 0 15 = v_28 from ev_28.symm))
  refine lv_istore_n (lv' := [(1, .int r_17), (0, .ref (h 0))]) hx hb dX12_compared_4 rfl hl (by decide) rfl (fun ls hl => ?_)
  refine lv_aload_n hx hb dX12_compared_5 rfl (lv_at hl 1 rfl) ?_
  obtain ⟨v_33, ev_33⟩ : ∃ z : Int32, z = f_14 0 14 := ⟨_, rfl⟩
  have q_34 : 0 ≤ v_33.toInt ∧ v_33.toInt ≤ 120 := by rw [ev_33]; exact hI 0 14
  have q_35 : (f_14 0 14).toInt = v_33.toInt := (congrArg Int32.toInt (show f_14 0 14 = v_33 from ev_33.symm))
  refine sg_calli (va_runV (As := []) (rest := []) ⟨hx, hb, hml, hown, hts⟩ (kX12_byteAt l D ca za h hh f_14 L Q hI H.size) (sl_c12_byteAt_0_0_0_0_12 hts ⟨Nat.le_of_ble_eq_true rfl, Nat.le_of_ble_eq_true rfl⟩) (sl_vM_0 hA hK hP hS hZ) rfl rfl hl.1 rfl (lv_room (Nat.le_of_ble_eq_true rfl)) dX12_compared_6 ⟨Nat.le_refl _, Nat.le_refl _⟩) hA hS (fun r_39 f_36 L_37 Q_38 H locs hq hP hS => ?_)
  obtain ⟨⟨ef9, eL9, eQ9⟩, hq, p_40, u_41⟩ := hq
  replace hs := hs.trans (spl_e ev_1 (spl_e ev_3 (spl_e ev_5 (spl2_e u_21 (spl_e ev_22 (spl_e ev_25 (spl_e ev_28 (spl_e ev_33 (spl_e u_41 rfl)))))))))
  rw [ef9, eL9, eQ9] at hP; clear ef9 eL9 eQ9
  refine lv_istore_n (lv' := [(2, .int r_39), (1, .int r_17), (0, .ref (h 0))]) hx hb dX12_compared_9 rfl hl (by decide) rfl (fun ls hl => ?_)
  refine lv_aload_n hx hb dX12_compared_10 rfl (lv_at hl 2 rfl) ?_
  refine sl_gM_0_15_12 (v := v_28) hx hb hts hown hK hP (show f_14 0 15 = v_28 from ev_28.symm) dX12_compared_11 ?_
  refine lv_if_ge (tgt := 35) hx hb dX12_compared_14 (by decide) (fun c => ?_) (fun c => ?_)
  · skip
    have c_42 : 0 ≤ v_28.toInt := (by first | exact (cm_le0 ti_0 c) | (have z := bn_le c; have k1 : (0 : Int32).toInt = 0 := ti_0; omega))
    refine lv_iload_n hx hb dX12_compared_35 rfl (lv_at hl 1 rfl) ?_
    exact hret _ _ _ _ (r_17) f_14 L Q dX12_compared_36 hP hS ⟨⟨hI, hF, rfl, rfl⟩, trivial, (by omega), (by omega), (by omega), (Eq.trans (Eq.symm (hs.trans ((if_neg (Int.not_lt.mpr c_42)).trans rfl))) hsp)⟩
  · skip
    have c_43 : v_28.toInt < 0 := (by first | exact (cm_nle0 ti_0 c) | (have z := bn_nle c; have k1 : (0 : Int32).toInt = 0 := ti_0; omega))
    replace hs := hs.trans ((if_pos c_43).trans rfl)
    refine lv_iload_n hx hb dX12_compared_17 rfl (lv_at hl 0 rfl) ?_
    refine lv_bipush (v := 60) hx hb dX12_compared_18 bp_60 ?_
    refine lv_icmp_eq (tgt := 37) hx hb dX12_compared_20 (by decide) (fun c => ?_) (fun c => ?_)
    · skip
      have c_48 : r_39.toInt = 60 := (by first | exact (cm_eq1 ti_60 c) | (have z := Int32.toInt_inj.mpr c; have k1 : (60 : Int32).toInt = 60 := ti_60; omega))
      refine lv_aload_n hx hb dX12_compared_37 rfl (lv_at hl 2 rfl) ?_
      refine lv_dup hx hb dX12_compared_38 rfl ?_
      refine sl_gM_0_13_12 (v := v_22) hx hb hts hown hK hP (show f_14 0 13 = v_22 from ev_22.symm) dX12_compared_39 ?_
      refine lv_iconst (v := 1) hx hb dX12_compared_42 ic_1 ?_
      refine lv_iadd hx hb dX12_compared_43 ?_
      refine lv_topi (fun v_50 ev_50 => ?_)
      have q_51 : v_50.toInt = v_22.toInt + 1 := by rw [ev_50]; first | exact cm_add ti_1 (by omega) (by omega) | (have k1 : (1 : Int32).toInt = 1 := ti_1; exact (bn_addI (by omega) (by omega)).trans (by omega))
      refine sl_pM_0_13_12 (x := v_50) hx hb hts hown hh hA hK hP hS dX12_compared_44 (fun f_52 H locs ef_52 hP hS => ?_)
      have hI : sgI loM hiM f_52 := by rw [ef_52]; exact sgI.put hI 0 13 (show 0 ≤ (v_50 : Int32).toInt ∧ (v_50 : Int32).toInt ≤ 120 from ⟨by omega, by omega⟩)
      have hF : sgK WkX12_compared_2 f f_52 := sgK.put hF ef_52 (by rfl)
      refine lv_aload_n hx hb dX12_compared_47 rfl (lv_at hl 2 rfl) ?_
      have q_53 : (f_52 0 16).toInt = v_25.toInt := (congrArg Int32.toInt (show f_52 0 16 = v_25 from (by rw [ef_52, sg_up_s, sgu_n (by decide)]; exact ev_25.symm)))
      have q_54 : (f_52 0 15).toInt = v_28.toInt := (congrArg Int32.toInt (show f_52 0 15 = v_28 from (by rw [ef_52, sg_up_s, sgu_n (by decide)]; exact ev_28.symm)))
      have q_56 : (f_52 0 13).toInt = v_50.toInt := (congrArg Int32.toInt (show f_52 0 13 = v_50 from (by rw [ef_52, sg_up_s, sgu_s])))
      refine sg_calli (va_runV (As := []) (rest := []) ⟨hx, hb, hml, hown, hts⟩ (kX12_sums_2 l D ca za h hh f_52 L Q hI (by omega) (by omega) H.size) (sl_c12_sums_27_0_0_615_12 hts ⟨Nat.le_of_ble_eq_true rfl, Nat.le_of_ble_eq_true rfl⟩) (sl_vM_0 hA hK hP hS hZ) rfl rfl hl.1 rfl (lv_room (Nat.le_of_ble_eq_true rfl)) dX12_compared_48 ⟨Nat.le_refl _, Nat.le_refl _⟩) hA hS (fun r_60 f_57 L_58 Q_59 H locs hq hP hS => ?_)
      obtain ⟨⟨hI, hk_f_57, eL9, eQ9⟩, hq, p_61, p_62, p_63, u_64⟩ := hq
      rw [eL9, eQ9] at hP; clear eL9 eQ9
      have hF : sgK WkX12_compared_2 f f_57 := sgK.tr hF hk_f_57 (by decide +kernel)
      obtain ⟨v_65, ev_65⟩ : ∃ z : Int32, z = f_57 0 13 := ⟨_, rfl⟩
      have q_66 : 0 ≤ v_65.toInt ∧ v_65.toInt ≤ 120 := by rw [ev_65]; exact hI 0 13
      have q_67 : (f_57 0 13).toInt = v_65.toInt := (congrArg Int32.toInt (show f_57 0 13 = v_65 from ev_65.symm))
      obtain ⟨v_68, ev_68⟩ : ∃ z : Int32, z = f_57 0 16 := ⟨_, rfl⟩
      have q_69 : 0 ≤ v_68.toInt ∧ v_68.toInt ≤ 6 := by rw [ev_68]; exact hI 0 16
      have q_70 : (f_57 0 16).toInt = v_68.toInt := (congrArg Int32.toInt (show f_57 0 16 = v_68 from ev_68.symm))
      obtain ⟨v_71, ev_71⟩ : ∃ z : Int32, z = f_57 0 15 := ⟨_, rfl⟩
      replace hs := hs.trans ((if_pos c_48).trans (spl_e ev_50 (spl_e ef_52 (spl2_e u_64 (spl_e ev_65 (spl_e ev_68 (spl_e ev_71 rfl)))))))
      have q_72 : (-1) ≤ v_71.toInt ∧ v_71.toInt ≤ 120 := by rw [ev_71]; exact hI 0 15
      have q_73 : (f_57 0 15).toInt = v_71.toInt := (congrArg Int32.toInt (show f_57 0 15 = v_71 from ev_71.symm))
      refine lv_istore_n (lv' := [(3, .int r_60), (2, .int r_39), (1, .int r_17), (0, .ref (h 0))]) hx hb dX12_compared_51 rfl hl (by decide) rfl (fun ls hl => ?_)
      refine lv_iload_n hx hb dX12_compared_52 rfl (lv_at hl 1 rfl) ?_
      refine lv_bipush (v := 60) hx hb dX12_compared_53 bp_60 ?_
      refine lv_icmp_ne (tgt := 66) hx hb dX12_compared_55 (by decide) (fun c => ?_) (fun c => ?_)
      · skip
        exfalso; have c_75 : r_39.toInt ≠ 60 := (by first | exact (cm_ne1 ti_60 c) | (have z := bn_ne c; have k1 : (60 : Int32).toInt = 60 := ti_60; omega)); first | exact absurd (by assumption) c_75 | omega
      · skip
        have c_76 : r_39.toInt = 60 := (by first | exact (cm_eq1 ti_60 c) | (have z := Int32.toInt_inj.mpr c; have k1 : (60 : Int32).toInt = 60 := ti_60; omega))
        refine lv_iload_n hx hb dX12_compared_58 rfl (lv_at hl 2 rfl) ?_
        refine lv_iload_n hx hb dX12_compared_59 rfl (lv_at hl 0 rfl) ?_
        refine lv_icmp_ge (tgt := 89) hx hb dX12_compared_60 (by decide) (fun c => ?_) (fun c => ?_)
        · skip
          have c_77 : r_60.toInt ≤ r_17.toInt := (by first | exact (bn_le c) | (have z := bn_le c; omega))
          refine lv_iconst (v := 0) hx hb dX12_compared_89 ic_0 ?_
          have k99 : (0 : Int32).toInt = 0 := ti_0
          exact hret _ _ _ _ (0) f_57 L Q dX12_compared_90 hP hS ⟨⟨hI, hF, rfl, rfl⟩, trivial, (by omega), (by omega), (by omega), (Eq.trans (Eq.symm (hs.trans ((if_neg (Int.not_lt.mpr c_77)).trans rfl))) hsp)⟩
        · skip
          have c_78 : r_17.toInt < r_60.toInt := (by first | exact (bn_nle c) | (have z := bn_nle c; omega))
          refine lv_goto (tgt := 85) hx hb dX12_compared_63 (by decide) ?_
          refine lv_iconst (v := 1) hx hb dX12_compared_85 ic_1 ?_
          refine lv_goto (tgt := 90) hx hb dX12_compared_86 (by decide) ?_
          have k99 : (1 : Int32).toInt = 1 := ti_1
          exact hret _ _ _ _ (1) f_57 L Q dX12_compared_90 hP hS ⟨⟨hI, hF, rfl, rfl⟩, trivial, (by omega), (by omega), (by omega), (Eq.trans (Eq.symm (hs.trans ((if_pos c_78).trans rfl))) hsp)⟩
    · skip
      have c_49 : r_39.toInt ≠ 60 := (by first | exact (cm_ne1 ti_60 c) | (have z := bn_ne c; have k1 : (60 : Int32).toInt = 60 := ti_60; omega))
      replace hs := hs.trans ((if_neg c_49).trans rfl)
      refine lv_iload_n hx hb dX12_compared_23 rfl (lv_at hl 0 rfl) ?_
      refine lv_bipush (v := 61) hx hb dX12_compared_24 bp_61 ?_
      refine lv_icmp_eq (tgt := 37) hx hb dX12_compared_26 (by decide) (fun c => ?_) (fun c => ?_)
      · skip
        have c_87 : r_39.toInt = 61 := (by first | exact (cm_eq1 ti_61 c) | (have z := Int32.toInt_inj.mpr c; have k1 : (61 : Int32).toInt = 61 := ti_61; omega))
        refine lv_aload_n hx hb dX12_compared_37 rfl (lv_at hl 2 rfl) ?_
        refine lv_dup hx hb dX12_compared_38 rfl ?_
        refine sl_gM_0_13_12 (v := v_22) hx hb hts hown hK hP (show f_14 0 13 = v_22 from ev_22.symm) dX12_compared_39 ?_
        refine lv_iconst (v := 1) hx hb dX12_compared_42 ic_1 ?_
        refine lv_iadd hx hb dX12_compared_43 ?_
        refine lv_topi (fun v_89 ev_89 => ?_)
        have q_90 : v_89.toInt = v_22.toInt + 1 := by rw [ev_89]; first | exact cm_add ti_1 (by omega) (by omega) | (have k1 : (1 : Int32).toInt = 1 := ti_1; exact (bn_addI (by omega) (by omega)).trans (by omega))
        refine sl_pM_0_13_12 (x := v_89) hx hb hts hown hh hA hK hP hS dX12_compared_44 (fun f_91 H locs ef_91 hP hS => ?_)
        have hI : sgI loM hiM f_91 := by rw [ef_91]; exact sgI.put hI 0 13 (show 0 ≤ (v_89 : Int32).toInt ∧ (v_89 : Int32).toInt ≤ 120 from ⟨by omega, by omega⟩)
        have hF : sgK WkX12_compared_2 f f_91 := sgK.put hF ef_91 (by rfl)
        refine lv_aload_n hx hb dX12_compared_47 rfl (lv_at hl 2 rfl) ?_
        have q_92 : (f_91 0 16).toInt = v_25.toInt := (congrArg Int32.toInt (show f_91 0 16 = v_25 from (by rw [ef_91, sg_up_s, sgu_n (by decide)]; exact ev_25.symm)))
        have q_93 : (f_91 0 15).toInt = v_28.toInt := (congrArg Int32.toInt (show f_91 0 15 = v_28 from (by rw [ef_91, sg_up_s, sgu_n (by decide)]; exact ev_28.symm)))
        have q_95 : (f_91 0 13).toInt = v_89.toInt := (congrArg Int32.toInt (show f_91 0 13 = v_89 from (by rw [ef_91, sg_up_s, sgu_s])))
        refine sg_calli (va_runV (As := []) (rest := []) ⟨hx, hb, hml, hown, hts⟩ (kX12_sums_2 l D ca za h hh f_91 L Q hI (by omega) (by omega) H.size) (sl_c12_sums_27_0_0_615_12 hts ⟨Nat.le_of_ble_eq_true rfl, Nat.le_of_ble_eq_true rfl⟩) (sl_vM_0 hA hK hP hS hZ) rfl rfl hl.1 rfl (lv_room (Nat.le_of_ble_eq_true rfl)) dX12_compared_48 ⟨Nat.le_refl _, Nat.le_refl _⟩) hA hS (fun r_99 f_96 L_97 Q_98 H locs hq hP hS => ?_)
        obtain ⟨⟨hI, hk_f_96, eL9, eQ9⟩, hq, p_100, p_101, p_102, u_103⟩ := hq
        rw [eL9, eQ9] at hP; clear eL9 eQ9
        have hF : sgK WkX12_compared_2 f f_96 := sgK.tr hF hk_f_96 (by decide +kernel)
        obtain ⟨v_104, ev_104⟩ : ∃ z : Int32, z = f_96 0 13 := ⟨_, rfl⟩
        have q_105 : 0 ≤ v_104.toInt ∧ v_104.toInt ≤ 120 := by rw [ev_104]; exact hI 0 13
        have q_106 : (f_96 0 13).toInt = v_104.toInt := (congrArg Int32.toInt (show f_96 0 13 = v_104 from ev_104.symm))
        obtain ⟨v_107, ev_107⟩ : ∃ z : Int32, z = f_96 0 16 := ⟨_, rfl⟩
        have q_108 : 0 ≤ v_107.toInt ∧ v_107.toInt ≤ 6 := by rw [ev_107]; exact hI 0 16
        have q_109 : (f_96 0 16).toInt = v_107.toInt := (congrArg Int32.toInt (show f_96 0 16 = v_107 from ev_107.symm))
        obtain ⟨v_110, ev_110⟩ : ∃ z : Int32, z = f_96 0 15 := ⟨_, rfl⟩
        replace hs := hs.trans ((if_pos c_87).trans (spl_e ev_89 (spl_e ef_91 (spl2_e u_103 (spl_e ev_104 (spl_e ev_107 (spl_e ev_110 rfl)))))))
        have q_111 : (-1) ≤ v_110.toInt ∧ v_110.toInt ≤ 120 := by rw [ev_110]; exact hI 0 15
        have q_112 : (f_96 0 15).toInt = v_110.toInt := (congrArg Int32.toInt (show f_96 0 15 = v_110 from ev_110.symm))
        refine lv_istore_n (lv' := [(3, .int r_99), (2, .int r_39), (1, .int r_17), (0, .ref (h 0))]) hx hb dX12_compared_51 rfl hl (by decide) rfl (fun ls hl => ?_)
        refine lv_iload_n hx hb dX12_compared_52 rfl (lv_at hl 1 rfl) ?_
        refine lv_bipush (v := 60) hx hb dX12_compared_53 bp_60 ?_
        refine lv_icmp_ne (tgt := 66) hx hb dX12_compared_55 (by decide) (fun c => ?_) (fun c => ?_)
        · skip
          have c_114 : r_39.toInt ≠ 60 := (by first | exact (cm_ne1 ti_60 c) | (have z := bn_ne c; have k1 : (60 : Int32).toInt = 60 := ti_60; omega))
          refine lv_iload_n hx hb dX12_compared_66 rfl (lv_at hl 1 rfl) ?_
          refine lv_bipush (v := 61) hx hb dX12_compared_67 bp_61 ?_
          refine lv_icmp_ne (tgt := 80) hx hb dX12_compared_69 (by decide) (fun c => ?_) (fun c => ?_)
          · skip
            exfalso; have c_116 : r_39.toInt ≠ 61 := (by first | exact (cm_ne1 ti_61 c) | (have z := bn_ne c; have k1 : (61 : Int32).toInt = 61 := ti_61; omega)); first | exact absurd (by assumption) c_116 | omega
          · skip
            have c_117 : r_39.toInt = 61 := (by first | exact (cm_eq1 ti_61 c) | (have z := Int32.toInt_inj.mpr c; have k1 : (61 : Int32).toInt = 61 := ti_61; omega))
            refine lv_iload_n hx hb dX12_compared_72 rfl (lv_at hl 2 rfl) ?_
            refine lv_iload_n hx hb dX12_compared_73 rfl (lv_at hl 0 rfl) ?_
            refine lv_icmp_ne (tgt := 89) hx hb dX12_compared_74 (by decide) (fun c => ?_) (fun c => ?_)
            · skip
              have c_118 : r_17.toInt ≠ r_99.toInt := (by first | exact (bn_ne c) | (have z := bn_ne c; omega))
              refine lv_iconst (v := 0) hx hb dX12_compared_89 ic_0 ?_
              have k99 : (0 : Int32).toInt = 0 := ti_0
              exact hret _ _ _ _ (0) f_96 L Q dX12_compared_90 hP hS ⟨⟨hI, hF, rfl, rfl⟩, trivial, (by omega), (by omega), (by omega), (Eq.trans (Eq.symm (hs.trans ((if_neg c_118).trans rfl))) hsp)⟩
            · skip
              have c_119 : r_17.toInt = r_99.toInt := (by first | exact (Int32.toInt_inj.mpr c) | (have z := Int32.toInt_inj.mpr c; omega))
              refine lv_goto (tgt := 85) hx hb dX12_compared_77 (by decide) ?_
              refine lv_iconst (v := 1) hx hb dX12_compared_85 ic_1 ?_
              refine lv_goto (tgt := 90) hx hb dX12_compared_86 (by decide) ?_
              have k99 : (1 : Int32).toInt = 1 := ti_1
              exact hret _ _ _ _ (1) f_96 L Q dX12_compared_90 hP hS ⟨⟨hI, hF, rfl, rfl⟩, trivial, (by omega), (by omega), (by omega), (Eq.trans (Eq.symm (hs.trans ((if_pos c_119).trans rfl))) hsp)⟩
        · skip
          exfalso; have c_115 : r_39.toInt = 60 := (by first | exact (cm_eq1 ti_60 c) | (have z := Int32.toInt_inj.mpr c; have k1 : (60 : Int32).toInt = 60 := ti_60; omega)); first | exact absurd c_115 (by assumption) | omega
      · skip
        have c_88 : r_39.toInt ≠ 61 := (by first | exact (cm_ne1 ti_61 c) | (have z := bn_ne c; have k1 : (61 : Int32).toInt = 61 := ti_61; omega))
        replace hs := hs.trans ((if_neg c_88).trans rfl)
        refine lv_iload_n hx hb dX12_compared_29 rfl (lv_at hl 0 rfl) ?_
        refine lv_bipush (v := 62) hx hb dX12_compared_30 bp_62 ?_
        refine lv_icmp_eq (tgt := 37) hx hb dX12_compared_32 (by decide) (fun c => ?_) (fun c => ?_)
        · skip
          have c_128 : r_39.toInt = 62 := (by first | exact (cm_eq1 ti_62 c) | (have z := Int32.toInt_inj.mpr c; have k1 : (62 : Int32).toInt = 62 := ti_62; omega))
          refine lv_aload_n hx hb dX12_compared_37 rfl (lv_at hl 2 rfl) ?_
          refine lv_dup hx hb dX12_compared_38 rfl ?_
          refine sl_gM_0_13_12 (v := v_22) hx hb hts hown hK hP (show f_14 0 13 = v_22 from ev_22.symm) dX12_compared_39 ?_
          refine lv_iconst (v := 1) hx hb dX12_compared_42 ic_1 ?_
          refine lv_iadd hx hb dX12_compared_43 ?_
          refine lv_topi (fun v_130 ev_130 => ?_)
          have q_131 : v_130.toInt = v_22.toInt + 1 := by rw [ev_130]; first | exact cm_add ti_1 (by omega) (by omega) | (have k1 : (1 : Int32).toInt = 1 := ti_1; exact (bn_addI (by omega) (by omega)).trans (by omega))
          refine sl_pM_0_13_12 (x := v_130) hx hb hts hown hh hA hK hP hS dX12_compared_44 (fun f_132 H locs ef_132 hP hS => ?_)
          have hI : sgI loM hiM f_132 := by rw [ef_132]; exact sgI.put hI 0 13 (show 0 ≤ (v_130 : Int32).toInt ∧ (v_130 : Int32).toInt ≤ 120 from ⟨by omega, by omega⟩)
          have hF : sgK WkX12_compared_2 f f_132 := sgK.put hF ef_132 (by rfl)
          refine lv_aload_n hx hb dX12_compared_47 rfl (lv_at hl 2 rfl) ?_
          have q_133 : (f_132 0 16).toInt = v_25.toInt := (congrArg Int32.toInt (show f_132 0 16 = v_25 from (by rw [ef_132, sg_up_s, sgu_n (by decide)]; exact ev_25.symm)))
          have q_134 : (f_132 0 15).toInt = v_28.toInt := (congrArg Int32.toInt (show f_132 0 15 = v_28 from (by rw [ef_132, sg_up_s, sgu_n (by decide)]; exact ev_28.symm)))
          have q_136 : (f_132 0 13).toInt = v_130.toInt := (congrArg Int32.toInt (show f_132 0 13 = v_130 from (by rw [ef_132, sg_up_s, sgu_s])))
          refine sg_calli (va_runV (As := []) (rest := []) ⟨hx, hb, hml, hown, hts⟩ (kX12_sums_2 l D ca za h hh f_132 L Q hI (by omega) (by omega) H.size) (sl_c12_sums_27_0_0_615_12 hts ⟨Nat.le_of_ble_eq_true rfl, Nat.le_of_ble_eq_true rfl⟩) (sl_vM_0 hA hK hP hS hZ) rfl rfl hl.1 rfl (lv_room (Nat.le_of_ble_eq_true rfl)) dX12_compared_48 ⟨Nat.le_refl _, Nat.le_refl _⟩) hA hS (fun r_140 f_137 L_138 Q_139 H locs hq hP hS => ?_)
          obtain ⟨⟨hI, hk_f_137, eL9, eQ9⟩, hq, p_141, p_142, p_143, u_144⟩ := hq
          rw [eL9, eQ9] at hP; clear eL9 eQ9
          have hF : sgK WkX12_compared_2 f f_137 := sgK.tr hF hk_f_137 (by decide +kernel)
          obtain ⟨v_145, ev_145⟩ : ∃ z : Int32, z = f_137 0 13 := ⟨_, rfl⟩
          have q_146 : 0 ≤ v_145.toInt ∧ v_145.toInt ≤ 120 := by rw [ev_145]; exact hI 0 13
          have q_147 : (f_137 0 13).toInt = v_145.toInt := (congrArg Int32.toInt (show f_137 0 13 = v_145 from ev_145.symm))
          obtain ⟨v_148, ev_148⟩ : ∃ z : Int32, z = f_137 0 16 := ⟨_, rfl⟩
          have q_149 : 0 ≤ v_148.toInt ∧ v_148.toInt ≤ 6 := by rw [ev_148]; exact hI 0 16
          have q_150 : (f_137 0 16).toInt = v_148.toInt := (congrArg Int32.toInt (show f_137 0 16 = v_148 from ev_148.symm))
          obtain ⟨v_151, ev_151⟩ : ∃ z : Int32, z = f_137 0 15 := ⟨_, rfl⟩
          replace hs := hs.trans ((if_pos c_128).trans (spl_e ev_130 (spl_e ef_132 (spl2_e u_144 (spl_e ev_145 (spl_e ev_148 (spl_e ev_151 rfl)))))))
          have q_152 : (-1) ≤ v_151.toInt ∧ v_151.toInt ≤ 120 := by rw [ev_151]; exact hI 0 15
          have q_153 : (f_137 0 15).toInt = v_151.toInt := (congrArg Int32.toInt (show f_137 0 15 = v_151 from ev_151.symm))
          refine lv_istore_n (lv' := [(3, .int r_140), (2, .int r_39), (1, .int r_17), (0, .ref (h 0))]) hx hb dX12_compared_51 rfl hl (by decide) rfl (fun ls hl => ?_)
          refine lv_iload_n hx hb dX12_compared_52 rfl (lv_at hl 1 rfl) ?_
          refine lv_bipush (v := 60) hx hb dX12_compared_53 bp_60 ?_
          refine lv_icmp_ne (tgt := 66) hx hb dX12_compared_55 (by decide) (fun c => ?_) (fun c => ?_)
          · skip
            have c_155 : r_39.toInt ≠ 60 := (by first | exact (cm_ne1 ti_60 c) | (have z := bn_ne c; have k1 : (60 : Int32).toInt = 60 := ti_60; omega))
            refine lv_iload_n hx hb dX12_compared_66 rfl (lv_at hl 1 rfl) ?_
            refine lv_bipush (v := 61) hx hb dX12_compared_67 bp_61 ?_
            refine lv_icmp_ne (tgt := 80) hx hb dX12_compared_69 (by decide) (fun c => ?_) (fun c => ?_)
            · skip
              have c_157 : r_39.toInt ≠ 61 := (by first | exact (cm_ne1 ti_61 c) | (have z := bn_ne c; have k1 : (61 : Int32).toInt = 61 := ti_61; omega))
              refine lv_iload_n hx hb dX12_compared_80 rfl (lv_at hl 2 rfl) ?_
              refine lv_iload_n hx hb dX12_compared_81 rfl (lv_at hl 0 rfl) ?_
              refine lv_icmp_le (tgt := 89) hx hb dX12_compared_82 (by decide) (fun c => ?_) (fun c => ?_)
              · skip
                have c_159 : r_17.toInt ≤ r_140.toInt := (by first | exact (bn_le c) | (have z := bn_le c; omega))
                refine lv_iconst (v := 0) hx hb dX12_compared_89 ic_0 ?_
                have k99 : (0 : Int32).toInt = 0 := ti_0
                exact hret _ _ _ _ (0) f_137 L Q dX12_compared_90 hP hS ⟨⟨hI, hF, rfl, rfl⟩, trivial, (by omega), (by omega), (by omega), (Eq.trans (Eq.symm (hs.trans ((if_neg (Int.not_lt.mpr c_159)).trans rfl))) hsp)⟩
              · skip
                have c_160 : r_140.toInt < r_17.toInt := (by first | exact (bn_nle c) | (have z := bn_nle c; omega))
                refine lv_iconst (v := 1) hx hb dX12_compared_85 ic_1 ?_
                refine lv_goto (tgt := 90) hx hb dX12_compared_86 (by decide) ?_
                have k99 : (1 : Int32).toInt = 1 := ti_1
                exact hret _ _ _ _ (1) f_137 L Q dX12_compared_90 hP hS ⟨⟨hI, hF, rfl, rfl⟩, trivial, (by omega), (by omega), (by omega), (Eq.trans (Eq.symm (hs.trans ((if_pos c_160).trans rfl))) hsp)⟩
            · skip
              exfalso; have c_158 : r_39.toInt = 61 := (by first | exact (cm_eq1 ti_61 c) | (have z := Int32.toInt_inj.mpr c; have k1 : (61 : Int32).toInt = 61 := ti_61; omega)); first | exact absurd c_158 (by assumption) | omega
          · skip
            exfalso; have c_156 : r_39.toInt = 60 := (by first | exact (cm_eq1 ti_60 c) | (have z := Int32.toInt_inj.mpr c; have k1 : (60 : Int32).toInt = 60 := ti_60; omega)); first | exact absurd c_156 (by assumption) | omega
        · skip
          have c_129 : r_39.toInt ≠ 62 := (by first | exact (cm_ne1 ti_62 c) | (have z := bn_ne c; have k1 : (62 : Int32).toInt = 62 := ti_62; omega))
          refine lv_iload_n hx hb dX12_compared_35 rfl (lv_at hl 1 rfl) ?_
          exact hret _ _ _ _ (r_17) f_14 L Q dX12_compared_36 hP hS ⟨⟨hI, hF, rfl, rfl⟩, trivial, (by omega), (by omega), (by omega), (Eq.trans (Eq.symm (hs.trans ((if_neg c_129).trans rfl))) hsp)⟩

abbrev WkX12_both_2 : List (Nat × Nat × Option Nat) := [(0, 0, some 13), (0, 0, some 15), (0, 0, some 16)]
set_option maxHeartbeats 4000000 in
set_option maxRecDepth 100000 in
theorem kX12_both_2 (l : Launch) (D : va_G) (ca : Nat → ClassId) (za h : Nat → Nat) (hh : sgH 26 h) (f : sg_F) (L : sg_L) (Q : sg_Q) (hI : sgI loM hiM f) (p0 : 2 ≤ (f 0 16).toInt) (p1 : 0 ≤ (f 0 15).toInt ∨ (f 0 16).toInt = 2) (sz : Nat) : Met l yX12_both gwX12_both { frames := 29, cells := 0, slots := 0, locals := 661 } (sgP D vwCl (tyX ca) 26 h (eM ca h) zcM za f L Q sz [.ref (h 0)]) (sgQi D vwCl 26 h (eM ca h) sz (fun r f1 L1 Q1 => ((sgI loM hiM f1 ∧ sgK WkX12_both_2 f f1 ∧ L1 = L ∧ Q1 = Q) ∧ True ∧ ((f 0 13).toInt ≤ (f1 0 13).toInt) ∧ (2 ≤ (f1 0 16).toInt) ∧ (0 ≤ (f1 0 15).toInt ∨ (f1 0 16).toInt = 2) ∧ (r, f1) = sX12_both_2 f L))) 0 0 (sgA 26 h sz) := by
  refine sg_ofWi (cc := cX12_both) (maxL := 3) RX12 (by decide) rfl rfl (Nat.le_of_ble_eq_true rfl) ?_
  intro p e s m below meth cd Qz ls hx hb hml hown hts hK hZ hP hS hl hret
  have hA := sgY.self (n := 26) (h := h) (sz := s.heap.size)
  have hl : lv_has ls 3 [(0, .ref (h 0))] := hl
  obtain ⟨H, hH⟩ : ∃ z : Heap, z = s.heap := ⟨_, rfl⟩
  obtain ⟨locs, hlo⟩ : ∃ z : List Loc, z = [] := ⟨_, rfl⟩
  have hP : va_P D vwCl (sgw 26 h (eM ca h) f L Q) H := by rw [hH]; exact hP
  have hS : va_S (sgA 26 h s.heap.size) s.heap H locs := by rw [hH, hlo]; exact hS
  suffices hgo : W p l e ({ frames := 29, cells := 0, slots := 0, locals := 661 }) s m ([.ref (h 0)] : List Value).toArray below meth cd H locs 0 0 Qz (F0 m 0 ls []) by rw [hH, hlo] at hgo; exact hgo
  clear hH hlo
  obtain ⟨sp, hsp⟩ : ∃ z : Int32 × sg_F, z = sX12_both_2 f L := ⟨_, rfl⟩
  have hs : sp = sX12_both_2 f L := hsp
  obtain ⟨v_1, ev_1⟩ : ∃ z : Int32, z = f 0 16 := ⟨_, rfl⟩
  have q_2 : 0 ≤ v_1.toInt ∧ v_1.toInt ≤ 6 := by rw [ev_1]; exact hI 0 16
  obtain ⟨v_3, ev_3⟩ : ∃ z : Int32, z = f 0 15 := ⟨_, rfl⟩
  have q_4 : (-1) ≤ v_3.toInt ∧ v_3.toInt ≤ 120 := by rw [ev_3]; exact hI 0 15
  obtain ⟨v_5, ev_5⟩ : ∃ z : Int32, z = f 0 13 := ⟨_, rfl⟩
  have q_6 : 0 ≤ v_5.toInt ∧ v_5.toInt ≤ 120 := by rw [ev_5]; exact hI 0 13
  have o_7 : (f 0 16).toInt = v_1.toInt := (congrArg Int32.toInt (show f 0 16 = v_1 from ev_1.symm))
  have o_8 : (f 0 15).toInt = v_3.toInt := (congrArg Int32.toInt (show f 0 15 = v_3 from ev_3.symm))
  have o_9 : (f 0 13).toInt = v_5.toInt := (congrArg Int32.toInt (show f 0 13 = v_5 from ev_5.symm))
  have hF : sgK WkX12_both_2 f f := sgK.rf
  have loop_5 : ∀ (n_5 : Nat) (y1_5 : Int32) (fp_5 : sg_F) (H : Heap) (locs : List Loc) (ls : Array Slot), sp = sX12_both_2_l5 n_5 y1_5 fp_5 L → 120 - (fp_5 0 13).toInt < (n_5 : Int) → (f 0 13).toInt ≤ (fp_5 0 13).toInt → 2 ≤ (fp_5 0 16).toInt → 0 ≤ (fp_5 0 15).toInt ∨ (fp_5 0 16).toInt = 2 → sgI loM hiM fp_5 → sgK WkX12_both_2 f fp_5 → va_P D vwCl (sgw 26 h (eM ca h) fp_5 L Q) H → va_S (sgA 26 h s.heap.size) s.heap H locs → lv_has ls 3 [(0, .ref (h 0)), (1, .int y1_5)] → W p l e ({ frames := 29, cells := 0, slots := 0, locals := 661 }) s m ([.ref (h 0)] : List Value).toArray below meth cd H locs 0 0 Qz (F0 m 5 ls []) := by
    intro n_5
    induction n_5 with
    | zero => intro y1_5 fp_5 H locs ls hs hm_5 hg0_5 hg1_5 hg2_5 hI hF hP hS hl; have zb := (show 0 ≤ (fp_5 0 13).toInt ∧ (fp_5 0 13).toInt ≤ 120 from hI 0 13); exact absurd hm_5 (by omega)
    | succ n_5 ih_5 =>
      intro y1_5 fp_5 H locs ls hs hm_5 hg0_5 hg1_5 hg2_5 hI hF hP hS hl
      have hs : sp = sX12_both_2_h5 (sX12_both_2_l5 n_5) y1_5 fp_5 L := hs
      obtain ⟨v_10, ev_10⟩ : ∃ z : Int32, z = fp_5 0 13 := ⟨_, rfl⟩
      have q_11 : 0 ≤ v_10.toInt ∧ v_10.toInt ≤ 120 := by rw [ev_10]; exact hI 0 13
      have q_12 : (fp_5 0 13).toInt = v_10.toInt := by rw [ev_10]
      obtain ⟨v_13, ev_13⟩ : ∃ z : Int32, z = fp_5 0 16 := ⟨_, rfl⟩
      have q_14 : 0 ≤ v_13.toInt ∧ v_13.toInt ≤ 6 := by rw [ev_13]; exact hI 0 16
      have q_15 : (fp_5 0 16).toInt = v_13.toInt := by rw [ev_13]
      obtain ⟨v_16, ev_16⟩ : ∃ z : Int32, z = fp_5 0 15 := ⟨_, rfl⟩
      have q_17 : (-1) ≤ v_16.toInt ∧ v_16.toInt ≤ 120 := by rw [ev_16]; exact hI 0 15
      have q_18 : (fp_5 0 15).toInt = v_16.toInt := by rw [ev_16]
      refine lv_aload_n hx hb dX12_both_5 rfl (lv_at hl 0 rfl) ?_
      refine lv_bipush (v := 38) hx hb dX12_both_6 bp_38 ?_
      obtain ⟨v_21, ev_21⟩ : ∃ z : Int32, z = fp_5 0 14 := ⟨_, rfl⟩
      have q_22 : 0 ≤ v_21.toInt ∧ v_21.toInt ≤ 120 := by rw [ev_21]; exact hI 0 14
      have q_23 : (fp_5 0 14).toInt = v_21.toInt := (congrArg Int32.toInt (show fp_5 0 14 = v_21 from ev_21.symm))
      refine sg_calli (va_runV (As := [.int 38]) (rest := []) ⟨hx, hb, hml, hown, hts⟩ (kX12_takes_38 l D ca za h hh fp_5 L Q hI H.size) (sl_c12_takes_1_0_0_20_12 hts ⟨Nat.le_of_ble_eq_true rfl, Nat.le_of_ble_eq_true rfl⟩) (sl_vM_0 hA hK hP hS hZ) rfl rfl hl.1 rfl (lv_room (Nat.le_of_ble_eq_true rfl)) dX12_both_8 ⟨Nat.le_refl _, Nat.le_refl _⟩) hA hS (fun r_29 f_26 L_27 Q_28 H locs hq hP hS => ?_)
      obtain ⟨⟨hI, hk_f_26, eL9, eQ9⟩, hq, u_30⟩ := hq
      rw [eL9, eQ9] at hP; clear eL9 eQ9
      have hF : sgK WkX12_both_2 f f_26 := sgK.tr hF hk_f_26 (by decide +kernel)
      obtain ⟨v_31, ev_31⟩ : ∃ z : Int32, z = f_26 0 13 := ⟨_, rfl⟩
      replace hs := hs.trans (spl_e ev_10 (spl_e ev_13 (spl_e ev_16 (spl_e ev_21 (spl2_e u_30 (spl_e ev_31 rfl))))))
      have q_32 : 0 ≤ v_31.toInt ∧ v_31.toInt ≤ 120 := by rw [ev_31]; exact hI 0 13
      have q_33 : (f_26 0 13).toInt = v_31.toInt := (congrArg Int32.toInt (show f_26 0 13 = v_31 from ev_31.symm))
      have k_35 : (38 : Int32).toInt = 38 := by decide
      rcases hq with ⟨rfl, hq⟩ | ⟨rfl, hq⟩
      · skip
        have hc_36 := hq
        refine lv_if_eq (tgt := 36) hx hb dX12_both_11 (by decide) (fun c => absurd c (by decide)) (fun c => ?_)
        refine lv_aload_n hx hb dX12_both_14 rfl (lv_at hl 0 rfl) ?_
        have q_37 : (f_26 0 16).toInt = v_13.toInt := (congrArg Int32.toInt (show f_26 0 16 = v_13 from ((hk_f_26 0 16 (by decide)).trans ev_13.symm)))
        have q_38 : (f_26 0 15).toInt = v_16.toInt := (congrArg Int32.toInt (show f_26 0 15 = v_16 from ((hk_f_26 0 15 (by decide)).trans ev_16.symm)))
        refine sg_calli (va_runV (As := []) (rest := []) ⟨hx, hb, hml, hown, hts⟩ (kX12_compared_2 l D ca za h hh f_26 L Q hI (by omega) (by omega) H.size) (sl_c12_compared_28_0_0_638_12 hts ⟨Nat.le_of_ble_eq_true rfl, Nat.le_of_ble_eq_true rfl⟩) (sl_vM_0 hA hK hP hS hZ) rfl rfl hl.1 rfl (lv_room (Nat.le_of_ble_eq_true rfl)) dX12_both_15 ⟨Nat.le_refl _, Nat.le_refl _⟩) hA hS (fun r_44 f_41 L_42 Q_43 H locs hq hP hS => ?_)
        obtain ⟨⟨hI, hk_f_41, eL9, eQ9⟩, hq, p_45, p_46, p_47, u_48⟩ := hq
        rw [eL9, eQ9] at hP; clear eL9 eQ9
        have hF : sgK WkX12_both_2 f f_41 := sgK.tr hF hk_f_41 (by decide +kernel)
        obtain ⟨v_49, ev_49⟩ : ∃ z : Int32, z = f_41 0 13 := ⟨_, rfl⟩
        have q_50 : 0 ≤ v_49.toInt ∧ v_49.toInt ≤ 120 := by rw [ev_49]; exact hI 0 13
        have q_51 : (f_41 0 13).toInt = v_49.toInt := (congrArg Int32.toInt (show f_41 0 13 = v_49 from ev_49.symm))
        obtain ⟨v_52, ev_52⟩ : ∃ z : Int32, z = f_41 0 16 := ⟨_, rfl⟩
        have q_53 : 0 ≤ v_52.toInt ∧ v_52.toInt ≤ 6 := by rw [ev_52]; exact hI 0 16
        have q_54 : (f_41 0 16).toInt = v_52.toInt := (congrArg Int32.toInt (show f_41 0 16 = v_52 from ev_52.symm))
        obtain ⟨v_55, ev_55⟩ : ∃ z : Int32, z = f_41 0 15 := ⟨_, rfl⟩
        replace hs := hs.trans ((if_pos rfl).trans (spl2_e u_48 (spl_e ev_49 (spl_e ev_52 (spl_e ev_55 rfl)))))
        have q_56 : (-1) ≤ v_55.toInt ∧ v_55.toInt ≤ 120 := by rw [ev_55]; exact hI 0 15
        have q_57 : (f_41 0 15).toInt = v_55.toInt := (congrArg Int32.toInt (show f_41 0 15 = v_55 from ev_55.symm))
        refine lv_istore_n (lv' := [(2, .int r_44), (0, .ref (h 0)), (1, .int y1_5)]) hx hb dX12_both_18 rfl hl (by decide) rfl (fun ls hl => ?_)
        refine lv_iload_n hx hb dX12_both_19 rfl (lv_at hl 2 rfl) ?_
        refine lv_if_eq (tgt := 31) hx hb dX12_both_20 (by decide) (fun c => ?_) (fun c => ?_)
        · skip
          have c_59 : y1_5.toInt = 0 := (by first | exact (cm_eq1 ti_0 c) | (have z := Int32.toInt_inj.mpr c; have k1 : (0 : Int32).toInt = 0 := ti_0; omega))
          refine lv_iconst (v := 0) hx hb dX12_both_31 ic_0 ?_
          refine lv_istore_n (lv' := [(1, .int 0), (2, .int r_44), (0, .ref (h 0))]) hx hb dX12_both_32 rfl hl (by decide) rfl (fun ls hl => ?_)
          refine lv_goto (tgt := 5) hx hb dX12_both_33 (by decide) ?_
          exact ih_5 0 f_41 _ _ _ (hs.trans ((if_pos c_59).trans rfl)) (by have kc0 : (0 : Int32).toInt = 0 := ti_0; have zz0_13 : (f_41 0 13).toInt = v_49.toInt := (congrArg Int32.toInt (show f_41 0 13 = v_49 from ev_49.symm)); omega) (by have kc0 : (0 : Int32).toInt = 0 := ti_0; have zz0_13 : (f_41 0 13).toInt = v_49.toInt := (congrArg Int32.toInt (show f_41 0 13 = v_49 from ev_49.symm)); omega) (by have kc0 : (0 : Int32).toInt = 0 := ti_0; have zz0_16 : (f_41 0 16).toInt = v_52.toInt := (congrArg Int32.toInt (show f_41 0 16 = v_52 from ev_52.symm)); omega) (by have kc0 : (0 : Int32).toInt = 0 := ti_0; have zz0_15 : (f_41 0 15).toInt = v_55.toInt := (congrArg Int32.toInt (show f_41 0 15 = v_55 from ev_55.symm)); have zz0_16 : (f_41 0 16).toInt = v_52.toInt := (congrArg Int32.toInt (show f_41 0 16 = v_52 from ev_52.symm)); omega) hI hF hP hS (lv_sub hl [2, 0] rfl)
        · skip
          have c_60 : y1_5.toInt ≠ 0 := (by first | exact (cm_ne1 ti_0 c) | (have z := bn_ne c; have k1 : (0 : Int32).toInt = 0 := ti_0; omega))
          replace hs := hs.trans ((if_neg c_60).trans rfl)
          refine lv_iload_n hx hb dX12_both_23 rfl (lv_at hl 0 rfl) ?_
          refine lv_if_eq (tgt := 31) hx hb dX12_both_24 (by decide) (fun c => ?_) (fun c => ?_)
          · skip
            have c_61 : r_44.toInt = 0 := (by first | exact (cm_eq1 ti_0 c) | (have z := Int32.toInt_inj.mpr c; have k1 : (0 : Int32).toInt = 0 := ti_0; omega))
            refine lv_iconst (v := 0) hx hb dX12_both_31 ic_0 ?_
            refine lv_istore_n (lv' := [(1, .int 0), (2, .int r_44), (0, .ref (h 0))]) hx hb dX12_both_32 rfl hl (by decide) rfl (fun ls hl => ?_)
            refine lv_goto (tgt := 5) hx hb dX12_both_33 (by decide) ?_
            exact ih_5 0 f_41 _ _ _ (hs.trans ((if_pos c_61).trans rfl)) (by have kc0 : (0 : Int32).toInt = 0 := ti_0; have zz0_13 : (f_41 0 13).toInt = v_49.toInt := (congrArg Int32.toInt (show f_41 0 13 = v_49 from ev_49.symm)); omega) (by have kc0 : (0 : Int32).toInt = 0 := ti_0; have zz0_13 : (f_41 0 13).toInt = v_49.toInt := (congrArg Int32.toInt (show f_41 0 13 = v_49 from ev_49.symm)); omega) (by have kc0 : (0 : Int32).toInt = 0 := ti_0; have zz0_16 : (f_41 0 16).toInt = v_52.toInt := (congrArg Int32.toInt (show f_41 0 16 = v_52 from ev_52.symm)); omega) (by have kc0 : (0 : Int32).toInt = 0 := ti_0; have zz0_15 : (f_41 0 15).toInt = v_55.toInt := (congrArg Int32.toInt (show f_41 0 15 = v_55 from ev_55.symm)); have zz0_16 : (f_41 0 16).toInt = v_52.toInt := (congrArg Int32.toInt (show f_41 0 16 = v_52 from ev_52.symm)); omega) hI hF hP hS (lv_sub hl [2, 0] rfl)
          · skip
            have c_62 : r_44.toInt ≠ 0 := (by first | exact (cm_ne1 ti_0 c) | (have z := bn_ne c; have k1 : (0 : Int32).toInt = 0 := ti_0; omega))
            refine lv_iconst (v := 1) hx hb dX12_both_27 ic_1 ?_
            refine lv_goto (tgt := 32) hx hb dX12_both_28 (by decide) ?_
            refine lv_istore_n (lv' := [(1, .int 1), (2, .int r_44), (0, .ref (h 0))]) hx hb dX12_both_32 rfl hl (by decide) rfl (fun ls hl => ?_)
            refine lv_goto (tgt := 5) hx hb dX12_both_33 (by decide) ?_
            exact ih_5 1 f_41 _ _ _ (hs.trans ((if_neg c_62).trans rfl)) (by have kc0 : (1 : Int32).toInt = 1 := ti_1; have zz0_13 : (f_41 0 13).toInt = v_49.toInt := (congrArg Int32.toInt (show f_41 0 13 = v_49 from ev_49.symm)); omega) (by have kc0 : (1 : Int32).toInt = 1 := ti_1; have zz0_13 : (f_41 0 13).toInt = v_49.toInt := (congrArg Int32.toInt (show f_41 0 13 = v_49 from ev_49.symm)); omega) (by have kc0 : (1 : Int32).toInt = 1 := ti_1; have zz0_16 : (f_41 0 16).toInt = v_52.toInt := (congrArg Int32.toInt (show f_41 0 16 = v_52 from ev_52.symm)); omega) (by have kc0 : (1 : Int32).toInt = 1 := ti_1; have zz0_15 : (f_41 0 15).toInt = v_55.toInt := (congrArg Int32.toInt (show f_41 0 15 = v_55 from ev_55.symm)); have zz0_16 : (f_41 0 16).toInt = v_52.toInt := (congrArg Int32.toInt (show f_41 0 16 = v_52 from ev_52.symm)); omega) hI hF hP hS (lv_sub hl [2, 0] rfl)
      · skip
        have hc_36 := hq
        refine lv_if_eq (tgt := 36) hx hb dX12_both_11 (by decide) (fun c => ?_) (fun c => absurd c (by decide))
        refine lv_iload_n hx hb dX12_both_36 rfl (lv_at hl 1 rfl) ?_
        have q_64 : (f_26 0 16).toInt = v_13.toInt := (congrArg Int32.toInt (show f_26 0 16 = v_13 from ((hk_f_26 0 16 (by decide)).trans ev_13.symm)))
        have q_65 : (f_26 0 15).toInt = v_16.toInt := (congrArg Int32.toInt (show f_26 0 15 = v_16 from ((hk_f_26 0 15 (by decide)).trans ev_16.symm)))
        exact hret _ _ _ _ (y1_5) f_26 L Q dX12_both_37 hP hS ⟨⟨hI, hF, rfl, rfl⟩, trivial, (by omega), (by omega), (by omega), (Eq.trans (Eq.symm (hs.trans ((if_neg (by decide)).trans rfl))) hsp)⟩
  refine lv_aload_n hx hb dX12_both_0 rfl (lv_at hl 0 rfl) ?_
  have q_67 : (f 0 16).toInt = v_1.toInt := (congrArg Int32.toInt (show f 0 16 = v_1 from ev_1.symm))
  have q_68 : (f 0 15).toInt = v_3.toInt := (congrArg Int32.toInt (show f 0 15 = v_3 from ev_3.symm))
  have q_70 : (f 0 13).toInt = v_5.toInt := (congrArg Int32.toInt (show f 0 13 = v_5 from ev_5.symm))
  refine sg_calli (va_runV (As := []) (rest := []) ⟨hx, hb, hml, hown, hts⟩ (kX12_compared_2 l D ca za h hh f L Q hI (by omega) (by omega) H.size) (sl_c12_compared_28_0_0_638_12 hts ⟨Nat.le_of_ble_eq_true rfl, Nat.le_of_ble_eq_true rfl⟩) (sl_vM_0 hA hK hP hS hZ) rfl rfl hl.1 rfl (lv_room (Nat.le_of_ble_eq_true rfl)) dX12_both_1 ⟨Nat.le_refl _, Nat.le_refl _⟩) hA hS (fun r_74 f_71 L_72 Q_73 H locs hq hP hS => ?_)
  obtain ⟨⟨hI, hk_f_71, eL9, eQ9⟩, hq, p_75, p_76, p_77, u_78⟩ := hq
  rw [eL9, eQ9] at hP; clear eL9 eQ9
  have hF : sgK WkX12_both_2 f f_71 := sgK.tr hF hk_f_71 (by decide +kernel)
  obtain ⟨v_79, ev_79⟩ : ∃ z : Int32, z = f_71 0 13 := ⟨_, rfl⟩
  have q_80 : 0 ≤ v_79.toInt ∧ v_79.toInt ≤ 120 := by rw [ev_79]; exact hI 0 13
  have q_81 : (f_71 0 13).toInt = v_79.toInt := (congrArg Int32.toInt (show f_71 0 13 = v_79 from ev_79.symm))
  obtain ⟨v_82, ev_82⟩ : ∃ z : Int32, z = f_71 0 16 := ⟨_, rfl⟩
  have q_83 : 0 ≤ v_82.toInt ∧ v_82.toInt ≤ 6 := by rw [ev_82]; exact hI 0 16
  have q_84 : (f_71 0 16).toInt = v_82.toInt := (congrArg Int32.toInt (show f_71 0 16 = v_82 from ev_82.symm))
  obtain ⟨v_85, ev_85⟩ : ∃ z : Int32, z = f_71 0 15 := ⟨_, rfl⟩
  have q_86 : (-1) ≤ v_85.toInt ∧ v_85.toInt ≤ 120 := by rw [ev_85]; exact hI 0 15
  have q_87 : (f_71 0 15).toInt = v_85.toInt := (congrArg Int32.toInt (show f_71 0 15 = v_85 from ev_85.symm))
  refine lv_istore_n (lv' := [(1, .int r_74), (0, .ref (h 0))]) hx hb dX12_both_4 rfl hl (by decide) rfl (fun ls hl => ?_)
  exact loop_5 121 r_74 f_71 _ _ _ (hs.trans ((spl_e ev_1 (spl_e ev_3 (spl_e ev_5 (spl2_e u_78 (spl_e ev_79 (spl_e ev_82 (spl_e ev_85 rfl))))))))) (by have zz0_13 : (f_71 0 13).toInt = v_79.toInt := (congrArg Int32.toInt (show f_71 0 13 = v_79 from ev_79.symm)); omega) (by have zz0_13 : (f_71 0 13).toInt = v_79.toInt := (congrArg Int32.toInt (show f_71 0 13 = v_79 from ev_79.symm)); omega) (by have zz0_16 : (f_71 0 16).toInt = v_82.toInt := (congrArg Int32.toInt (show f_71 0 16 = v_82 from ev_82.symm)); omega) (by have zz0_15 : (f_71 0 15).toInt = v_85.toInt := (congrArg Int32.toInt (show f_71 0 15 = v_85 from ev_85.symm)); have zz0_16 : (f_71 0 16).toInt = v_82.toInt := (congrArg Int32.toInt (show f_71 0 16 = v_82 from ev_82.symm)); omega) hI hF hP hS (lv_sub hl [1, 0] rfl)

abbrev WkX12_either_2 : List (Nat × Nat × Option Nat) := [(0, 0, some 13), (0, 0, some 15), (0, 0, some 16)]
set_option maxHeartbeats 4000000 in
set_option maxRecDepth 100000 in
theorem kX12_either_2 (l : Launch) (D : va_G) (ca : Nat → ClassId) (za h : Nat → Nat) (hh : sgH 26 h) (f : sg_F) (L : sg_L) (Q : sg_Q) (hI : sgI loM hiM f) (p0 : 2 ≤ (f 0 16).toInt) (p1 : 0 ≤ (f 0 15).toInt ∨ (f 0 16).toInt = 2) (sz : Nat) : Met l yX12_either gwX12_either { frames := 30, cells := 0, slots := 0, locals := 683 } (sgP D vwCl (tyX ca) 26 h (eM ca h) zcM za f L Q sz [.ref (h 0)]) (sgQi D vwCl 26 h (eM ca h) sz (fun r f1 L1 Q1 => ((sgI loM hiM f1 ∧ sgK WkX12_either_2 f f1 ∧ L1 = L ∧ Q1 = Q) ∧ True ∧ ((f 0 13).toInt ≤ (f1 0 13).toInt) ∧ (2 ≤ (f1 0 16).toInt) ∧ (0 ≤ (f1 0 15).toInt ∨ (f1 0 16).toInt = 2) ∧ (r, f1) = sX12_either_2 f L))) 0 0 (sgA 26 h sz) := by
  refine sg_ofWi (cc := cX12_either) (maxL := 3) RX12 (by decide) rfl rfl (Nat.le_of_ble_eq_true rfl) ?_
  intro p e s m below meth cd Qz ls hx hb hml hown hts hK hZ hP hS hl hret
  have hA := sgY.self (n := 26) (h := h) (sz := s.heap.size)
  have hl : lv_has ls 3 [(0, .ref (h 0))] := hl
  obtain ⟨H, hH⟩ : ∃ z : Heap, z = s.heap := ⟨_, rfl⟩
  obtain ⟨locs, hlo⟩ : ∃ z : List Loc, z = [] := ⟨_, rfl⟩
  have hP : va_P D vwCl (sgw 26 h (eM ca h) f L Q) H := by rw [hH]; exact hP
  have hS : va_S (sgA 26 h s.heap.size) s.heap H locs := by rw [hH, hlo]; exact hS
  suffices hgo : W p l e ({ frames := 30, cells := 0, slots := 0, locals := 683 }) s m ([.ref (h 0)] : List Value).toArray below meth cd H locs 0 0 Qz (F0 m 0 ls []) by rw [hH, hlo] at hgo; exact hgo
  clear hH hlo
  obtain ⟨sp, hsp⟩ : ∃ z : Int32 × sg_F, z = sX12_either_2 f L := ⟨_, rfl⟩
  have hs : sp = sX12_either_2 f L := hsp
  obtain ⟨v_1, ev_1⟩ : ∃ z : Int32, z = f 0 16 := ⟨_, rfl⟩
  have q_2 : 0 ≤ v_1.toInt ∧ v_1.toInt ≤ 6 := by rw [ev_1]; exact hI 0 16
  obtain ⟨v_3, ev_3⟩ : ∃ z : Int32, z = f 0 15 := ⟨_, rfl⟩
  have q_4 : (-1) ≤ v_3.toInt ∧ v_3.toInt ≤ 120 := by rw [ev_3]; exact hI 0 15
  obtain ⟨v_5, ev_5⟩ : ∃ z : Int32, z = f 0 13 := ⟨_, rfl⟩
  have q_6 : 0 ≤ v_5.toInt ∧ v_5.toInt ≤ 120 := by rw [ev_5]; exact hI 0 13
  have o_7 : (f 0 16).toInt = v_1.toInt := (congrArg Int32.toInt (show f 0 16 = v_1 from ev_1.symm))
  have o_8 : (f 0 15).toInt = v_3.toInt := (congrArg Int32.toInt (show f 0 15 = v_3 from ev_3.symm))
  have o_9 : (f 0 13).toInt = v_5.toInt := (congrArg Int32.toInt (show f 0 13 = v_5 from ev_5.symm))
  have hF : sgK WkX12_either_2 f f := sgK.rf
  have loop_5 : ∀ (n_5 : Nat) (y1_5 : Int32) (fp_5 : sg_F) (H : Heap) (locs : List Loc) (ls : Array Slot), sp = sX12_either_2_l5 n_5 y1_5 fp_5 L → 120 - (fp_5 0 13).toInt < (n_5 : Int) → (f 0 13).toInt ≤ (fp_5 0 13).toInt → 2 ≤ (fp_5 0 16).toInt → 0 ≤ (fp_5 0 15).toInt ∨ (fp_5 0 16).toInt = 2 → sgI loM hiM fp_5 → sgK WkX12_either_2 f fp_5 → va_P D vwCl (sgw 26 h (eM ca h) fp_5 L Q) H → va_S (sgA 26 h s.heap.size) s.heap H locs → lv_has ls 3 [(0, .ref (h 0)), (1, .int y1_5)] → W p l e ({ frames := 30, cells := 0, slots := 0, locals := 683 }) s m ([.ref (h 0)] : List Value).toArray below meth cd H locs 0 0 Qz (F0 m 5 ls []) := by
    intro n_5
    induction n_5 with
    | zero => intro y1_5 fp_5 H locs ls hs hm_5 hg0_5 hg1_5 hg2_5 hI hF hP hS hl; have zb := (show 0 ≤ (fp_5 0 13).toInt ∧ (fp_5 0 13).toInt ≤ 120 from hI 0 13); exact absurd hm_5 (by omega)
    | succ n_5 ih_5 =>
      intro y1_5 fp_5 H locs ls hs hm_5 hg0_5 hg1_5 hg2_5 hI hF hP hS hl
      have hs : sp = sX12_either_2_h5 (sX12_either_2_l5 n_5) y1_5 fp_5 L := hs
      obtain ⟨v_10, ev_10⟩ : ∃ z : Int32, z = fp_5 0 13 := ⟨_, rfl⟩
      have q_11 : 0 ≤ v_10.toInt ∧ v_10.toInt ≤ 120 := by rw [ev_10]; exact hI 0 13
      have q_12 : (fp_5 0 13).toInt = v_10.toInt := by rw [ev_10]
      obtain ⟨v_13, ev_13⟩ : ∃ z : Int32, z = fp_5 0 16 := ⟨_, rfl⟩
      have q_14 : 0 ≤ v_13.toInt ∧ v_13.toInt ≤ 6 := by rw [ev_13]; exact hI 0 16
      have q_15 : (fp_5 0 16).toInt = v_13.toInt := by rw [ev_13]
      obtain ⟨v_16, ev_16⟩ : ∃ z : Int32, z = fp_5 0 15 := ⟨_, rfl⟩
      have q_17 : (-1) ≤ v_16.toInt ∧ v_16.toInt ≤ 120 := by rw [ev_16]; exact hI 0 15
      have q_18 : (fp_5 0 15).toInt = v_16.toInt := by rw [ev_16]
      refine lv_aload_n hx hb dX12_either_5 rfl (lv_at hl 0 rfl) ?_
      refine lv_bipush (v := 124) hx hb dX12_either_6 bp_124 ?_
      obtain ⟨v_21, ev_21⟩ : ∃ z : Int32, z = fp_5 0 14 := ⟨_, rfl⟩
      have q_22 : 0 ≤ v_21.toInt ∧ v_21.toInt ≤ 120 := by rw [ev_21]; exact hI 0 14
      have q_23 : (fp_5 0 14).toInt = v_21.toInt := (congrArg Int32.toInt (show fp_5 0 14 = v_21 from ev_21.symm))
      refine sg_calli (va_runV (As := [.int 124]) (rest := []) ⟨hx, hb, hml, hown, hts⟩ (kX12_takes_124 l D ca za h hh fp_5 L Q hI H.size) (sl_c12_takes_1_0_0_20_12 hts ⟨Nat.le_of_ble_eq_true rfl, Nat.le_of_ble_eq_true rfl⟩) (sl_vM_0 hA hK hP hS hZ) rfl rfl hl.1 rfl (lv_room (Nat.le_of_ble_eq_true rfl)) dX12_either_8 ⟨Nat.le_refl _, Nat.le_refl _⟩) hA hS (fun r_29 f_26 L_27 Q_28 H locs hq hP hS => ?_)
      obtain ⟨⟨hI, hk_f_26, eL9, eQ9⟩, hq, u_30⟩ := hq
      rw [eL9, eQ9] at hP; clear eL9 eQ9
      have hF : sgK WkX12_either_2 f f_26 := sgK.tr hF hk_f_26 (by decide +kernel)
      obtain ⟨v_31, ev_31⟩ : ∃ z : Int32, z = f_26 0 13 := ⟨_, rfl⟩
      replace hs := hs.trans (spl_e ev_10 (spl_e ev_13 (spl_e ev_16 (spl_e ev_21 (spl2_e u_30 (spl_e ev_31 rfl))))))
      have q_32 : 0 ≤ v_31.toInt ∧ v_31.toInt ≤ 120 := by rw [ev_31]; exact hI 0 13
      have q_33 : (f_26 0 13).toInt = v_31.toInt := (congrArg Int32.toInt (show f_26 0 13 = v_31 from ev_31.symm))
      have k_35 : (124 : Int32).toInt = 124 := by decide
      rcases hq with ⟨rfl, hq⟩ | ⟨rfl, hq⟩
      · skip
        have hc_36 := hq
        refine lv_if_eq (tgt := 36) hx hb dX12_either_11 (by decide) (fun c => absurd c (by decide)) (fun c => ?_)
        refine lv_aload_n hx hb dX12_either_14 rfl (lv_at hl 0 rfl) ?_
        have q_37 : (f_26 0 16).toInt = v_13.toInt := (congrArg Int32.toInt (show f_26 0 16 = v_13 from ((hk_f_26 0 16 (by decide)).trans ev_13.symm)))
        have q_38 : (f_26 0 15).toInt = v_16.toInt := (congrArg Int32.toInt (show f_26 0 15 = v_16 from ((hk_f_26 0 15 (by decide)).trans ev_16.symm)))
        refine sg_calli (va_runV (As := []) (rest := []) ⟨hx, hb, hml, hown, hts⟩ (kX12_both_2 l D ca za h hh f_26 L Q hI (by omega) (by omega) H.size) (sl_c12_both_29_0_0_661_12 hts ⟨Nat.le_of_ble_eq_true rfl, Nat.le_of_ble_eq_true rfl⟩) (sl_vM_0 hA hK hP hS hZ) rfl rfl hl.1 rfl (lv_room (Nat.le_of_ble_eq_true rfl)) dX12_either_15 ⟨Nat.le_refl _, Nat.le_refl _⟩) hA hS (fun r_44 f_41 L_42 Q_43 H locs hq hP hS => ?_)
        obtain ⟨⟨hI, hk_f_41, eL9, eQ9⟩, hq, p_45, p_46, p_47, u_48⟩ := hq
        rw [eL9, eQ9] at hP; clear eL9 eQ9
        have hF : sgK WkX12_either_2 f f_41 := sgK.tr hF hk_f_41 (by decide +kernel)
        obtain ⟨v_49, ev_49⟩ : ∃ z : Int32, z = f_41 0 13 := ⟨_, rfl⟩
        have q_50 : 0 ≤ v_49.toInt ∧ v_49.toInt ≤ 120 := by rw [ev_49]; exact hI 0 13
        have q_51 : (f_41 0 13).toInt = v_49.toInt := (congrArg Int32.toInt (show f_41 0 13 = v_49 from ev_49.symm))
        obtain ⟨v_52, ev_52⟩ : ∃ z : Int32, z = f_41 0 16 := ⟨_, rfl⟩
        have q_53 : 0 ≤ v_52.toInt ∧ v_52.toInt ≤ 6 := by rw [ev_52]; exact hI 0 16
        have q_54 : (f_41 0 16).toInt = v_52.toInt := (congrArg Int32.toInt (show f_41 0 16 = v_52 from ev_52.symm))
        obtain ⟨v_55, ev_55⟩ : ∃ z : Int32, z = f_41 0 15 := ⟨_, rfl⟩
        replace hs := hs.trans ((if_pos rfl).trans (spl2_e u_48 (spl_e ev_49 (spl_e ev_52 (spl_e ev_55 rfl)))))
        have q_56 : (-1) ≤ v_55.toInt ∧ v_55.toInt ≤ 120 := by rw [ev_55]; exact hI 0 15
        have q_57 : (f_41 0 15).toInt = v_55.toInt := (congrArg Int32.toInt (show f_41 0 15 = v_55 from ev_55.symm))
        refine lv_istore_n (lv' := [(2, .int r_44), (0, .ref (h 0)), (1, .int y1_5)]) hx hb dX12_either_18 rfl hl (by decide) rfl (fun ls hl => ?_)
        refine lv_iload_n hx hb dX12_either_19 rfl (lv_at hl 2 rfl) ?_
        refine lv_if_ne (tgt := 27) hx hb dX12_either_20 (by decide) (fun c => ?_) (fun c => ?_)
        · skip
          have c_59 : y1_5.toInt ≠ 0 := (by first | exact (cm_ne1 ti_0 c) | (have z := bn_ne c; have k1 : (0 : Int32).toInt = 0 := ti_0; omega))
          refine lv_iconst (v := 1) hx hb dX12_either_27 ic_1 ?_
          refine lv_goto (tgt := 32) hx hb dX12_either_28 (by decide) ?_
          refine lv_istore_n (lv' := [(1, .int 1), (2, .int r_44), (0, .ref (h 0))]) hx hb dX12_either_32 rfl hl (by decide) rfl (fun ls hl => ?_)
          refine lv_goto (tgt := 5) hx hb dX12_either_33 (by decide) ?_
          exact ih_5 1 f_41 _ _ _ (hs.trans ((if_neg c_59).trans rfl)) (by have kc0 : (1 : Int32).toInt = 1 := ti_1; have zz0_13 : (f_41 0 13).toInt = v_49.toInt := (congrArg Int32.toInt (show f_41 0 13 = v_49 from ev_49.symm)); omega) (by have kc0 : (1 : Int32).toInt = 1 := ti_1; have zz0_13 : (f_41 0 13).toInt = v_49.toInt := (congrArg Int32.toInt (show f_41 0 13 = v_49 from ev_49.symm)); omega) (by have kc0 : (1 : Int32).toInt = 1 := ti_1; have zz0_16 : (f_41 0 16).toInt = v_52.toInt := (congrArg Int32.toInt (show f_41 0 16 = v_52 from ev_52.symm)); omega) (by have kc0 : (1 : Int32).toInt = 1 := ti_1; have zz0_15 : (f_41 0 15).toInt = v_55.toInt := (congrArg Int32.toInt (show f_41 0 15 = v_55 from ev_55.symm)); have zz0_16 : (f_41 0 16).toInt = v_52.toInt := (congrArg Int32.toInt (show f_41 0 16 = v_52 from ev_52.symm)); omega) hI hF hP hS (lv_sub hl [2, 0] rfl)
        · skip
          have c_60 : y1_5.toInt = 0 := (by first | exact (cm_eq1 ti_0 c) | (have z := Int32.toInt_inj.mpr c; have k1 : (0 : Int32).toInt = 0 := ti_0; omega))
          replace hs := hs.trans ((if_pos c_60).trans rfl)
          refine lv_iload_n hx hb dX12_either_23 rfl (lv_at hl 0 rfl) ?_
          refine lv_if_eq (tgt := 31) hx hb dX12_either_24 (by decide) (fun c => ?_) (fun c => ?_)
          · skip
            have c_61 : r_44.toInt = 0 := (by first | exact (cm_eq1 ti_0 c) | (have z := Int32.toInt_inj.mpr c; have k1 : (0 : Int32).toInt = 0 := ti_0; omega))
            refine lv_iconst (v := 0) hx hb dX12_either_31 ic_0 ?_
            refine lv_istore_n (lv' := [(1, .int 0), (2, .int r_44), (0, .ref (h 0))]) hx hb dX12_either_32 rfl hl (by decide) rfl (fun ls hl => ?_)
            refine lv_goto (tgt := 5) hx hb dX12_either_33 (by decide) ?_
            exact ih_5 0 f_41 _ _ _ (hs.trans ((if_pos c_61).trans rfl)) (by have kc0 : (0 : Int32).toInt = 0 := ti_0; have zz0_13 : (f_41 0 13).toInt = v_49.toInt := (congrArg Int32.toInt (show f_41 0 13 = v_49 from ev_49.symm)); omega) (by have kc0 : (0 : Int32).toInt = 0 := ti_0; have zz0_13 : (f_41 0 13).toInt = v_49.toInt := (congrArg Int32.toInt (show f_41 0 13 = v_49 from ev_49.symm)); omega) (by have kc0 : (0 : Int32).toInt = 0 := ti_0; have zz0_16 : (f_41 0 16).toInt = v_52.toInt := (congrArg Int32.toInt (show f_41 0 16 = v_52 from ev_52.symm)); omega) (by have kc0 : (0 : Int32).toInt = 0 := ti_0; have zz0_15 : (f_41 0 15).toInt = v_55.toInt := (congrArg Int32.toInt (show f_41 0 15 = v_55 from ev_55.symm)); have zz0_16 : (f_41 0 16).toInt = v_52.toInt := (congrArg Int32.toInt (show f_41 0 16 = v_52 from ev_52.symm)); omega) hI hF hP hS (lv_sub hl [2, 0] rfl)
          · skip
            have c_62 : r_44.toInt ≠ 0 := (by first | exact (cm_ne1 ti_0 c) | (have z := bn_ne c; have k1 : (0 : Int32).toInt = 0 := ti_0; omega))
            refine lv_iconst (v := 1) hx hb dX12_either_27 ic_1 ?_
            refine lv_goto (tgt := 32) hx hb dX12_either_28 (by decide) ?_
            refine lv_istore_n (lv' := [(1, .int 1), (2, .int r_44), (0, .ref (h 0))]) hx hb dX12_either_32 rfl hl (by decide) rfl (fun ls hl => ?_)
            refine lv_goto (tgt := 5) hx hb dX12_either_33 (by decide) ?_
            exact ih_5 1 f_41 _ _ _ (hs.trans ((if_neg c_62).trans rfl)) (by have kc0 : (1 : Int32).toInt = 1 := ti_1; have zz0_13 : (f_41 0 13).toInt = v_49.toInt := (congrArg Int32.toInt (show f_41 0 13 = v_49 from ev_49.symm)); omega) (by have kc0 : (1 : Int32).toInt = 1 := ti_1; have zz0_13 : (f_41 0 13).toInt = v_49.toInt := (congrArg Int32.toInt (show f_41 0 13 = v_49 from ev_49.symm)); omega) (by have kc0 : (1 : Int32).toInt = 1 := ti_1; have zz0_16 : (f_41 0 16).toInt = v_52.toInt := (congrArg Int32.toInt (show f_41 0 16 = v_52 from ev_52.symm)); omega) (by have kc0 : (1 : Int32).toInt = 1 := ti_1; have zz0_15 : (f_41 0 15).toInt = v_55.toInt := (congrArg Int32.toInt (show f_41 0 15 = v_55 from ev_55.symm)); have zz0_16 : (f_41 0 16).toInt = v_52.toInt := (congrArg Int32.toInt (show f_41 0 16 = v_52 from ev_52.symm)); omega) hI hF hP hS (lv_sub hl [2, 0] rfl)
      · skip
        have hc_36 := hq
        refine lv_if_eq (tgt := 36) hx hb dX12_either_11 (by decide) (fun c => ?_) (fun c => absurd c (by decide))
        refine lv_iload_n hx hb dX12_either_36 rfl (lv_at hl 1 rfl) ?_
        have q_64 : (f_26 0 16).toInt = v_13.toInt := (congrArg Int32.toInt (show f_26 0 16 = v_13 from ((hk_f_26 0 16 (by decide)).trans ev_13.symm)))
        have q_65 : (f_26 0 15).toInt = v_16.toInt := (congrArg Int32.toInt (show f_26 0 15 = v_16 from ((hk_f_26 0 15 (by decide)).trans ev_16.symm)))
        exact hret _ _ _ _ (y1_5) f_26 L Q dX12_either_37 hP hS ⟨⟨hI, hF, rfl, rfl⟩, trivial, (by omega), (by omega), (by omega), (Eq.trans (Eq.symm (hs.trans ((if_neg (by decide)).trans rfl))) hsp)⟩
  refine lv_aload_n hx hb dX12_either_0 rfl (lv_at hl 0 rfl) ?_
  have q_67 : (f 0 16).toInt = v_1.toInt := (congrArg Int32.toInt (show f 0 16 = v_1 from ev_1.symm))
  have q_68 : (f 0 15).toInt = v_3.toInt := (congrArg Int32.toInt (show f 0 15 = v_3 from ev_3.symm))
  have q_70 : (f 0 13).toInt = v_5.toInt := (congrArg Int32.toInt (show f 0 13 = v_5 from ev_5.symm))
  refine sg_calli (va_runV (As := []) (rest := []) ⟨hx, hb, hml, hown, hts⟩ (kX12_both_2 l D ca za h hh f L Q hI (by omega) (by omega) H.size) (sl_c12_both_29_0_0_661_12 hts ⟨Nat.le_of_ble_eq_true rfl, Nat.le_of_ble_eq_true rfl⟩) (sl_vM_0 hA hK hP hS hZ) rfl rfl hl.1 rfl (lv_room (Nat.le_of_ble_eq_true rfl)) dX12_either_1 ⟨Nat.le_refl _, Nat.le_refl _⟩) hA hS (fun r_74 f_71 L_72 Q_73 H locs hq hP hS => ?_)
  obtain ⟨⟨hI, hk_f_71, eL9, eQ9⟩, hq, p_75, p_76, p_77, u_78⟩ := hq
  rw [eL9, eQ9] at hP; clear eL9 eQ9
  have hF : sgK WkX12_either_2 f f_71 := sgK.tr hF hk_f_71 (by decide +kernel)
  obtain ⟨v_79, ev_79⟩ : ∃ z : Int32, z = f_71 0 13 := ⟨_, rfl⟩
  have q_80 : 0 ≤ v_79.toInt ∧ v_79.toInt ≤ 120 := by rw [ev_79]; exact hI 0 13
  have q_81 : (f_71 0 13).toInt = v_79.toInt := (congrArg Int32.toInt (show f_71 0 13 = v_79 from ev_79.symm))
  obtain ⟨v_82, ev_82⟩ : ∃ z : Int32, z = f_71 0 16 := ⟨_, rfl⟩
  have q_83 : 0 ≤ v_82.toInt ∧ v_82.toInt ≤ 6 := by rw [ev_82]; exact hI 0 16
  have q_84 : (f_71 0 16).toInt = v_82.toInt := (congrArg Int32.toInt (show f_71 0 16 = v_82 from ev_82.symm))
  obtain ⟨v_85, ev_85⟩ : ∃ z : Int32, z = f_71 0 15 := ⟨_, rfl⟩
  have q_86 : (-1) ≤ v_85.toInt ∧ v_85.toInt ≤ 120 := by rw [ev_85]; exact hI 0 15
  have q_87 : (f_71 0 15).toInt = v_85.toInt := (congrArg Int32.toInt (show f_71 0 15 = v_85 from ev_85.symm))
  refine lv_istore_n (lv' := [(1, .int r_74), (0, .ref (h 0))]) hx hb dX12_either_4 rfl hl (by decide) rfl (fun ls hl => ?_)
  exact loop_5 121 r_74 f_71 _ _ _ (hs.trans ((spl_e ev_1 (spl_e ev_3 (spl_e ev_5 (spl2_e u_78 (spl_e ev_79 (spl_e ev_82 (spl_e ev_85 rfl))))))))) (by have zz0_13 : (f_71 0 13).toInt = v_79.toInt := (congrArg Int32.toInt (show f_71 0 13 = v_79 from ev_79.symm)); omega) (by have zz0_13 : (f_71 0 13).toInt = v_79.toInt := (congrArg Int32.toInt (show f_71 0 13 = v_79 from ev_79.symm)); omega) (by have zz0_16 : (f_71 0 16).toInt = v_82.toInt := (congrArg Int32.toInt (show f_71 0 16 = v_82 from ev_82.symm)); omega) (by have zz0_15 : (f_71 0 15).toInt = v_85.toInt := (congrArg Int32.toInt (show f_71 0 15 = v_85 from ev_85.symm)); have zz0_16 : (f_71 0 16).toInt = v_82.toInt := (congrArg Int32.toInt (show f_71 0 16 = v_82 from ev_82.symm)); omega) hI hF hP hS (lv_sub hl [1, 0] rfl)

abbrev WkX12_one_1 : List (Nat × Nat × Option Nat) := [(0, 0, some 13), (0, 0, some 15), (0, 0, some 16)]
set_option maxHeartbeats 4000000 in
set_option maxRecDepth 100000 in
theorem kX12_one_1 (l : Launch) (D : va_G) (ca : Nat → ClassId) (za h : Nat → Nat) (hh : sgH 26 h) (f : sg_F) (L : sg_L) (Q : sg_Q) (hI : sgI loM hiM f) (p0 : 1 ≤ (f 0 16).toInt) (p1 : 0 ≤ (f 0 15).toInt ∨ (f 0 16).toInt = 1) (sz : Nat) : Met l yX12_one gwX12_one { frames := 31, cells := 0, slots := 0, locals := 705 } (sgP D vwCl (tyX ca) 26 h (eM ca h) zcM za f L Q sz [.ref (h 0)]) (sgQi D vwCl 26 h (eM ca h) sz (fun r f1 L1 Q1 => ((sgI loM hiM f1 ∧ sgK WkX12_one_1 f f1 ∧ L1 = L ∧ Q1 = Q) ∧ True ∧ ((f 0 13).toInt ≤ (f1 0 13).toInt) ∧ (1 ≤ (f1 0 16).toInt) ∧ (0 ≤ (f1 0 15).toInt ∨ (f1 0 16).toInt = 1) ∧ (r, f1) = sX12_one_1 f L))) 0 0 (sgA 26 h sz) := by
  refine sg_ofWi (cc := cX12_one) (maxL := 5) RX12 (by decide) rfl rfl (Nat.le_of_ble_eq_true rfl) ?_
  intro p e s m below meth cd Qz ls hx hb hml hown hts hK hZ hP hS hl hret
  have hA := sgY.self (n := 26) (h := h) (sz := s.heap.size)
  have hl : lv_has ls 5 [(0, .ref (h 0))] := hl
  obtain ⟨H, hH⟩ : ∃ z : Heap, z = s.heap := ⟨_, rfl⟩
  obtain ⟨locs, hlo⟩ : ∃ z : List Loc, z = [] := ⟨_, rfl⟩
  have hP : va_P D vwCl (sgw 26 h (eM ca h) f L Q) H := by rw [hH]; exact hP
  have hS : va_S (sgA 26 h s.heap.size) s.heap H locs := by rw [hH, hlo]; exact hS
  suffices hgo : W p l e ({ frames := 31, cells := 0, slots := 0, locals := 705 }) s m ([.ref (h 0)] : List Value).toArray below meth cd H locs 0 0 Qz (F0 m 0 ls []) by rw [hH, hlo] at hgo; exact hgo
  clear hH hlo
  obtain ⟨sp, hsp⟩ : ∃ z : Int32 × sg_F, z = sX12_one_1 f L := ⟨_, rfl⟩
  have hs : sp = sX12_one_1 f L := hsp
  obtain ⟨v_1, ev_1⟩ : ∃ z : Int32, z = f 0 16 := ⟨_, rfl⟩
  have q_2 : 0 ≤ v_1.toInt ∧ v_1.toInt ≤ 6 := by rw [ev_1]; exact hI 0 16
  obtain ⟨v_3, ev_3⟩ : ∃ z : Int32, z = f 0 15 := ⟨_, rfl⟩
  have q_4 : (-1) ≤ v_3.toInt ∧ v_3.toInt ≤ 120 := by rw [ev_3]; exact hI 0 15
  obtain ⟨v_5, ev_5⟩ : ∃ z : Int32, z = f 0 13 := ⟨_, rfl⟩
  replace hs := hs.trans (spl_e ev_1 (spl_e ev_3 (spl_e ev_5 rfl)))
  have q_6 : 0 ≤ v_5.toInt ∧ v_5.toInt ≤ 120 := by rw [ev_5]; exact hI 0 13
  have o_7 : (f 0 16).toInt = v_1.toInt := (congrArg Int32.toInt (show f 0 16 = v_1 from ev_1.symm))
  have o_8 : (f 0 15).toInt = v_3.toInt := (congrArg Int32.toInt (show f 0 15 = v_3 from ev_3.symm))
  have o_9 : (f 0 13).toInt = v_5.toInt := (congrArg Int32.toInt (show f 0 13 = v_5 from ev_5.symm))
  have hF : sgK WkX12_one_1 f f := sgK.rf
  have blk_229 : ∀ (y3_229 : Int32) (y4_229 : Int32) (fp_229 : sg_F) (H : Heap) (locs : List Loc) (ls : Array Slot), sp = sX12_one_1_b229 y3_229 y4_229 fp_229 L → (-1) ≤ (fp_229 0 15).toInt ∧ (fp_229 0 15).toInt ≤ (-1) → 0 ≤ y4_229.toInt ∧ y4_229.toInt ≤ 4 → (f 0 13).toInt ≤ (fp_229 0 13).toInt → 1 ≤ (fp_229 0 16).toInt → 0 ≤ (fp_229 0 15).toInt ∨ (fp_229 0 16).toInt = 1 → sgI loM hiM fp_229 → sgK WkX12_one_1 f fp_229 → va_P D vwCl (sgw 26 h (eM ca h) fp_229 L Q) H → va_S (sgA 26 h s.heap.size) s.heap H locs → lv_has ls 5 [(0, .ref (h 0)), (3, .int y3_229), (4, .int y4_229)] → W p l e ({ frames := 31, cells := 0, slots := 0, locals := 705 }) s m ([.ref (h 0)] : List Value).toArray below meth cd H locs 0 0 Qz (F0 m 229 ls []) := by
    intro y3_229 y4_229 fp_229 H locs ls hs hy0_229 hy1_229 hg0_229 hg1_229 hg2_229 hI hF hP hS hl
    obtain ⟨v_10, ev_10⟩ : ∃ z : Int32, z = fp_229 0 15 := ⟨_, rfl⟩
    have q_11 : (-1) ≤ v_10.toInt ∧ v_10.toInt ≤ 120 := by rw [ev_10]; exact hI 0 15
    have q_12 : (fp_229 0 15).toInt = v_10.toInt := by rw [ev_10]
    obtain ⟨v_13, ev_13⟩ : ∃ z : Int32, z = fp_229 0 13 := ⟨_, rfl⟩
    have q_14 : 0 ≤ v_13.toInt ∧ v_13.toInt ≤ 120 := by rw [ev_13]; exact hI 0 13
    have q_15 : (fp_229 0 13).toInt = v_13.toInt := by rw [ev_13]
    obtain ⟨v_16, ev_16⟩ : ∃ z : Int32, z = fp_229 0 16 := ⟨_, rfl⟩
    replace hs := hs.trans (spl_e ev_10 (spl_e ev_13 (spl_e ev_16 rfl)))
    have q_17 : 0 ≤ v_16.toInt ∧ v_16.toInt ≤ 6 := by rw [ev_16]; exact hI 0 16
    have q_18 : (fp_229 0 16).toInt = v_16.toInt := by rw [ev_16]
    refine lv_iload hx hb dX12_one_229 (lv_at hl 2 rfl) ?_
    refine lv_if_ne (tgt := 241) hx hb dX12_one_231 (by decide) (fun c => ?_) (fun c => ?_)
    · skip
      have c_19 : y4_229.toInt ≠ 0 := (by first | exact (cm_ne1 ti_0 c) | (have z := bn_ne c; have k1 : (0 : Int32).toInt = 0 := ti_0; omega))
      refine lv_iload_n hx hb dX12_one_241 rfl (lv_at hl 1 rfl) ?_
      exact hret _ _ _ _ (y3_229) fp_229 L Q dX12_one_242 hP hS ⟨⟨hI, hF, rfl, rfl⟩, trivial, (by omega), (by omega), (by omega), (Eq.trans (Eq.symm (hs.trans ((if_neg c_19).trans rfl))) hsp)⟩
    · skip
      have c_20 : y4_229.toInt = 0 := (by first | exact (cm_eq1 ti_0 c) | (have z := Int32.toInt_inj.mpr c; have k1 : (0 : Int32).toInt = 0 := ti_0; omega))
      refine lv_aload_n hx hb dX12_one_234 rfl (lv_at hl 0 rfl) ?_
      refine sg_calli (va_runV (As := []) (rest := []) ⟨hx, hb, hml, hown, hts⟩ (kX12_wrong l D ca za h hh fp_229 L Q hI H.size) (sl_c12_wrong_0_0_0_0_12 hts ⟨Nat.le_of_ble_eq_true rfl, Nat.le_of_ble_eq_true rfl⟩) (sl_vM_0 hA hK hP hS hZ) rfl rfl hl.1 rfl (lv_room (Nat.le_of_ble_eq_true rfl)) dX12_one_235 ⟨Nat.le_refl _, Nat.le_refl _⟩) hA hS (fun r_28 f_25 L_26 Q_27 H locs hq hP hS => ?_)
      obtain ⟨⟨hI, hk_f_25, eL9, eQ9⟩, hq, p_29, u_30⟩ := hq
      rw [eL9, eQ9] at hP; clear eL9 eQ9
      have hF : sgK WkX12_one_1 f f_25 := sgK.tr hF hk_f_25 (by decide +kernel)
      obtain ⟨v_31, ev_31⟩ : ∃ z : Int32, z = f_25 0 15 := ⟨_, rfl⟩
      have q_32 : (-1) ≤ v_31.toInt ∧ v_31.toInt ≤ 120 := by rw [ev_31]; exact hI 0 15
      have q_33 : (f_25 0 15).toInt = v_31.toInt := (congrArg Int32.toInt (show f_25 0 15 = v_31 from ev_31.symm))
      obtain rfl : r_28 = 0 := Int32.toInt_inj.mp (by have k9 : (0 : Int32).toInt = 0 := ti_0; omega)
      refine lv_goto (tgt := 242) hx hb dX12_one_238 (by decide) ?_
      have q_34 : (f_25 0 13).toInt = v_13.toInt := (congrArg Int32.toInt (show f_25 0 13 = v_13 from ((hk_f_25 0 13 (by decide)).trans ev_13.symm)))
      have q_35 : (f_25 0 16).toInt = v_16.toInt := (congrArg Int32.toInt (show f_25 0 16 = v_16 from ((hk_f_25 0 16 (by decide)).trans ev_16.symm)))
      have k99 : (0 : Int32).toInt = 0 := ti_0
      exact hret _ _ _ _ (0) f_25 L Q dX12_one_242 hP hS ⟨⟨hI, hF, rfl, rfl⟩, trivial, (by omega), (by omega), (by omega), (Eq.trans (Eq.symm (hs.trans ((if_pos c_20).trans (spl2_e u_30 (spl_e ev_31 rfl))))) hsp)⟩
  have loop_176 : ∀ (n_176 : Nat) (y3_176 : Int32) (y4_176 : Int32) (fp_176 : sg_F) (H : Heap) (locs : List Loc) (ls : Array Slot), sp = sX12_one_1_l176 n_176 y3_176 y4_176 fp_176 L → 4 - y4_176.toInt < (n_176 : Int) → (-1) ≤ (fp_176 0 15).toInt ∧ (fp_176 0 15).toInt ≤ (-1) → 0 ≤ y4_176.toInt ∧ y4_176.toInt ≤ 4 → (f 0 13).toInt ≤ (fp_176 0 13).toInt → 1 ≤ (fp_176 0 16).toInt → 0 ≤ (fp_176 0 15).toInt ∨ (fp_176 0 16).toInt = 1 → sgI loM hiM fp_176 → sgK WkX12_one_1 f fp_176 → va_P D vwCl (sgw 26 h (eM ca h) fp_176 L Q) H → va_S (sgA 26 h s.heap.size) s.heap H locs → lv_has ls 5 [(0, .ref (h 0)), (3, .int y3_176), (4, .int y4_176)] → W p l e ({ frames := 31, cells := 0, slots := 0, locals := 705 }) s m ([.ref (h 0)] : List Value).toArray below meth cd H locs 0 0 Qz (F0 m 176 ls []) := by
    intro n_176
    induction n_176 with
    | zero => intro y3_176 y4_176 fp_176 H locs ls hs hm_176 hy0_176 hy1_176 hg0_176 hg1_176 hg2_176 hI hF hP hS hl; exact absurd hm_176 (by omega)
    | succ n_176 ih_176 =>
      intro y3_176 y4_176 fp_176 H locs ls hs hm_176 hy0_176 hy1_176 hg0_176 hg1_176 hg2_176 hI hF hP hS hl
      have hs : sp = sX12_one_1_h176 (sX12_one_1_l176 n_176) y3_176 y4_176 fp_176 L := hs
      obtain ⟨v_38, ev_38⟩ : ∃ z : Int32, z = fp_176 0 15 := ⟨_, rfl⟩
      have q_39 : (-1) ≤ v_38.toInt ∧ v_38.toInt ≤ 120 := by rw [ev_38]; exact hI 0 15
      have q_40 : (fp_176 0 15).toInt = v_38.toInt := by rw [ev_38]
      obtain ⟨v_41, ev_41⟩ : ∃ z : Int32, z = fp_176 0 13 := ⟨_, rfl⟩
      have q_42 : 0 ≤ v_41.toInt ∧ v_41.toInt ≤ 120 := by rw [ev_41]; exact hI 0 13
      have q_43 : (fp_176 0 13).toInt = v_41.toInt := by rw [ev_41]
      obtain ⟨v_44, ev_44⟩ : ∃ z : Int32, z = fp_176 0 16 := ⟨_, rfl⟩
      replace hs := hs.trans (spl_e ev_38 (spl_e ev_41 (spl_e ev_44 rfl)))
      have q_45 : 0 ≤ v_44.toInt ∧ v_44.toInt ≤ 6 := by rw [ev_44]; exact hI 0 16
      have q_46 : (fp_176 0 16).toInt = v_44.toInt := by rw [ev_44]
      refine lv_iload hx hb dX12_one_176 (lv_at hl 2 rfl) ?_
      refine lv_iconst (v := 4) hx hb dX12_one_178 ic_4 ?_
      refine lv_icmp_ge (tgt := 229) hx hb dX12_one_179 (by decide) (fun c => ?_) (fun c => ?_)
      · skip
        have c_47 : 4 ≤ y4_176.toInt := (by first | exact (cm_le0 ti_4 c) | (have z := bn_le c; have k1 : (4 : Int32).toInt = 4 := ti_4; omega))
        exact blk_229 y3_176 y4_176 fp_176 _ _ _ (hs.trans ((if_neg (Int.not_lt.mpr c_47)).trans rfl)) (by have zz0_15 : (fp_176 0 15).toInt = v_38.toInt := (congrArg Int32.toInt (show fp_176 0 15 = v_38 from ev_38.symm)); exact ⟨by omega, by omega⟩) hy1_176 (by have zz0_13 : (fp_176 0 13).toInt = v_41.toInt := (congrArg Int32.toInt (show fp_176 0 13 = v_41 from ev_41.symm)); omega) (by have zz0_16 : (fp_176 0 16).toInt = v_44.toInt := (congrArg Int32.toInt (show fp_176 0 16 = v_44 from ev_44.symm)); omega) (by have zz0_15 : (fp_176 0 15).toInt = v_38.toInt := (congrArg Int32.toInt (show fp_176 0 15 = v_38 from ev_38.symm)); have zz0_16 : (fp_176 0 16).toInt = v_44.toInt := (congrArg Int32.toInt (show fp_176 0 16 = v_44 from ev_44.symm)); omega) hI hF hP hS (lv_sub hl [0, 1, 2] rfl)
      · skip
        have c_48 : y4_176.toInt < 4 := (by first | exact (cm_nle0 ti_4 c) | (have z := bn_nle c; have k1 : (4 : Int32).toInt = 4 := ti_4; omega))
        refine lv_aload_n hx hb dX12_one_182 rfl (lv_at hl 0 rfl) ?_
        obtain ⟨v_50, ev_50⟩ : ∃ z : Int32, z = fp_176 0 14 := ⟨_, rfl⟩
        have q_51 : 0 ≤ v_50.toInt ∧ v_50.toInt ≤ 120 := by rw [ev_50]; exact hI 0 14
        have q_52 : (fp_176 0 14).toInt = v_50.toInt := (congrArg Int32.toInt (show fp_176 0 14 = v_50 from ev_50.symm))
        refine sg_calli (va_runV (As := []) (rest := []) ⟨hx, hb, hml, hown, hts⟩ (kX12_byteAt l D ca za h hh fp_176 L Q hI H.size) (sl_c12_byteAt_0_0_0_0_12 hts ⟨Nat.le_of_ble_eq_true rfl, Nat.le_of_ble_eq_true rfl⟩) (sl_vM_0 hA hK hP hS hZ) rfl rfl hl.1 rfl (lv_room (Nat.le_of_ble_eq_true rfl)) dX12_one_183 ⟨Nat.le_refl _, Nat.le_refl _⟩) hA hS (fun r_56 f_53 L_54 Q_55 H locs hq hP hS => ?_)
        obtain ⟨⟨ef9, eL9, eQ9⟩, hq, p_57, u_58⟩ := hq
        replace hs := hs.trans ((if_pos c_48).trans (spl_e ev_50 (spl_e u_58 rfl)))
        rw [ef9, eL9, eQ9] at hP; clear ef9 eL9 eQ9
        refine lv_bipush (v := 48) hx hb dX12_one_186 bp_48 ?_
        refine lv_icmp_lt (tgt := 229) hx hb dX12_one_188 (by decide) (fun c => ?_) (fun c => ?_)
        · skip
          have c_59 : r_56.toInt < 48 := (by first | exact (cm_lt1 ti_48 c) | (have z := bn_lt c; have k1 : (48 : Int32).toInt = 48 := ti_48; omega))
          exact blk_229 y3_176 y4_176 fp_176 _ _ _ (hs.trans ((if_pos c_59).trans rfl)) (by have zz0_15 : (fp_176 0 15).toInt = v_38.toInt := (congrArg Int32.toInt (show fp_176 0 15 = v_38 from ev_38.symm)); exact ⟨by omega, by omega⟩) hy1_176 (by have zz0_13 : (fp_176 0 13).toInt = v_41.toInt := (congrArg Int32.toInt (show fp_176 0 13 = v_41 from ev_41.symm)); omega) (by have zz0_16 : (fp_176 0 16).toInt = v_44.toInt := (congrArg Int32.toInt (show fp_176 0 16 = v_44 from ev_44.symm)); omega) (by have zz0_15 : (fp_176 0 15).toInt = v_38.toInt := (congrArg Int32.toInt (show fp_176 0 15 = v_38 from ev_38.symm)); have zz0_16 : (fp_176 0 16).toInt = v_44.toInt := (congrArg Int32.toInt (show fp_176 0 16 = v_44 from ev_44.symm)); omega) hI hF hP hS (lv_sub hl [0, 1, 2] rfl)
        · skip
          have c_60 : 48 ≤ r_56.toInt := (by first | exact (cm_nlt1 ti_48 c) | (have z := bn_nlt c; have k1 : (48 : Int32).toInt = 48 := ti_48; omega))
          replace hs := hs.trans ((if_neg (Int.not_lt.mpr c_60)).trans rfl)
          refine lv_aload_n hx hb dX12_one_191 rfl (lv_at hl 0 rfl) ?_
          refine sg_calli (va_runV (As := []) (rest := []) ⟨hx, hb, hml, hown, hts⟩ (kX12_byteAt l D ca za h hh fp_176 L Q hI H.size) (sl_c12_byteAt_0_0_0_0_12 hts ⟨Nat.le_of_ble_eq_true rfl, Nat.le_of_ble_eq_true rfl⟩) (sl_vM_0 hA hK hP hS hZ) rfl rfl hl.1 rfl (lv_room (Nat.le_of_ble_eq_true rfl)) dX12_one_192 ⟨Nat.le_refl _, Nat.le_refl _⟩) hA hS (fun r_66 f_63 L_64 Q_65 H locs hq hP hS => ?_)
          obtain ⟨⟨ef9, eL9, eQ9⟩, hq, p_67, u_68⟩ := hq
          rw [ef9, eL9, eQ9] at hP; clear ef9 eL9 eQ9
          rw [show r_66 = r_56 from u_68.trans u_58.symm]
          refine lv_bipush (v := 57) hx hb dX12_one_195 bp_57 ?_
          refine lv_icmp_gt (tgt := 229) hx hb dX12_one_197 (by decide) (fun c => ?_) (fun c => ?_)
          · skip
            have c_69 : 57 < r_56.toInt := (by first | exact (cm_lt0 ti_57 c) | (have z := bn_lt c; have k1 : (57 : Int32).toInt = 57 := ti_57; omega))
            exact blk_229 y3_176 y4_176 fp_176 _ _ _ (hs.trans ((if_pos c_69).trans rfl)) (by have zz0_15 : (fp_176 0 15).toInt = v_38.toInt := (congrArg Int32.toInt (show fp_176 0 15 = v_38 from ev_38.symm)); exact ⟨by omega, by omega⟩) hy1_176 (by have zz0_13 : (fp_176 0 13).toInt = v_41.toInt := (congrArg Int32.toInt (show fp_176 0 13 = v_41 from ev_41.symm)); omega) (by have zz0_16 : (fp_176 0 16).toInt = v_44.toInt := (congrArg Int32.toInt (show fp_176 0 16 = v_44 from ev_44.symm)); omega) (by have zz0_15 : (fp_176 0 15).toInt = v_38.toInt := (congrArg Int32.toInt (show fp_176 0 15 = v_38 from ev_38.symm)); have zz0_16 : (fp_176 0 16).toInt = v_44.toInt := (congrArg Int32.toInt (show fp_176 0 16 = v_44 from ev_44.symm)); omega) hI hF hP hS (lv_sub hl [0, 1, 2] rfl)
          · skip
            have c_70 : r_56.toInt ≤ 57 := (by first | exact (cm_nlt0 ti_57 c) | (have z := bn_nlt c; have k1 : (57 : Int32).toInt = 57 := ti_57; omega))
            refine lv_bipush (v := 10) hx hb dX12_one_200 bp_10 ?_
            refine lv_iload_n hx hb dX12_one_202 rfl (lv_at hl 1 rfl) ?_
            refine lv_imul hx hb dX12_one_203 ?_
            refine lv_topi (fun v_71 ev_71 => ?_)
            refine lv_aload_n hx hb dX12_one_204 rfl (lv_at hl 0 rfl) ?_
            refine sg_calli (va_runV (As := []) (rest := [.int v_71]) ⟨hx, hb, hml, hown, hts⟩ (kX12_byteAt l D ca za h hh fp_176 L Q hI H.size) (sl_c12_byteAt_0_0_0_0_12 hts ⟨Nat.le_of_ble_eq_true rfl, Nat.le_of_ble_eq_true rfl⟩) (sl_vM_0 hA hK hP hS hZ) rfl rfl hl.1 rfl (lv_room (Nat.le_of_ble_eq_true rfl)) dX12_one_205 ⟨Nat.le_refl _, Nat.le_refl _⟩) hA hS (fun r_77 f_74 L_75 Q_76 H locs hq hP hS => ?_)
            obtain ⟨⟨ef9, eL9, eQ9⟩, hq, p_78, u_79⟩ := hq
            rw [ef9, eL9, eQ9] at hP; clear ef9 eL9 eQ9
            rw [show r_77 = r_56 from u_79.trans u_58.symm]
            refine lv_iadd hx hb dX12_one_208 ?_
            refine lv_topi (fun v_80 ev_80 => ?_)
            refine lv_bipush (v := 48) hx hb dX12_one_209 bp_48 ?_
            refine lv_isub hx hb dX12_one_211 ?_
            refine lv_topi (fun v_81 ev_81 => ?_)
            refine lv_istore_n (lv' := [(3, .int v_81), (0, .ref (h 0)), (4, .int y4_176)]) hx hb dX12_one_212 rfl hl (by decide) rfl (fun ls hl => ?_)
            obtain ⟨v_82, ev_82⟩ : ∃ z : Int32, z = y4_176 + 1 := ⟨_, rfl⟩
            have q_83 : v_82.toInt = y4_176.toInt + 1 := by rw [ev_82]; exact (bn_addc y4_176 1 (by decide) (by omega) (by omega))
            refine lv_iinc (v := v_82) (lv' := [(4, .int v_82), (3, .int v_81), (0, .ref (h 0))]) hx hb dX12_one_213 hl (k := 2) rfl (by rw [ev_82]; rfl) (by decide) rfl (fun ls hl => ?_)
            refine lv_aload_n hx hb dX12_one_216 rfl (lv_at hl 2 rfl) ?_
            refine lv_dup hx hb dX12_one_217 rfl ?_
            refine sl_gM_0_13_12 (v := v_41) hx hb hts hown hK hP (show fp_176 0 13 = v_41 from ev_41.symm) dX12_one_218 ?_
            refine lv_iconst (v := 1) hx hb dX12_one_221 ic_1 ?_
            refine lv_iadd hx hb dX12_one_222 ?_
            refine lv_topi (fun v_84 ev_84 => ?_)
            have q_85 : v_84.toInt = v_41.toInt + 1 := by rw [ev_84]; first | exact cm_add ti_1 (by omega) (by omega) | (have k1 : (1 : Int32).toInt = 1 := ti_1; exact (bn_addI (by omega) (by omega)).trans (by omega))
            refine sl_pM_0_13_12 (x := v_84) hx hb hts hown hh hA hK hP hS dX12_one_223 (fun f_86 H locs ef_86 hP hS => ?_)
            have hI : sgI loM hiM f_86 := by rw [ef_86]; exact sgI.put hI 0 13 (show 0 ≤ (v_84 : Int32).toInt ∧ (v_84 : Int32).toInt ≤ 120 from ⟨by omega, by omega⟩)
            have hF : sgK WkX12_one_1 f f_86 := sgK.put hF ef_86 (by rfl)
            refine lv_goto (tgt := 176) hx hb dX12_one_226 (by decide) ?_
            exact ih_176 v_81 v_82 f_86 _ _ _ (hs.trans ((if_neg (Int.not_lt.mpr c_70)).trans (spl_e ev_71 (spl_e ev_80 (spl_e ev_81 (spl_e ev_82 (spl_e ev_84 (spl_e ef_86 rfl)))))))) (by omega) (by have zz0_15 : (f_86 0 15).toInt = v_38.toInt := (congrArg Int32.toInt (show f_86 0 15 = v_38 from (by rw [ef_86, sg_up_s, sgu_n (by decide)]; exact ev_38.symm))); exact ⟨by omega, by omega⟩) ⟨by omega, by omega⟩ (by have zz0_13 : (f_86 0 13).toInt = v_84.toInt := (congrArg Int32.toInt (show f_86 0 13 = v_84 from (by rw [ef_86, sg_up_s, sgu_s]))); omega) (by have zz0_16 : (f_86 0 16).toInt = v_44.toInt := (congrArg Int32.toInt (show f_86 0 16 = v_44 from (by rw [ef_86, sg_up_s, sgu_n (by decide)]; exact ev_44.symm))); omega) (by have zz0_15 : (f_86 0 15).toInt = v_38.toInt := (congrArg Int32.toInt (show f_86 0 15 = v_38 from (by rw [ef_86, sg_up_s, sgu_n (by decide)]; exact ev_38.symm))); have zz0_16 : (f_86 0 16).toInt = v_44.toInt := (congrArg Int32.toInt (show f_86 0 16 = v_44 from (by rw [ef_86, sg_up_s, sgu_n (by decide)]; exact ev_44.symm))); omega) hI hF hP hS (lv_sub hl [2, 1, 0] rfl)
  refine lv_aload_n hx hb dX12_one_0 rfl (lv_at hl 0 rfl) ?_
  refine sl_gM_0_15_12 (v := v_3) hx hb hts hown hK hP (show f 0 15 = v_3 from ev_3.symm) dX12_one_1 ?_
  refine lv_if_lt (tgt := 9) hx hb dX12_one_4 (by decide) (fun c => ?_) (fun c => ?_)
  · skip
    have c_87 : v_3.toInt < 0 := (by first | exact (cm_lt1 ti_0 c) | (have z := bn_lt c; have k1 : (0 : Int32).toInt = 0 := ti_0; omega))
    refine lv_aload_n hx hb dX12_one_9 rfl (lv_at hl 0 rfl) ?_
    have q_89 : (f 0 13).toInt = v_5.toInt := (congrArg Int32.toInt (show f 0 13 = v_5 from ev_5.symm))
    obtain ⟨v_90, ev_90⟩ : ∃ z : Int32, z = f 0 14 := ⟨_, rfl⟩
    have q_91 : 0 ≤ v_90.toInt ∧ v_90.toInt ≤ 120 := by rw [ev_90]; exact hI 0 14
    have q_92 : (f 0 14).toInt = v_90.toInt := (congrArg Int32.toInt (show f 0 14 = v_90 from ev_90.symm))
    refine sg_calli (va_runV (As := []) (rest := []) ⟨hx, hb, hml, hown, hts⟩ (kX12_byteAt l D ca za h hh f L Q hI H.size) (sl_c12_byteAt_0_0_0_0_12 hts ⟨Nat.le_of_ble_eq_true rfl, Nat.le_of_ble_eq_true rfl⟩) (sl_vM_0 hA hK hP hS hZ) rfl rfl hl.1 rfl (lv_room (Nat.le_of_ble_eq_true rfl)) dX12_one_10 ⟨Nat.le_refl _, Nat.le_refl _⟩) hA hS (fun r_96 f_93 L_94 Q_95 H locs hq hP hS => ?_)
    obtain ⟨⟨ef9, eL9, eQ9⟩, hq, p_97, u_98⟩ := hq
    replace hs := hs.trans ((if_pos c_87).trans (spl_e ev_90 (spl_e u_98 rfl)))
    rw [ef9, eL9, eQ9] at hP; clear ef9 eL9 eQ9
    refine lv_istore_n (lv' := [(1, .int r_96), (0, .ref (h 0))]) hx hb dX12_one_13 rfl hl (by decide) rfl (fun ls hl => ?_)
    refine lv_iload_n hx hb dX12_one_14 rfl (lv_at hl 0 rfl) ?_
    refine lv_bipush (v := 33) hx hb dX12_one_15 bp_33 ?_
    refine lv_icmp_eq (tgt := 32) hx hb dX12_one_17 (by decide) (fun c => ?_) (fun c => ?_)
    · skip
      have c_99 : r_96.toInt = 33 := (by first | exact (cm_eq1 ti_33 c) | (have z := Int32.toInt_inj.mpr c; have k1 : (33 : Int32).toInt = 33 := ti_33; omega))
      refine lv_aload_n hx hb dX12_one_32 rfl (lv_at hl 1 rfl) ?_
      have c_101 : v_1 = 1 := Int32.toInt_inj.mp (by have k9 : (1 : Int32).toInt = 1 := ti_1; omega)
      refine sl_gM_0_16_12 (v := 1) hx hb hts hown hK hP (show f 0 16 = 1 from (Eq.trans ev_1.symm c_101)) dX12_one_33 ?_
      refine lv_bipush (v := 6) hx hb dX12_one_36 bp_6 ?_
      refine lv_icmp_ne (tgt := 46) hx hb dX12_one_38 (by decide) (fun c => ?_) (fun c => absurd c (by decide))
      refine lv_aload_n hx hb dX12_one_46 rfl (lv_at hl 1 rfl) ?_
      refine lv_dup hx hb dX12_one_47 rfl ?_
      refine sl_gM_0_16_12 (v := 1) hx hb hts hown hK hP (show f 0 16 = 1 from (Eq.trans ev_1.symm c_101)) dX12_one_48 ?_
      refine lv_iconst (v := 1) hx hb dX12_one_51 ic_1 ?_
      refine lv_iadd hx hb dX12_one_52 ?_
      refine W.eq (g2 := F0 m 53 ls [.int 2, .ref (h 0)]) (by rw [show (1 + 1 : Int32) = 2 from by decide]) ?_
      refine sl_pM_0_16_12 (x := 2) hx hb hts hown hh hA hK hP hS dX12_one_53 (fun f_102 H locs ef_102 hP hS => ?_)
      have hI : sgI loM hiM f_102 := by rw [ef_102]; exact sgI.put hI 0 16 (show 0 ≤ (2 : Int32).toInt ∧ (2 : Int32).toInt ≤ 6 from by decide)
      have hF : sgK WkX12_one_1 f f_102 := sgK.put hF ef_102 (by rfl)
      refine lv_aload_n hx hb dX12_one_56 rfl (lv_at hl 1 rfl) ?_
      refine lv_dup hx hb dX12_one_57 rfl ?_
      refine sl_gM_0_13_12 (v := v_5) hx hb hts hown hK hP (show f_102 0 13 = v_5 from (by rw [ef_102, sg_up_s, sgu_n (by decide)]; exact ev_5.symm)) dX12_one_58 ?_
      refine lv_iconst (v := 1) hx hb dX12_one_61 ic_1 ?_
      refine lv_iadd hx hb dX12_one_62 ?_
      refine lv_topi (fun v_103 ev_103 => ?_)
      have q_104 : v_103.toInt = v_5.toInt + 1 := by rw [ev_103]; first | exact cm_add ti_1 (by omega) (by omega) | (have k1 : (1 : Int32).toInt = 1 := ti_1; exact (bn_addI (by omega) (by omega)).trans (by omega))
      refine sl_pM_0_13_12 (x := v_103) hx hb hts hown hh hA hK hP hS dX12_one_63 (fun f_105 H locs ef_105 hP hS => ?_)
      have hI : sgI loM hiM f_105 := by rw [ef_105]; exact sgI.put hI 0 13 (show 0 ≤ (v_103 : Int32).toInt ∧ (v_103 : Int32).toInt ≤ 120 from ⟨by omega, by omega⟩)
      have hF : sgK WkX12_one_1 f f_105 := sgK.put hF ef_105 (by rfl)
      refine lv_iload_n hx hb dX12_one_66 rfl (lv_at hl 0 rfl) ?_
      refine lv_bipush (v := 40) hx hb dX12_one_67 bp_40 ?_
      refine lv_icmp_ne (tgt := 79) hx hb dX12_one_69 (by decide) (fun c => ?_) (fun c => ?_)
      · skip
        have c_106 : r_96.toInt ≠ 40 := (by first | exact (cm_ne1 ti_40 c) | (have z := bn_ne c; have k1 : (40 : Int32).toInt = 40 := ti_40; omega))
        refine lv_aload_n hx hb dX12_one_79 rfl (lv_at hl 1 rfl) ?_
        have q_108 : (f_105 0 16).toInt = 2 := (congrArg Int32.toInt (show f_105 0 16 = 2 from (by rw [ef_105, sg_up_s, sgu_n (by decide)]; exact (by rw [ef_102, sg_up_s, sgu_s])))).trans (by decide)
        have q_109 : (f_105 0 15).toInt = v_3.toInt := (congrArg Int32.toInt (show f_105 0 15 = v_3 from (by rw [ef_105, sg_up_s, sgu_n (by decide)]; exact (by rw [ef_102, sg_up_s, sgu_n (by decide)]; exact ev_3.symm))))
        have q_111 : (f_105 0 13).toInt = v_103.toInt := (congrArg Int32.toInt (show f_105 0 13 = v_103 from (by rw [ef_105, sg_up_s, sgu_s])))
        refine sg_calli (va_runV (As := []) (rest := []) ⟨hx, hb, hml, hown, hts⟩ (kX12_one_2 l D ca za h hh f_105 L Q hI (by omega) (by omega) H.size) (sl_c12_one_25_0_0_568_12 hts ⟨Nat.le_of_ble_eq_true rfl, Nat.le_of_ble_eq_true rfl⟩) (sl_vM_0 hA hK hP hS hZ) rfl rfl hl.1 rfl (lv_room (Nat.le_of_ble_eq_true rfl)) dX12_one_80 ⟨Nat.le_refl _, Nat.le_refl _⟩) hA hS (fun r_115 f_112 L_113 Q_114 H locs hq hP hS => ?_)
        obtain ⟨⟨hI, hk_f_112, eL9, eQ9⟩, hq, p_116, p_117, p_118, u_119⟩ := hq
        rw [eL9, eQ9] at hP; clear eL9 eQ9
        have hF : sgK WkX12_one_1 f f_112 := sgK.tr hF hk_f_112 (by decide +kernel)
        obtain ⟨v_120, ev_120⟩ : ∃ z : Int32, z = f_112 0 13 := ⟨_, rfl⟩
        have q_121 : 0 ≤ v_120.toInt ∧ v_120.toInt ≤ 120 := by rw [ev_120]; exact hI 0 13
        have q_122 : (f_112 0 13).toInt = v_120.toInt := (congrArg Int32.toInt (show f_112 0 13 = v_120 from ev_120.symm))
        obtain ⟨v_123, ev_123⟩ : ∃ z : Int32, z = f_112 0 16 := ⟨_, rfl⟩
        have q_124 : 0 ≤ v_123.toInt ∧ v_123.toInt ≤ 6 := by rw [ev_123]; exact hI 0 16
        have q_125 : (f_112 0 16).toInt = v_123.toInt := (congrArg Int32.toInt (show f_112 0 16 = v_123 from ev_123.symm))
        obtain ⟨v_126, ev_126⟩ : ∃ z : Int32, z = f_112 0 15 := ⟨_, rfl⟩
        have q_127 : (-1) ≤ v_126.toInt ∧ v_126.toInt ≤ 120 := by rw [ev_126]; exact hI 0 15
        have q_128 : (f_112 0 15).toInt = v_126.toInt := (congrArg Int32.toInt (show f_112 0 15 = v_126 from ev_126.symm))
        refine lv_istore_n (lv' := [(2, .int r_115), (1, .int r_96), (0, .ref (h 0))]) hx hb dX12_one_83 rfl hl (by decide) rfl (fun ls hl => ?_)
        refine lv_iload_n hx hb dX12_one_84 rfl (lv_at hl 1 rfl) ?_
        refine lv_bipush (v := 40) hx hb dX12_one_85 bp_40 ?_
        refine lv_icmp_ne (tgt := 104) hx hb dX12_one_87 (by decide) (fun c => ?_) (fun c => ?_)
        · skip
          have c_130 : r_96.toInt ≠ 40 := (by first | exact (cm_ne1 ti_40 c) | (have z := bn_ne c; have k1 : (40 : Int32).toInt = 40 := ti_40; omega))
          refine lv_aload_n hx hb dX12_one_104 rfl (lv_at hl 2 rfl) ?_
          refine lv_dup hx hb dX12_one_105 rfl ?_
          refine sl_gM_0_16_12 (v := v_123) hx hb hts hown hK hP (show f_112 0 16 = v_123 from ev_123.symm) dX12_one_106 ?_
          refine lv_iconst (v := 1) hx hb dX12_one_109 ic_1 ?_
          refine lv_isub hx hb dX12_one_110 ?_
          refine lv_topi (fun v_132 ev_132 => ?_)
          have q_133 : v_132.toInt = v_123.toInt - 1 := by rw [ev_132]; first | exact cm_sub ti_1 (by omega) (by omega) | (have k1 : (1 : Int32).toInt = 1 := ti_1; exact (bn_subI (by omega) (by omega)).trans (by omega))
          refine sl_pM_0_16_12 (x := v_132) hx hb hts hown hh hA hK hP hS dX12_one_111 (fun f_134 H locs ef_134 hP hS => ?_)
          replace hs := hs.trans ((if_pos c_99).trans (spl_e ef_102 (spl_e ev_103 (spl_e ef_105 (spl2_e u_119 (spl_e ev_120 (spl_e ev_123 (spl_e ev_126 (spl_e ev_132 (spl_e ef_134 rfl))))))))))
          have hI : sgI loM hiM f_134 := by rw [ef_134]; exact sgI.put hI 0 16 (show 0 ≤ (v_132 : Int32).toInt ∧ (v_132 : Int32).toInt ≤ 6 from ⟨by omega, by omega⟩)
          have hF : sgK WkX12_one_1 f f_134 := sgK.put hF ef_134 (by rfl)
          refine lv_iload_n hx hb dX12_one_114 rfl (lv_at hl 1 rfl) ?_
          refine lv_bipush (v := 40) hx hb dX12_one_115 bp_40 ?_
          refine lv_icmp_ne (tgt := 124) hx hb dX12_one_117 (by decide) (fun c => ?_) (fun c => ?_)
          · skip
            have c_135 : r_96.toInt ≠ 40 := (by first | exact (cm_ne1 ti_40 c) | (have z := bn_ne c; have k1 : (40 : Int32).toInt = 40 := ti_40; omega))
            refine lv_iload_n hx hb dX12_one_124 rfl (lv_at hl 1 rfl) ?_
            refine lv_bipush (v := 45) hx hb dX12_one_125 bp_45 ?_
            refine lv_icmp_ne (tgt := 135) hx hb dX12_one_127 (by decide) (fun c => ?_) (fun c => ?_)
            · skip
              have c_137 : r_96.toInt ≠ 45 := (by first | exact (cm_ne1 ti_45 c) | (have z := bn_ne c; have k1 : (45 : Int32).toInt = 45 := ti_45; omega))
              refine lv_iload_n hx hb dX12_one_135 rfl (lv_at hl 0 rfl) ?_
              refine lv_if_ne (tgt := 143) hx hb dX12_one_136 (by decide) (fun c => ?_) (fun c => ?_)
              · skip
                have c_139 : r_115.toInt ≠ 0 := (by first | exact (cm_ne1 ti_0 c) | (have z := bn_ne c; have k1 : (0 : Int32).toInt = 0 := ti_0; omega))
                refine lv_iconst (v := 0) hx hb dX12_one_143 ic_0 ?_
                have q_141 : (f_134 0 13).toInt = v_120.toInt := (congrArg Int32.toInt (show f_134 0 13 = v_120 from (by rw [ef_134, sg_up_s, sgu_n (by decide)]; exact ev_120.symm)))
                have q_142 : (f_134 0 16).toInt = v_132.toInt := (congrArg Int32.toInt (show f_134 0 16 = v_132 from (by rw [ef_134, sg_up_s, sgu_s])))
                have q_143 : (f_134 0 15).toInt = v_126.toInt := (congrArg Int32.toInt (show f_134 0 15 = v_126 from (by rw [ef_134, sg_up_s, sgu_n (by decide)]; exact ev_126.symm)))
                have k99 : (0 : Int32).toInt = 0 := ti_0
                exact hret _ _ _ _ (0) f_134 L Q dX12_one_144 hP hS ⟨⟨hI, hF, rfl, rfl⟩, trivial, (by omega), (by omega), (by omega), (Eq.trans (Eq.symm (hs.trans ((if_neg c_139).trans rfl))) hsp)⟩
              · skip
                have c_140 : r_115.toInt = 0 := (by first | exact (cm_eq1 ti_0 c) | (have z := Int32.toInt_inj.mpr c; have k1 : (0 : Int32).toInt = 0 := ti_0; omega))
                refine lv_iconst (v := 1) hx hb dX12_one_139 ic_1 ?_
                refine lv_goto (tgt := 144) hx hb dX12_one_140 (by decide) ?_
                have q_145 : (f_134 0 13).toInt = v_120.toInt := (congrArg Int32.toInt (show f_134 0 13 = v_120 from (by rw [ef_134, sg_up_s, sgu_n (by decide)]; exact ev_120.symm)))
                have q_146 : (f_134 0 16).toInt = v_132.toInt := (congrArg Int32.toInt (show f_134 0 16 = v_132 from (by rw [ef_134, sg_up_s, sgu_s])))
                have q_147 : (f_134 0 15).toInt = v_126.toInt := (congrArg Int32.toInt (show f_134 0 15 = v_126 from (by rw [ef_134, sg_up_s, sgu_n (by decide)]; exact ev_126.symm)))
                have k99 : (1 : Int32).toInt = 1 := ti_1
                exact hret _ _ _ _ (1) f_134 L Q dX12_one_144 hP hS ⟨⟨hI, hF, rfl, rfl⟩, trivial, (by omega), (by omega), (by omega), (Eq.trans (Eq.symm (hs.trans ((if_pos c_140).trans rfl))) hsp)⟩
            · skip
              exfalso; have c_138 : r_96.toInt = 45 := (by first | exact (cm_eq1 ti_45 c) | (have z := Int32.toInt_inj.mpr c; have k1 : (45 : Int32).toInt = 45 := ti_45; omega)); first | exact absurd c_138 (by assumption) | omega
          · skip
            exfalso; have c_136 : r_96.toInt = 40 := (by first | exact (cm_eq1 ti_40 c) | (have z := Int32.toInt_inj.mpr c; have k1 : (40 : Int32).toInt = 40 := ti_40; omega)); first | exact absurd c_136 (by assumption) | omega
        · skip
          exfalso; have c_131 : r_96.toInt = 40 := (by first | exact (cm_eq1 ti_40 c) | (have z := Int32.toInt_inj.mpr c; have k1 : (40 : Int32).toInt = 40 := ti_40; omega)); first | exact absurd c_131 (by assumption) | omega
      · skip
        exfalso; have c_107 : r_96.toInt = 40 := (by first | exact (cm_eq1 ti_40 c) | (have z := Int32.toInt_inj.mpr c; have k1 : (40 : Int32).toInt = 40 := ti_40; omega)); first | exact absurd c_107 (by assumption) | omega
    · skip
      have c_100 : r_96.toInt ≠ 33 := (by first | exact (cm_ne1 ti_33 c) | (have z := bn_ne c; have k1 : (33 : Int32).toInt = 33 := ti_33; omega))
      replace hs := hs.trans ((if_neg c_100).trans rfl)
      refine lv_iload_n hx hb dX12_one_20 rfl (lv_at hl 0 rfl) ?_
      refine lv_bipush (v := 45) hx hb dX12_one_21 bp_45 ?_
      refine lv_icmp_eq (tgt := 32) hx hb dX12_one_23 (by decide) (fun c => ?_) (fun c => ?_)
      · skip
        have c_149 : r_96.toInt = 45 := (by first | exact (cm_eq1 ti_45 c) | (have z := Int32.toInt_inj.mpr c; have k1 : (45 : Int32).toInt = 45 := ti_45; omega))
        refine lv_aload_n hx hb dX12_one_32 rfl (lv_at hl 1 rfl) ?_
        have c_151 : v_1 = 1 := Int32.toInt_inj.mp (by have k9 : (1 : Int32).toInt = 1 := ti_1; omega)
        refine sl_gM_0_16_12 (v := 1) hx hb hts hown hK hP (show f 0 16 = 1 from (Eq.trans ev_1.symm c_151)) dX12_one_33 ?_
        refine lv_bipush (v := 6) hx hb dX12_one_36 bp_6 ?_
        refine lv_icmp_ne (tgt := 46) hx hb dX12_one_38 (by decide) (fun c => ?_) (fun c => absurd c (by decide))
        refine lv_aload_n hx hb dX12_one_46 rfl (lv_at hl 1 rfl) ?_
        refine lv_dup hx hb dX12_one_47 rfl ?_
        refine sl_gM_0_16_12 (v := 1) hx hb hts hown hK hP (show f 0 16 = 1 from (Eq.trans ev_1.symm c_151)) dX12_one_48 ?_
        refine lv_iconst (v := 1) hx hb dX12_one_51 ic_1 ?_
        refine lv_iadd hx hb dX12_one_52 ?_
        refine W.eq (g2 := F0 m 53 ls [.int 2, .ref (h 0)]) (by rw [show (1 + 1 : Int32) = 2 from by decide]) ?_
        refine sl_pM_0_16_12 (x := 2) hx hb hts hown hh hA hK hP hS dX12_one_53 (fun f_152 H locs ef_152 hP hS => ?_)
        have hI : sgI loM hiM f_152 := by rw [ef_152]; exact sgI.put hI 0 16 (show 0 ≤ (2 : Int32).toInt ∧ (2 : Int32).toInt ≤ 6 from by decide)
        have hF : sgK WkX12_one_1 f f_152 := sgK.put hF ef_152 (by rfl)
        refine lv_aload_n hx hb dX12_one_56 rfl (lv_at hl 1 rfl) ?_
        refine lv_dup hx hb dX12_one_57 rfl ?_
        refine sl_gM_0_13_12 (v := v_5) hx hb hts hown hK hP (show f_152 0 13 = v_5 from (by rw [ef_152, sg_up_s, sgu_n (by decide)]; exact ev_5.symm)) dX12_one_58 ?_
        refine lv_iconst (v := 1) hx hb dX12_one_61 ic_1 ?_
        refine lv_iadd hx hb dX12_one_62 ?_
        refine lv_topi (fun v_153 ev_153 => ?_)
        have q_154 : v_153.toInt = v_5.toInt + 1 := by rw [ev_153]; first | exact cm_add ti_1 (by omega) (by omega) | (have k1 : (1 : Int32).toInt = 1 := ti_1; exact (bn_addI (by omega) (by omega)).trans (by omega))
        refine sl_pM_0_13_12 (x := v_153) hx hb hts hown hh hA hK hP hS dX12_one_63 (fun f_155 H locs ef_155 hP hS => ?_)
        have hI : sgI loM hiM f_155 := by rw [ef_155]; exact sgI.put hI 0 13 (show 0 ≤ (v_153 : Int32).toInt ∧ (v_153 : Int32).toInt ≤ 120 from ⟨by omega, by omega⟩)
        have hF : sgK WkX12_one_1 f f_155 := sgK.put hF ef_155 (by rfl)
        refine lv_iload_n hx hb dX12_one_66 rfl (lv_at hl 0 rfl) ?_
        refine lv_bipush (v := 40) hx hb dX12_one_67 bp_40 ?_
        refine lv_icmp_ne (tgt := 79) hx hb dX12_one_69 (by decide) (fun c => ?_) (fun c => ?_)
        · skip
          have c_156 : r_96.toInt ≠ 40 := (by first | exact (cm_ne1 ti_40 c) | (have z := bn_ne c; have k1 : (40 : Int32).toInt = 40 := ti_40; omega))
          refine lv_aload_n hx hb dX12_one_79 rfl (lv_at hl 1 rfl) ?_
          have q_158 : (f_155 0 16).toInt = 2 := (congrArg Int32.toInt (show f_155 0 16 = 2 from (by rw [ef_155, sg_up_s, sgu_n (by decide)]; exact (by rw [ef_152, sg_up_s, sgu_s])))).trans (by decide)
          have q_159 : (f_155 0 15).toInt = v_3.toInt := (congrArg Int32.toInt (show f_155 0 15 = v_3 from (by rw [ef_155, sg_up_s, sgu_n (by decide)]; exact (by rw [ef_152, sg_up_s, sgu_n (by decide)]; exact ev_3.symm))))
          have q_161 : (f_155 0 13).toInt = v_153.toInt := (congrArg Int32.toInt (show f_155 0 13 = v_153 from (by rw [ef_155, sg_up_s, sgu_s])))
          refine sg_calli (va_runV (As := []) (rest := []) ⟨hx, hb, hml, hown, hts⟩ (kX12_one_2 l D ca za h hh f_155 L Q hI (by omega) (by omega) H.size) (sl_c12_one_25_0_0_568_12 hts ⟨Nat.le_of_ble_eq_true rfl, Nat.le_of_ble_eq_true rfl⟩) (sl_vM_0 hA hK hP hS hZ) rfl rfl hl.1 rfl (lv_room (Nat.le_of_ble_eq_true rfl)) dX12_one_80 ⟨Nat.le_refl _, Nat.le_refl _⟩) hA hS (fun r_165 f_162 L_163 Q_164 H locs hq hP hS => ?_)
          obtain ⟨⟨hI, hk_f_162, eL9, eQ9⟩, hq, p_166, p_167, p_168, u_169⟩ := hq
          rw [eL9, eQ9] at hP; clear eL9 eQ9
          have hF : sgK WkX12_one_1 f f_162 := sgK.tr hF hk_f_162 (by decide +kernel)
          obtain ⟨v_170, ev_170⟩ : ∃ z : Int32, z = f_162 0 13 := ⟨_, rfl⟩
          have q_171 : 0 ≤ v_170.toInt ∧ v_170.toInt ≤ 120 := by rw [ev_170]; exact hI 0 13
          have q_172 : (f_162 0 13).toInt = v_170.toInt := (congrArg Int32.toInt (show f_162 0 13 = v_170 from ev_170.symm))
          obtain ⟨v_173, ev_173⟩ : ∃ z : Int32, z = f_162 0 16 := ⟨_, rfl⟩
          have q_174 : 0 ≤ v_173.toInt ∧ v_173.toInt ≤ 6 := by rw [ev_173]; exact hI 0 16
          have q_175 : (f_162 0 16).toInt = v_173.toInt := (congrArg Int32.toInt (show f_162 0 16 = v_173 from ev_173.symm))
          obtain ⟨v_176, ev_176⟩ : ∃ z : Int32, z = f_162 0 15 := ⟨_, rfl⟩
          have q_177 : (-1) ≤ v_176.toInt ∧ v_176.toInt ≤ 120 := by rw [ev_176]; exact hI 0 15
          have q_178 : (f_162 0 15).toInt = v_176.toInt := (congrArg Int32.toInt (show f_162 0 15 = v_176 from ev_176.symm))
          refine lv_istore_n (lv' := [(2, .int r_165), (1, .int r_96), (0, .ref (h 0))]) hx hb dX12_one_83 rfl hl (by decide) rfl (fun ls hl => ?_)
          refine lv_iload_n hx hb dX12_one_84 rfl (lv_at hl 1 rfl) ?_
          refine lv_bipush (v := 40) hx hb dX12_one_85 bp_40 ?_
          refine lv_icmp_ne (tgt := 104) hx hb dX12_one_87 (by decide) (fun c => ?_) (fun c => ?_)
          · skip
            have c_180 : r_96.toInt ≠ 40 := (by first | exact (cm_ne1 ti_40 c) | (have z := bn_ne c; have k1 : (40 : Int32).toInt = 40 := ti_40; omega))
            refine lv_aload_n hx hb dX12_one_104 rfl (lv_at hl 2 rfl) ?_
            refine lv_dup hx hb dX12_one_105 rfl ?_
            refine sl_gM_0_16_12 (v := v_173) hx hb hts hown hK hP (show f_162 0 16 = v_173 from ev_173.symm) dX12_one_106 ?_
            refine lv_iconst (v := 1) hx hb dX12_one_109 ic_1 ?_
            refine lv_isub hx hb dX12_one_110 ?_
            refine lv_topi (fun v_182 ev_182 => ?_)
            have q_183 : v_182.toInt = v_173.toInt - 1 := by rw [ev_182]; first | exact cm_sub ti_1 (by omega) (by omega) | (have k1 : (1 : Int32).toInt = 1 := ti_1; exact (bn_subI (by omega) (by omega)).trans (by omega))
            refine sl_pM_0_16_12 (x := v_182) hx hb hts hown hh hA hK hP hS dX12_one_111 (fun f_184 H locs ef_184 hP hS => ?_)
            have hI : sgI loM hiM f_184 := by rw [ef_184]; exact sgI.put hI 0 16 (show 0 ≤ (v_182 : Int32).toInt ∧ (v_182 : Int32).toInt ≤ 6 from ⟨by omega, by omega⟩)
            have hF : sgK WkX12_one_1 f f_184 := sgK.put hF ef_184 (by rfl)
            refine lv_iload_n hx hb dX12_one_114 rfl (lv_at hl 1 rfl) ?_
            refine lv_bipush (v := 40) hx hb dX12_one_115 bp_40 ?_
            refine lv_icmp_ne (tgt := 124) hx hb dX12_one_117 (by decide) (fun c => ?_) (fun c => ?_)
            · skip
              have c_185 : r_96.toInt ≠ 40 := (by first | exact (cm_ne1 ti_40 c) | (have z := bn_ne c; have k1 : (40 : Int32).toInt = 40 := ti_40; omega))
              refine lv_iload_n hx hb dX12_one_124 rfl (lv_at hl 1 rfl) ?_
              refine lv_bipush (v := 45) hx hb dX12_one_125 bp_45 ?_
              refine lv_icmp_ne (tgt := 135) hx hb dX12_one_127 (by decide) (fun c => ?_) (fun c => ?_)
              · skip
                exfalso; have c_187 : r_96.toInt ≠ 45 := (by first | exact (cm_ne1 ti_45 c) | (have z := bn_ne c; have k1 : (45 : Int32).toInt = 45 := ti_45; omega)); first | exact absurd (by assumption) c_187 | omega
              · skip
                have c_188 : r_96.toInt = 45 := (by first | exact (cm_eq1 ti_45 c) | (have z := Int32.toInt_inj.mpr c; have k1 : (45 : Int32).toInt = 45 := ti_45; omega))
                refine lv_iload_n hx hb dX12_one_130 rfl (lv_at hl 0 rfl) ?_
                refine lv_ineg hx hb dX12_one_131 ?_
                refine lv_topi (fun v_189 ev_189 => ?_)
                refine lv_goto (tgt := 144) hx hb dX12_one_132 (by decide) ?_
                have q_190 : (f_184 0 13).toInt = v_170.toInt := (congrArg Int32.toInt (show f_184 0 13 = v_170 from (by rw [ef_184, sg_up_s, sgu_n (by decide)]; exact ev_170.symm)))
                have q_191 : (f_184 0 16).toInt = v_182.toInt := (congrArg Int32.toInt (show f_184 0 16 = v_182 from (by rw [ef_184, sg_up_s, sgu_s])))
                have q_192 : (f_184 0 15).toInt = v_176.toInt := (congrArg Int32.toInt (show f_184 0 15 = v_176 from (by rw [ef_184, sg_up_s, sgu_n (by decide)]; exact ev_176.symm)))
                exact hret _ _ _ _ (v_189) f_184 L Q dX12_one_144 hP hS ⟨⟨hI, hF, rfl, rfl⟩, trivial, (by omega), (by omega), (by omega), (Eq.trans (Eq.symm (hs.trans ((if_pos c_149).trans (spl_e ef_152 (spl_e ev_153 (spl_e ef_155 (spl2_e u_169 (spl_e ev_170 (spl_e ev_173 (spl_e ev_176 (spl_e ev_182 (spl_e ef_184 (spl_e ev_189 rfl))))))))))))) hsp)⟩
            · skip
              exfalso; have c_186 : r_96.toInt = 40 := (by first | exact (cm_eq1 ti_40 c) | (have z := Int32.toInt_inj.mpr c; have k1 : (40 : Int32).toInt = 40 := ti_40; omega)); first | exact absurd c_186 (by assumption) | omega
          · skip
            exfalso; have c_181 : r_96.toInt = 40 := (by first | exact (cm_eq1 ti_40 c) | (have z := Int32.toInt_inj.mpr c; have k1 : (40 : Int32).toInt = 40 := ti_40; omega)); first | exact absurd c_181 (by assumption) | omega
        · skip
          exfalso; have c_157 : r_96.toInt = 40 := (by first | exact (cm_eq1 ti_40 c) | (have z := Int32.toInt_inj.mpr c; have k1 : (40 : Int32).toInt = 40 := ti_40; omega)); first | exact absurd c_157 (by assumption) | omega
      · skip
        have c_150 : r_96.toInt ≠ 45 := (by first | exact (cm_ne1 ti_45 c) | (have z := bn_ne c; have k1 : (45 : Int32).toInt = 45 := ti_45; omega))
        replace hs := hs.trans ((if_neg c_150).trans rfl)
        refine lv_iload_n hx hb dX12_one_26 rfl (lv_at hl 0 rfl) ?_
        refine lv_bipush (v := 40) hx hb dX12_one_27 bp_40 ?_
        refine lv_icmp_ne (tgt := 145) hx hb dX12_one_29 (by decide) (fun c => ?_) (fun c => ?_)
        · skip
          have c_194 : r_96.toInt ≠ 40 := (by first | exact (cm_ne1 ti_40 c) | (have z := bn_ne c; have k1 : (40 : Int32).toInt = 40 := ti_40; omega))
          refine lv_iload_n hx hb dX12_one_145 rfl (lv_at hl 0 rfl) ?_
          refine sg_calli (va_runS (As := [.int r_96]) (rest := []) ⟨hx, hb, hml, hown, hts⟩ (kX12_nameOf l D ca za h hh f L Q hI r_96 ⟨by omega, by omega⟩ H.size) (va_cwS 1 hts (gw_S (fun _ h => List.mem_cons_of_mem _ h) mw_869 mw_870 mw_619 mw_868) rfl rfl rfl hd_yX12_nameOf.2 ⟨Nat.le_of_ble_eq_true rfl, Nat.le_of_ble_eq_true rfl⟩) (sg_preS hA hK hP hS hZ) rfl rfl hl.1 rfl (lv_room (Nat.le_of_ble_eq_true rfl)) dX12_one_146 ⟨Nat.le_refl _, Nat.le_refl _⟩) hA hS (fun r_199 f_196 L_197 Q_198 H locs hq hP hS => ?_)
          obtain ⟨⟨ef9, eL9, eQ9⟩, hq, p_200, u_201⟩ := hq
          replace hs := hs.trans ((if_neg c_194).trans (spl_e u_201 rfl))
          rw [ef9, eL9, eQ9] at hP; clear ef9 eL9 eQ9
          refine lv_istore_n (lv' := [(2, .int r_199), (1, .int r_96), (0, .ref (h 0))]) hx hb dX12_one_149 rfl hl (by decide) rfl (fun ls hl => ?_)
          refine lv_iload_n hx hb dX12_one_150 rfl (lv_at hl 0 rfl) ?_
          refine lv_if_lt (tgt := 171) hx hb dX12_one_151 (by decide) (fun c => ?_) (fun c => ?_)
          · skip
            have c_202 : r_199.toInt < 0 := (by first | exact (cm_lt1 ti_0 c) | (have z := bn_lt c; have k1 : (0 : Int32).toInt = 0 := ti_0; omega))
            refine lv_iconst (v := 0) hx hb dX12_one_171 ic_0 ?_
            refine lv_istore_n (lv' := [(3, .int 0), (2, .int r_199), (1, .int r_96), (0, .ref (h 0))]) hx hb dX12_one_172 rfl hl (by decide) rfl (fun ls hl => ?_)
            refine lv_iconst (v := 0) hx hb dX12_one_173 ic_0 ?_
            refine lv_istore (lv' := [(4, .int 0), (3, .int 0), (2, .int r_199), (1, .int r_96), (0, .ref (h 0))]) hx hb dX12_one_174 hl (by decide) rfl (fun ls hl => ?_)
            exact loop_176 5 0 0 f _ _ _ (hs.trans ((if_pos c_202).trans rfl)) (by have kc0 : (0 : Int32).toInt = 0 := ti_0; have kc1 : (0 : Int32).toInt = 0 := ti_0; omega) (by have zz0_15 : (f 0 15).toInt = v_3.toInt := (congrArg Int32.toInt (show f 0 15 = v_3 from ev_3.symm)); exact ⟨by omega, by omega⟩) (by decide) (by have kc0 : (0 : Int32).toInt = 0 := ti_0; have kc1 : (0 : Int32).toInt = 0 := ti_0; have zz0_13 : (f 0 13).toInt = v_5.toInt := (congrArg Int32.toInt (show f 0 13 = v_5 from ev_5.symm)); omega) (by have kc0 : (0 : Int32).toInt = 0 := ti_0; have kc1 : (0 : Int32).toInt = 0 := ti_0; have zz0_16 : (f 0 16).toInt = v_1.toInt := (congrArg Int32.toInt (show f 0 16 = v_1 from ev_1.symm)); omega) (by have kc0 : (0 : Int32).toInt = 0 := ti_0; have kc1 : (0 : Int32).toInt = 0 := ti_0; have zz0_15 : (f 0 15).toInt = v_3.toInt := (congrArg Int32.toInt (show f 0 15 = v_3 from ev_3.symm)); have zz0_16 : (f 0 16).toInt = v_1.toInt := (congrArg Int32.toInt (show f 0 16 = v_1 from ev_1.symm)); omega) hI hF hP hS (lv_sub hl [4, 1, 0] rfl)
          · skip
            have c_203 : 0 ≤ r_199.toInt := (by first | exact (cm_nlt1 ti_0 c) | (have z := bn_nlt c; have k1 : (0 : Int32).toInt = 0 := ti_0; omega))
            refine lv_aload_n hx hb dX12_one_154 rfl (lv_at hl 2 rfl) ?_
            refine lv_dup hx hb dX12_one_155 rfl ?_
            refine sl_gM_0_13_12 (v := v_5) hx hb hts hown hK hP (show f 0 13 = v_5 from ev_5.symm) dX12_one_156 ?_
            refine lv_iconst (v := 1) hx hb dX12_one_159 ic_1 ?_
            refine lv_iadd hx hb dX12_one_160 ?_
            refine lv_topi (fun v_204 ev_204 => ?_)
            have q_205 : v_204.toInt = v_5.toInt + 1 := by rw [ev_204]; first | exact cm_add ti_1 (by omega) (by omega) | (have k1 : (1 : Int32).toInt = 1 := ti_1; exact (bn_addI (by omega) (by omega)).trans (by omega))
            refine sl_pM_0_13_12 (x := v_204) hx hb hts hown hh hA hK hP hS dX12_one_161 (fun f_206 H locs ef_206 hP hS => ?_)
            have hI : sgI loM hiM f_206 := by rw [ef_206]; exact sgI.put hI 0 13 (show 0 ≤ (v_204 : Int32).toInt ∧ (v_204 : Int32).toInt ≤ 120 from ⟨by omega, by omega⟩)
            have hF : sgK WkX12_one_1 f f_206 := sgK.put hF ef_206 (by rfl)
            refine lv_aload_n hx hb dX12_one_164 rfl (lv_at hl 2 rfl) ?_
            refine sl_gM_0_17_12 hx hb hts hown hK hP dX12_one_165 ?_
            refine lv_iload_n hx hb dX12_one_168 rfl (lv_at hl 0 rfl) ?_
            refine sg_iald hx hb hK hP 8 (by decide) 0 rfl rfl (i := r_199) (vp_in_iff.mpr ⟨by omega, by omega⟩) dX12_one_169 ?_
            refine lv_topi (fun v_207 ev_207 => ?_)
            have q_208 : 0 ≤ v_207.toInt ∧ v_207.toInt ≤ 60 := by rw [ev_207]; exact hI 8 _
            have q_209 : (f_206 0 13).toInt = v_204.toInt := (congrArg Int32.toInt (show f_206 0 13 = v_204 from (by rw [ef_206, sg_up_s, sgu_s])))
            have q_210 : (f_206 0 16).toInt = v_1.toInt := (congrArg Int32.toInt (show f_206 0 16 = v_1 from (by rw [ef_206, sg_up_s, sgu_n (by decide)]; exact ev_1.symm)))
            have q_211 : (f_206 0 15).toInt = v_3.toInt := (congrArg Int32.toInt (show f_206 0 15 = v_3 from (by rw [ef_206, sg_up_s, sgu_n (by decide)]; exact ev_3.symm)))
            exact hret _ _ _ _ (v_207) f_206 L Q dX12_one_170 hP hS ⟨⟨hI, hF, rfl, rfl⟩, trivial, (by omega), (by omega), (by omega), (Eq.trans (Eq.symm (hs.trans ((if_neg (Int.not_lt.mpr c_203)).trans (spl_e ev_204 (spl_e ef_206 (spl_e ev_207 rfl)))))) hsp)⟩
        · skip
          have c_195 : r_96.toInt = 40 := (by first | exact (cm_eq1 ti_40 c) | (have z := Int32.toInt_inj.mpr c; have k1 : (40 : Int32).toInt = 40 := ti_40; omega))
          refine lv_aload_n hx hb dX12_one_32 rfl (lv_at hl 1 rfl) ?_
          have c_213 : v_1 = 1 := Int32.toInt_inj.mp (by have k9 : (1 : Int32).toInt = 1 := ti_1; omega)
          refine sl_gM_0_16_12 (v := 1) hx hb hts hown hK hP (show f 0 16 = 1 from (Eq.trans ev_1.symm c_213)) dX12_one_33 ?_
          refine lv_bipush (v := 6) hx hb dX12_one_36 bp_6 ?_
          refine lv_icmp_ne (tgt := 46) hx hb dX12_one_38 (by decide) (fun c => ?_) (fun c => absurd c (by decide))
          refine lv_aload_n hx hb dX12_one_46 rfl (lv_at hl 1 rfl) ?_
          refine lv_dup hx hb dX12_one_47 rfl ?_
          refine sl_gM_0_16_12 (v := 1) hx hb hts hown hK hP (show f 0 16 = 1 from (Eq.trans ev_1.symm c_213)) dX12_one_48 ?_
          refine lv_iconst (v := 1) hx hb dX12_one_51 ic_1 ?_
          refine lv_iadd hx hb dX12_one_52 ?_
          refine W.eq (g2 := F0 m 53 ls [.int 2, .ref (h 0)]) (by rw [show (1 + 1 : Int32) = 2 from by decide]) ?_
          refine sl_pM_0_16_12 (x := 2) hx hb hts hown hh hA hK hP hS dX12_one_53 (fun f_214 H locs ef_214 hP hS => ?_)
          have hI : sgI loM hiM f_214 := by rw [ef_214]; exact sgI.put hI 0 16 (show 0 ≤ (2 : Int32).toInt ∧ (2 : Int32).toInt ≤ 6 from by decide)
          have hF : sgK WkX12_one_1 f f_214 := sgK.put hF ef_214 (by rfl)
          refine lv_aload_n hx hb dX12_one_56 rfl (lv_at hl 1 rfl) ?_
          refine lv_dup hx hb dX12_one_57 rfl ?_
          refine sl_gM_0_13_12 (v := v_5) hx hb hts hown hK hP (show f_214 0 13 = v_5 from (by rw [ef_214, sg_up_s, sgu_n (by decide)]; exact ev_5.symm)) dX12_one_58 ?_
          refine lv_iconst (v := 1) hx hb dX12_one_61 ic_1 ?_
          refine lv_iadd hx hb dX12_one_62 ?_
          refine lv_topi (fun v_215 ev_215 => ?_)
          have q_216 : v_215.toInt = v_5.toInt + 1 := by rw [ev_215]; first | exact cm_add ti_1 (by omega) (by omega) | (have k1 : (1 : Int32).toInt = 1 := ti_1; exact (bn_addI (by omega) (by omega)).trans (by omega))
          refine sl_pM_0_13_12 (x := v_215) hx hb hts hown hh hA hK hP hS dX12_one_63 (fun f_217 H locs ef_217 hP hS => ?_)
          have hI : sgI loM hiM f_217 := by rw [ef_217]; exact sgI.put hI 0 13 (show 0 ≤ (v_215 : Int32).toInt ∧ (v_215 : Int32).toInt ≤ 120 from ⟨by omega, by omega⟩)
          have hF : sgK WkX12_one_1 f f_217 := sgK.put hF ef_217 (by rfl)
          refine lv_iload_n hx hb dX12_one_66 rfl (lv_at hl 0 rfl) ?_
          refine lv_bipush (v := 40) hx hb dX12_one_67 bp_40 ?_
          refine lv_icmp_ne (tgt := 79) hx hb dX12_one_69 (by decide) (fun c => ?_) (fun c => ?_)
          · skip
            exfalso; have c_218 : r_96.toInt ≠ 40 := (by first | exact (cm_ne1 ti_40 c) | (have z := bn_ne c; have k1 : (40 : Int32).toInt = 40 := ti_40; omega)); first | exact absurd (by assumption) c_218 | omega
          · skip
            have c_219 : r_96.toInt = 40 := (by first | exact (cm_eq1 ti_40 c) | (have z := Int32.toInt_inj.mpr c; have k1 : (40 : Int32).toInt = 40 := ti_40; omega))
            refine lv_aload_n hx hb dX12_one_72 rfl (lv_at hl 1 rfl) ?_
            have q_220 : (f_217 0 16).toInt = 2 := (congrArg Int32.toInt (show f_217 0 16 = 2 from (by rw [ef_217, sg_up_s, sgu_n (by decide)]; exact (by rw [ef_214, sg_up_s, sgu_s])))).trans (by decide)
            have q_221 : (f_217 0 15).toInt = v_3.toInt := (congrArg Int32.toInt (show f_217 0 15 = v_3 from (by rw [ef_217, sg_up_s, sgu_n (by decide)]; exact (by rw [ef_214, sg_up_s, sgu_n (by decide)]; exact ev_3.symm))))
            have q_223 : (f_217 0 13).toInt = v_215.toInt := (congrArg Int32.toInt (show f_217 0 13 = v_215 from (by rw [ef_217, sg_up_s, sgu_s])))
            refine sg_calli (va_runV (As := []) (rest := []) ⟨hx, hb, hml, hown, hts⟩ (kX12_either_2 l D ca za h hh f_217 L Q hI (by omega) (by omega) H.size) (sl_c12_either_30_0_0_683_12 hts ⟨Nat.le_of_ble_eq_true rfl, Nat.le_of_ble_eq_true rfl⟩) (sl_vM_0 hA hK hP hS hZ) rfl rfl hl.1 rfl (lv_room (Nat.le_of_ble_eq_true rfl)) dX12_one_73 ⟨Nat.le_refl _, Nat.le_refl _⟩) hA hS (fun r_227 f_224 L_225 Q_226 H locs hq hP hS => ?_)
            obtain ⟨⟨hI, hk_f_224, eL9, eQ9⟩, hq, p_228, p_229, p_230, u_231⟩ := hq
            rw [eL9, eQ9] at hP; clear eL9 eQ9
            have hF : sgK WkX12_one_1 f f_224 := sgK.tr hF hk_f_224 (by decide +kernel)
            obtain ⟨v_232, ev_232⟩ : ∃ z : Int32, z = f_224 0 13 := ⟨_, rfl⟩
            have q_233 : 0 ≤ v_232.toInt ∧ v_232.toInt ≤ 120 := by rw [ev_232]; exact hI 0 13
            have q_234 : (f_224 0 13).toInt = v_232.toInt := (congrArg Int32.toInt (show f_224 0 13 = v_232 from ev_232.symm))
            obtain ⟨v_235, ev_235⟩ : ∃ z : Int32, z = f_224 0 16 := ⟨_, rfl⟩
            have q_236 : 0 ≤ v_235.toInt ∧ v_235.toInt ≤ 6 := by rw [ev_235]; exact hI 0 16
            have q_237 : (f_224 0 16).toInt = v_235.toInt := (congrArg Int32.toInt (show f_224 0 16 = v_235 from ev_235.symm))
            obtain ⟨v_238, ev_238⟩ : ∃ z : Int32, z = f_224 0 15 := ⟨_, rfl⟩
            have q_239 : (-1) ≤ v_238.toInt ∧ v_238.toInt ≤ 120 := by rw [ev_238]; exact hI 0 15
            have q_240 : (f_224 0 15).toInt = v_238.toInt := (congrArg Int32.toInt (show f_224 0 15 = v_238 from ev_238.symm))
            refine lv_goto (tgt := 83) hx hb dX12_one_76 (by decide) ?_
            refine lv_istore_n (lv' := [(2, .int r_227), (1, .int r_96), (0, .ref (h 0))]) hx hb dX12_one_83 rfl hl (by decide) rfl (fun ls hl => ?_)
            refine lv_iload_n hx hb dX12_one_84 rfl (lv_at hl 1 rfl) ?_
            refine lv_bipush (v := 40) hx hb dX12_one_85 bp_40 ?_
            refine lv_icmp_ne (tgt := 104) hx hb dX12_one_87 (by decide) (fun c => ?_) (fun c => ?_)
            · skip
              exfalso; have c_242 : r_96.toInt ≠ 40 := (by first | exact (cm_ne1 ti_40 c) | (have z := bn_ne c; have k1 : (40 : Int32).toInt = 40 := ti_40; omega)); first | exact absurd (by assumption) c_242 | omega
            · skip
              have c_243 : r_96.toInt = 40 := (by first | exact (cm_eq1 ti_40 c) | (have z := Int32.toInt_inj.mpr c; have k1 : (40 : Int32).toInt = 40 := ti_40; omega))
              refine lv_aload_n hx hb dX12_one_90 rfl (lv_at hl 2 rfl) ?_
              refine lv_bipush (v := 41) hx hb dX12_one_91 bp_41 ?_
              have q_246 : (f_224 0 14).toInt = v_90.toInt := (congrArg Int32.toInt (show f_224 0 14 = v_90 from ((hk_f_224 0 14 (by decide)).trans (by rw [ef_217, sg_up_s, sgu_n (by decide)]; exact (by rw [ef_214, sg_up_s, sgu_n (by decide)]; exact ev_90.symm)))))
              refine sg_calli (va_runV (As := [.int 41]) (rest := []) ⟨hx, hb, hml, hown, hts⟩ (kX12_takes_41 l D ca za h hh f_224 L Q hI H.size) (sl_c12_takes_1_0_0_20_12 hts ⟨Nat.le_of_ble_eq_true rfl, Nat.le_of_ble_eq_true rfl⟩) (sl_vM_0 hA hK hP hS hZ) rfl rfl hl.1 rfl (lv_room (Nat.le_of_ble_eq_true rfl)) dX12_one_93 ⟨Nat.le_refl _, Nat.le_refl _⟩) hA hS (fun r_252 f_249 L_250 Q_251 H locs hq hP hS => ?_)
              obtain ⟨⟨hI, hk_f_249, eL9, eQ9⟩, hq, u_253⟩ := hq
              rw [eL9, eQ9] at hP; clear eL9 eQ9
              have hF : sgK WkX12_one_1 f f_249 := sgK.tr hF hk_f_249 (by decide +kernel)
              obtain ⟨v_254, ev_254⟩ : ∃ z : Int32, z = f_249 0 13 := ⟨_, rfl⟩
              replace hs := hs.trans ((if_pos c_195).trans (spl_e ef_214 (spl_e ev_215 (spl_e ef_217 (spl2_e u_231 (spl_e ev_232 (spl_e ev_235 (spl_e ev_238 (spl2_e u_253 (spl_e ev_254 rfl))))))))))
              have q_255 : 0 ≤ v_254.toInt ∧ v_254.toInt ≤ 120 := by rw [ev_254]; exact hI 0 13
              have q_256 : (f_249 0 13).toInt = v_254.toInt := (congrArg Int32.toInt (show f_249 0 13 = v_254 from ev_254.symm))
              have k_258 : (41 : Int32).toInt = 41 := by decide
              rcases hq with ⟨rfl, hq⟩ | ⟨rfl, hq⟩
              · skip
                have hc_259 := hq
                refine lv_if_ne (tgt := 104) hx hb dX12_one_96 (by decide) (fun c => ?_) (fun c => absurd c (by decide))
                refine lv_aload_n hx hb dX12_one_104 rfl (lv_at hl 2 rfl) ?_
                refine lv_dup hx hb dX12_one_105 rfl ?_
                refine sl_gM_0_16_12 (v := v_235) hx hb hts hown hK hP (show f_249 0 16 = v_235 from ((hk_f_249 0 16 (by decide)).trans ev_235.symm)) dX12_one_106 ?_
                refine lv_iconst (v := 1) hx hb dX12_one_109 ic_1 ?_
                refine lv_isub hx hb dX12_one_110 ?_
                refine lv_topi (fun v_260 ev_260 => ?_)
                have q_261 : v_260.toInt = v_235.toInt - 1 := by rw [ev_260]; first | exact cm_sub ti_1 (by omega) (by omega) | (have k1 : (1 : Int32).toInt = 1 := ti_1; exact (bn_subI (by omega) (by omega)).trans (by omega))
                refine sl_pM_0_16_12 (x := v_260) hx hb hts hown hh hA hK hP hS dX12_one_111 (fun f_262 H locs ef_262 hP hS => ?_)
                have hI : sgI loM hiM f_262 := by rw [ef_262]; exact sgI.put hI 0 16 (show 0 ≤ (v_260 : Int32).toInt ∧ (v_260 : Int32).toInt ≤ 6 from ⟨by omega, by omega⟩)
                have hF : sgK WkX12_one_1 f f_262 := sgK.put hF ef_262 (by rfl)
                refine lv_iload_n hx hb dX12_one_114 rfl (lv_at hl 1 rfl) ?_
                refine lv_bipush (v := 40) hx hb dX12_one_115 bp_40 ?_
                refine lv_icmp_ne (tgt := 124) hx hb dX12_one_117 (by decide) (fun c => ?_) (fun c => ?_)
                · skip
                  exfalso; have c_263 : r_96.toInt ≠ 40 := (by first | exact (cm_ne1 ti_40 c) | (have z := bn_ne c; have k1 : (40 : Int32).toInt = 40 := ti_40; omega)); first | exact absurd (by assumption) c_263 | omega
                · skip
                  have c_264 : r_96.toInt = 40 := (by first | exact (cm_eq1 ti_40 c) | (have z := Int32.toInt_inj.mpr c; have k1 : (40 : Int32).toInt = 40 := ti_40; omega))
                  refine lv_iload_n hx hb dX12_one_120 rfl (lv_at hl 0 rfl) ?_
                  refine lv_goto (tgt := 144) hx hb dX12_one_121 (by decide) ?_
                  have q_265 : (f_262 0 13).toInt = v_254.toInt := (congrArg Int32.toInt (show f_262 0 13 = v_254 from (by rw [ef_262, sg_up_s, sgu_n (by decide)]; exact ev_254.symm)))
                  have q_266 : (f_262 0 16).toInt = v_260.toInt := (congrArg Int32.toInt (show f_262 0 16 = v_260 from (by rw [ef_262, sg_up_s, sgu_s])))
                  have q_267 : (f_262 0 15).toInt = v_238.toInt := (congrArg Int32.toInt (show f_262 0 15 = v_238 from (by rw [ef_262, sg_up_s, sgu_n (by decide)]; exact ((hk_f_249 0 15 (by decide)).trans ev_238.symm))))
                  exact hret _ _ _ _ (r_227) f_262 L Q dX12_one_144 hP hS ⟨⟨hI, hF, rfl, rfl⟩, trivial, (by omega), (by omega), (by omega), (Eq.trans (Eq.symm (hs.trans ((if_pos rfl).trans (spl_e ev_260 (spl_e ef_262 rfl))))) hsp)⟩
              · skip
                have hc_259 := hq
                refine lv_if_ne (tgt := 104) hx hb dX12_one_96 (by decide) (fun c => absurd c (by decide)) (fun c => ?_)
                refine lv_aload_n hx hb dX12_one_99 rfl (lv_at hl 2 rfl) ?_
                refine sg_calli (va_runV (As := []) (rest := []) ⟨hx, hb, hml, hown, hts⟩ (kX12_wrong l D ca za h hh f_249 L Q hI H.size) (sl_c12_wrong_0_0_0_0_12 hts ⟨Nat.le_of_ble_eq_true rfl, Nat.le_of_ble_eq_true rfl⟩) (sl_vM_0 hA hK hP hS hZ) rfl rfl hl.1 rfl (lv_room (Nat.le_of_ble_eq_true rfl)) dX12_one_100 ⟨Nat.le_refl _, Nat.le_refl _⟩) hA hS (fun r_272 f_269 L_270 Q_271 H locs hq hP hS => ?_)
                obtain ⟨⟨hI, hk_f_269, eL9, eQ9⟩, hq, p_273, u_274⟩ := hq
                rw [eL9, eQ9] at hP; clear eL9 eQ9
                have hF : sgK WkX12_one_1 f f_269 := sgK.tr hF hk_f_269 (by decide +kernel)
                obtain ⟨v_275, ev_275⟩ : ∃ z : Int32, z = f_269 0 15 := ⟨_, rfl⟩
                have q_276 : (-1) ≤ v_275.toInt ∧ v_275.toInt ≤ 120 := by rw [ev_275]; exact hI 0 15
                have q_277 : (f_269 0 15).toInt = v_275.toInt := (congrArg Int32.toInt (show f_269 0 15 = v_275 from ev_275.symm))
                obtain rfl : r_272 = 0 := Int32.toInt_inj.mp (by have k9 : (0 : Int32).toInt = 0 := ti_0; omega)
                have q_278 : (f_269 0 13).toInt = v_254.toInt := (congrArg Int32.toInt (show f_269 0 13 = v_254 from ((hk_f_269 0 13 (by decide)).trans ev_254.symm)))
                have q_279 : (f_269 0 16).toInt = v_235.toInt := (congrArg Int32.toInt (show f_269 0 16 = v_235 from ((hk_f_269 0 16 (by decide)).trans ((hk_f_249 0 16 (by decide)).trans ev_235.symm))))
                have k99 : (0 : Int32).toInt = 0 := ti_0
                exact hret _ _ _ _ (0) f_269 L Q dX12_one_103 hP hS ⟨⟨hI, hF, rfl, rfl⟩, trivial, (by omega), (by omega), (by omega), (Eq.trans (Eq.symm (hs.trans ((if_neg (by decide)).trans (spl2_e u_274 (spl_e ev_275 rfl))))) hsp)⟩
  · skip
    have c_88 : 0 ≤ v_3.toInt := (by first | exact (cm_nlt1 ti_0 c) | (have z := bn_nlt c; have k1 : (0 : Int32).toInt = 0 := ti_0; omega))
    refine lv_iconst (v := 0) hx hb dX12_one_7 ic_0 ?_
    have q_282 : (f 0 13).toInt = v_5.toInt := (congrArg Int32.toInt (show f 0 13 = v_5 from ev_5.symm))
    have q_283 : (f 0 16).toInt = v_1.toInt := (congrArg Int32.toInt (show f 0 16 = v_1 from ev_1.symm))
    have q_284 : (f 0 15).toInt = v_3.toInt := (congrArg Int32.toInt (show f 0 15 = v_3 from ev_3.symm))
    have k99 : (0 : Int32).toInt = 0 := ti_0
    exact hret _ _ _ _ (0) f L Q dX12_one_8 hP hS ⟨⟨hI, hF, rfl, rfl⟩, trivial, (by omega), (by omega), (by omega), (Eq.trans (Eq.symm (hs.trans ((if_neg (Int.not_lt.mpr c_88)).trans rfl))) hsp)⟩

abbrev WkX12_product_1 : List (Nat × Nat × Option Nat) := [(0, 0, some 13), (0, 0, some 15), (0, 0, some 16)]
set_option maxHeartbeats 4000000 in
set_option maxRecDepth 100000 in
theorem kX12_product_1 (l : Launch) (D : va_G) (ca : Nat → ClassId) (za h : Nat → Nat) (hh : sgH 26 h) (f : sg_F) (L : sg_L) (Q : sg_Q) (hI : sgI loM hiM f) (p0 : 1 ≤ (f 0 16).toInt) (p1 : 0 ≤ (f 0 15).toInt ∨ (f 0 16).toInt = 1) (sz : Nat) : Met l yX12_product gwX12_product { frames := 32, cells := 0, slots := 0, locals := 729 } (sgP D vwCl (tyX ca) 26 h (eM ca h) zcM za f L Q sz [.ref (h 0)]) (sgQi D vwCl 26 h (eM ca h) sz (fun r f1 L1 Q1 => ((sgI loM hiM f1 ∧ sgK WkX12_product_1 f f1 ∧ L1 = L ∧ Q1 = Q) ∧ True ∧ ((f 0 13).toInt ≤ (f1 0 13).toInt) ∧ (1 ≤ (f1 0 16).toInt) ∧ (0 ≤ (f1 0 15).toInt ∨ (f1 0 16).toInt = 1) ∧ (r, f1) = sX12_product_1 f L))) 0 0 (sgA 26 h sz) := by
  refine sg_ofWi (cc := cX12_product) (maxL := 4) RX12 (by decide) rfl rfl (Nat.le_of_ble_eq_true rfl) ?_
  intro p e s m below meth cd Qz ls hx hb hml hown hts hK hZ hP hS hl hret
  have hA := sgY.self (n := 26) (h := h) (sz := s.heap.size)
  have hl : lv_has ls 4 [(0, .ref (h 0))] := hl
  obtain ⟨H, hH⟩ : ∃ z : Heap, z = s.heap := ⟨_, rfl⟩
  obtain ⟨locs, hlo⟩ : ∃ z : List Loc, z = [] := ⟨_, rfl⟩
  have hP : va_P D vwCl (sgw 26 h (eM ca h) f L Q) H := by rw [hH]; exact hP
  have hS : va_S (sgA 26 h s.heap.size) s.heap H locs := by rw [hH, hlo]; exact hS
  suffices hgo : W p l e ({ frames := 32, cells := 0, slots := 0, locals := 729 }) s m ([.ref (h 0)] : List Value).toArray below meth cd H locs 0 0 Qz (F0 m 0 ls []) by rw [hH, hlo] at hgo; exact hgo
  clear hH hlo
  obtain ⟨sp, hsp⟩ : ∃ z : Int32 × sg_F, z = sX12_product_1 f L := ⟨_, rfl⟩
  have hs : sp = sX12_product_1 f L := hsp
  obtain ⟨v_1, ev_1⟩ : ∃ z : Int32, z = f 0 16 := ⟨_, rfl⟩
  have q_2 : 0 ≤ v_1.toInt ∧ v_1.toInt ≤ 6 := by rw [ev_1]; exact hI 0 16
  obtain ⟨v_3, ev_3⟩ : ∃ z : Int32, z = f 0 15 := ⟨_, rfl⟩
  have q_4 : (-1) ≤ v_3.toInt ∧ v_3.toInt ≤ 120 := by rw [ev_3]; exact hI 0 15
  obtain ⟨v_5, ev_5⟩ : ∃ z : Int32, z = f 0 13 := ⟨_, rfl⟩
  have q_6 : 0 ≤ v_5.toInt ∧ v_5.toInt ≤ 120 := by rw [ev_5]; exact hI 0 13
  obtain ⟨v_7, ev_7⟩ : ∃ z : Int32, z = f 0 14 := ⟨_, rfl⟩
  have q_8 : 0 ≤ v_7.toInt ∧ v_7.toInt ≤ 120 := by rw [ev_7]; exact hI 0 14
  have o_9 : (f 0 16).toInt = v_1.toInt := (congrArg Int32.toInt (show f 0 16 = v_1 from ev_1.symm))
  have o_10 : (f 0 15).toInt = v_3.toInt := (congrArg Int32.toInt (show f 0 15 = v_3 from ev_3.symm))
  have o_11 : (f 0 13).toInt = v_5.toInt := (congrArg Int32.toInt (show f 0 13 = v_5 from ev_5.symm))
  have o_12 : (f 0 14).toInt = v_7.toInt := (congrArg Int32.toInt (show f 0 14 = v_7 from ev_7.symm))
  have hF : sgK WkX12_product_1 f f := sgK.rf
  have loop_10 : ∀ (n_10 : Nat) (y1_10 : Int32) (y2_10 : Int32) (fp_10 : sg_F) (H : Heap) (locs : List Loc) (ls : Array Slot), sp = sX12_product_1_l10 n_10 y1_10 y2_10 fp_10 L → 120 - (fp_10 0 13).toInt < (n_10 : Int) → 0 ≤ y2_10.toInt ∧ y2_10.toInt ≤ 255 → (f 0 13).toInt ≤ (fp_10 0 13).toInt → 1 ≤ (fp_10 0 16).toInt → 0 ≤ (fp_10 0 15).toInt ∨ (fp_10 0 16).toInt = 1 → y2_10.toInt = 0 ∨ (fp_10 0 13).toInt < (fp_10 0 14).toInt → sgI loM hiM fp_10 → sgK WkX12_product_1 f fp_10 → va_P D vwCl (sgw 26 h (eM ca h) fp_10 L Q) H → va_S (sgA 26 h s.heap.size) s.heap H locs → lv_has ls 4 [(0, .ref (h 0)), (1, .int y1_10), (2, .int y2_10)] → W p l e ({ frames := 32, cells := 0, slots := 0, locals := 729 }) s m ([.ref (h 0)] : List Value).toArray below meth cd H locs 0 0 Qz (F0 m 10 ls []) := by
    intro n_10
    induction n_10 with
    | zero => intro y1_10 y2_10 fp_10 H locs ls hs hm_10 hy0_10 hg0_10 hg1_10 hg2_10 hg3_10 hI hF hP hS hl; have zb := (show 0 ≤ (fp_10 0 13).toInt ∧ (fp_10 0 13).toInt ≤ 120 from hI 0 13); exact absurd hm_10 (by omega)
    | succ n_10 ih_10 =>
      intro y1_10 y2_10 fp_10 H locs ls hs hm_10 hy0_10 hg0_10 hg1_10 hg2_10 hg3_10 hI hF hP hS hl
      have hs : sp = sX12_product_1_h10 (sX12_product_1_l10 n_10) y1_10 y2_10 fp_10 L := hs
      obtain ⟨v_13, ev_13⟩ : ∃ z : Int32, z = fp_10 0 13 := ⟨_, rfl⟩
      have q_14 : 0 ≤ v_13.toInt ∧ v_13.toInt ≤ 120 := by rw [ev_13]; exact hI 0 13
      have q_15 : (fp_10 0 13).toInt = v_13.toInt := by rw [ev_13]
      obtain ⟨v_16, ev_16⟩ : ∃ z : Int32, z = fp_10 0 16 := ⟨_, rfl⟩
      have q_17 : 0 ≤ v_16.toInt ∧ v_16.toInt ≤ 6 := by rw [ev_16]; exact hI 0 16
      have q_18 : (fp_10 0 16).toInt = v_16.toInt := by rw [ev_16]
      obtain ⟨v_19, ev_19⟩ : ∃ z : Int32, z = fp_10 0 15 := ⟨_, rfl⟩
      have q_20 : (-1) ≤ v_19.toInt ∧ v_19.toInt ≤ 120 := by rw [ev_19]; exact hI 0 15
      have q_21 : (fp_10 0 15).toInt = v_19.toInt := by rw [ev_19]
      obtain ⟨v_22, ev_22⟩ : ∃ z : Int32, z = fp_10 0 14 := ⟨_, rfl⟩
      replace hs := hs.trans (spl_e ev_13 (spl_e ev_16 (spl_e ev_19 (spl_e ev_22 rfl))))
      have q_23 : 0 ≤ v_22.toInt ∧ v_22.toInt ≤ 120 := by rw [ev_22]; exact hI 0 14
      have q_24 : (fp_10 0 14).toInt = v_22.toInt := by rw [ev_22]
      refine lv_aload_n hx hb dX12_product_10 rfl (lv_at hl 0 rfl) ?_
      refine sl_gM_0_15_12 (v := v_19) hx hb hts hown hK hP (show fp_10 0 15 = v_19 from ev_19.symm) dX12_product_11 ?_
      refine lv_if_ge (tgt := 94) hx hb dX12_product_14 (by decide) (fun c => ?_) (fun c => ?_)
      · skip
        have c_25 : 0 ≤ v_19.toInt := (by first | exact (cm_le0 ti_0 c) | (have z := bn_le c; have k1 : (0 : Int32).toInt = 0 := ti_0; omega))
        refine lv_iload_n hx hb dX12_product_94 rfl (lv_at hl 1 rfl) ?_
        exact hret _ _ _ _ (y1_10) fp_10 L Q dX12_product_95 hP hS ⟨⟨hI, hF, rfl, rfl⟩, trivial, (by omega), (by omega), (by omega), (Eq.trans (Eq.symm (hs.trans ((if_neg (Int.not_lt.mpr c_25)).trans rfl))) hsp)⟩
      · skip
        have c_26 : v_19.toInt < 0 := (by first | exact (cm_nle0 ti_0 c) | (have z := bn_nle c; have k1 : (0 : Int32).toInt = 0 := ti_0; omega))
        replace hs := hs.trans ((if_pos c_26).trans rfl)
        refine lv_iload_n hx hb dX12_product_17 rfl (lv_at hl 2 rfl) ?_
        refine lv_bipush (v := 42) hx hb dX12_product_18 bp_42 ?_
        refine lv_icmp_eq (tgt := 35) hx hb dX12_product_20 (by decide) (fun c => ?_) (fun c => ?_)
        · skip
          have c_31 : y2_10.toInt = 42 := (by first | exact (cm_eq1 ti_42 c) | (have z := Int32.toInt_inj.mpr c; have k1 : (42 : Int32).toInt = 42 := ti_42; omega))
          refine lv_aload_n hx hb dX12_product_35 rfl (lv_at hl 0 rfl) ?_
          refine lv_dup hx hb dX12_product_36 rfl ?_
          refine sl_gM_0_13_12 (v := v_13) hx hb hts hown hK hP (show fp_10 0 13 = v_13 from ev_13.symm) dX12_product_37 ?_
          refine lv_iconst (v := 1) hx hb dX12_product_40 ic_1 ?_
          refine lv_iadd hx hb dX12_product_41 ?_
          refine lv_topi (fun v_33 ev_33 => ?_)
          have q_34 : v_33.toInt = v_13.toInt + 1 := by rw [ev_33]; first | exact cm_add ti_1 (by omega) (by omega) | (have k1 : (1 : Int32).toInt = 1 := ti_1; exact (bn_addI (by omega) (by omega)).trans (by omega))
          refine sl_pM_0_13_12 (x := v_33) hx hb hts hown hh hA hK hP hS dX12_product_42 (fun f_35 H locs ef_35 hP hS => ?_)
          have hI : sgI loM hiM f_35 := by rw [ef_35]; exact sgI.put hI 0 13 (show 0 ≤ (v_33 : Int32).toInt ∧ (v_33 : Int32).toInt ≤ 120 from ⟨by omega, by omega⟩)
          have hF : sgK WkX12_product_1 f f_35 := sgK.put hF ef_35 (by rfl)
          refine lv_aload_n hx hb dX12_product_45 rfl (lv_at hl 0 rfl) ?_
          have q_36 : (f_35 0 16).toInt = v_16.toInt := (congrArg Int32.toInt (show f_35 0 16 = v_16 from (by rw [ef_35, sg_up_s, sgu_n (by decide)]; exact ev_16.symm)))
          have q_37 : (f_35 0 15).toInt = v_19.toInt := (congrArg Int32.toInt (show f_35 0 15 = v_19 from (by rw [ef_35, sg_up_s, sgu_n (by decide)]; exact ev_19.symm)))
          have q_39 : (f_35 0 13).toInt = v_33.toInt := (congrArg Int32.toInt (show f_35 0 13 = v_33 from (by rw [ef_35, sg_up_s, sgu_s])))
          refine sg_calli (va_runV (As := []) (rest := []) ⟨hx, hb, hml, hown, hts⟩ (kX12_one_1 l D ca za h hh f_35 L Q hI (by omega) (by omega) H.size) (sl_c12_one_31_0_0_705_12 hts ⟨Nat.le_of_ble_eq_true rfl, Nat.le_of_ble_eq_true rfl⟩) (sl_vM_0 hA hK hP hS hZ) rfl rfl hl.1 rfl (lv_room (Nat.le_of_ble_eq_true rfl)) dX12_product_46 ⟨Nat.le_refl _, Nat.le_refl _⟩) hA hS (fun r_43 f_40 L_41 Q_42 H locs hq hP hS => ?_)
          obtain ⟨⟨hI, hk_f_40, eL9, eQ9⟩, hq, p_44, p_45, p_46, u_47⟩ := hq
          rw [eL9, eQ9] at hP; clear eL9 eQ9
          have hF : sgK WkX12_product_1 f f_40 := sgK.tr hF hk_f_40 (by decide +kernel)
          obtain ⟨v_48, ev_48⟩ : ∃ z : Int32, z = f_40 0 13 := ⟨_, rfl⟩
          have q_49 : 0 ≤ v_48.toInt ∧ v_48.toInt ≤ 120 := by rw [ev_48]; exact hI 0 13
          have q_50 : (f_40 0 13).toInt = v_48.toInt := (congrArg Int32.toInt (show f_40 0 13 = v_48 from ev_48.symm))
          obtain ⟨v_51, ev_51⟩ : ∃ z : Int32, z = f_40 0 16 := ⟨_, rfl⟩
          have q_52 : 0 ≤ v_51.toInt ∧ v_51.toInt ≤ 6 := by rw [ev_51]; exact hI 0 16
          have q_53 : (f_40 0 16).toInt = v_51.toInt := (congrArg Int32.toInt (show f_40 0 16 = v_51 from ev_51.symm))
          obtain ⟨v_54, ev_54⟩ : ∃ z : Int32, z = f_40 0 15 := ⟨_, rfl⟩
          have q_55 : (-1) ≤ v_54.toInt ∧ v_54.toInt ≤ 120 := by rw [ev_54]; exact hI 0 15
          have q_56 : (f_40 0 15).toInt = v_54.toInt := (congrArg Int32.toInt (show f_40 0 15 = v_54 from ev_54.symm))
          refine lv_istore_n (lv' := [(3, .int r_43), (0, .ref (h 0)), (1, .int y1_10), (2, .int y2_10)]) hx hb dX12_product_49 rfl hl (by decide) rfl (fun ls hl => ?_)
          refine lv_iload_n hx hb dX12_product_50 rfl (lv_at hl 3 rfl) ?_
          refine lv_bipush (v := 42) hx hb dX12_product_51 bp_42 ?_
          refine lv_icmp_ne (tgt := 62) hx hb dX12_product_53 (by decide) (fun c => ?_) (fun c => ?_)
          · skip
            exfalso; have c_58 : y2_10.toInt ≠ 42 := (by first | exact (cm_ne1 ti_42 c) | (have z := bn_ne c; have k1 : (42 : Int32).toInt = 42 := ti_42; omega)); first | exact absurd (by assumption) c_58 | omega
          · skip
            have c_59 : y2_10.toInt = 42 := (by first | exact (cm_eq1 ti_42 c) | (have z := Int32.toInt_inj.mpr c; have k1 : (42 : Int32).toInt = 42 := ti_42; omega))
            refine lv_iload_n hx hb dX12_product_56 rfl (lv_at hl 2 rfl) ?_
            refine lv_iload_n hx hb dX12_product_57 rfl (lv_at hl 0 rfl) ?_
            refine lv_imul hx hb dX12_product_58 ?_
            refine lv_topi (fun v_60 ev_60 => ?_)
            refine lv_goto (tgt := 85) hx hb dX12_product_59 (by decide) ?_
            refine lv_istore_n (lv' := [(1, .int v_60), (3, .int r_43), (0, .ref (h 0)), (2, .int y2_10)]) hx hb dX12_product_85 rfl hl (by decide) rfl (fun ls hl => ?_)
            refine lv_aload_n hx hb dX12_product_86 rfl (lv_at hl 2 rfl) ?_
            have q_62 : (f_40 0 14).toInt = v_22.toInt := (congrArg Int32.toInt (show f_40 0 14 = v_22 from ((hk_f_40 0 14 (by decide)).trans (by rw [ef_35, sg_up_s, sgu_n (by decide)]; exact ev_22.symm))))
            refine sg_calli (va_runV (As := []) (rest := []) ⟨hx, hb, hml, hown, hts⟩ (kX12_byteAt l D ca za h hh f_40 L Q hI H.size) (sl_c12_byteAt_0_0_0_0_12 hts ⟨Nat.le_of_ble_eq_true rfl, Nat.le_of_ble_eq_true rfl⟩) (sl_vM_0 hA hK hP hS hZ) rfl rfl hl.1 rfl (lv_room (Nat.le_of_ble_eq_true rfl)) dX12_product_87 ⟨Nat.le_refl _, Nat.le_refl _⟩) hA hS (fun r_66 f_63 L_64 Q_65 H locs hq hP hS => ?_)
            obtain ⟨⟨ef9, eL9, eQ9⟩, hq, p_67, u_68⟩ := hq
            rw [ef9, eL9, eQ9] at hP; clear ef9 eL9 eQ9
            refine lv_istore_n (lv' := [(2, .int r_66), (1, .int v_60), (3, .int r_43), (0, .ref (h 0))]) hx hb dX12_product_90 rfl hl (by decide) rfl (fun ls hl => ?_)
            refine lv_goto (tgt := 10) hx hb dX12_product_91 (by decide) ?_
            exact ih_10 v_60 r_66 f_40 _ _ _ (hs.trans ((if_pos c_31).trans (spl_e ev_33 (spl_e ef_35 (spl2_e u_47 (spl_e ev_48 (spl_e ev_51 (spl_e ev_54 (spl_e ev_60 (spl_e u_68 rfl)))))))))) (by have zz0_13 : (f_40 0 13).toInt = v_48.toInt := (congrArg Int32.toInt (show f_40 0 13 = v_48 from ev_48.symm)); omega) ⟨by omega, by omega⟩ (by have zz0_13 : (f_40 0 13).toInt = v_48.toInt := (congrArg Int32.toInt (show f_40 0 13 = v_48 from ev_48.symm)); omega) (by have zz0_16 : (f_40 0 16).toInt = v_51.toInt := (congrArg Int32.toInt (show f_40 0 16 = v_51 from ev_51.symm)); omega) (by have zz0_15 : (f_40 0 15).toInt = v_54.toInt := (congrArg Int32.toInt (show f_40 0 15 = v_54 from ev_54.symm)); have zz0_16 : (f_40 0 16).toInt = v_51.toInt := (congrArg Int32.toInt (show f_40 0 16 = v_51 from ev_51.symm)); omega) (by have zz0_13 : (f_40 0 13).toInt = v_48.toInt := (congrArg Int32.toInt (show f_40 0 13 = v_48 from ev_48.symm)); have zz0_14 : (f_40 0 14).toInt = v_22.toInt := (congrArg Int32.toInt (show f_40 0 14 = v_22 from ((hk_f_40 0 14 (by decide)).trans (by rw [ef_35, sg_up_s, sgu_n (by decide)]; exact ev_22.symm)))); omega) hI hF hP hS (lv_sub hl [3, 1, 0] rfl)
        · skip
          have c_32 : y2_10.toInt ≠ 42 := (by first | exact (cm_ne1 ti_42 c) | (have z := bn_ne c; have k1 : (42 : Int32).toInt = 42 := ti_42; omega))
          replace hs := hs.trans ((if_neg c_32).trans rfl)
          refine lv_iload_n hx hb dX12_product_23 rfl (lv_at hl 2 rfl) ?_
          refine lv_bipush (v := 47) hx hb dX12_product_24 bp_47 ?_
          refine lv_icmp_eq (tgt := 35) hx hb dX12_product_26 (by decide) (fun c => ?_) (fun c => ?_)
          · skip
            have c_69 : y2_10.toInt = 47 := (by first | exact (cm_eq1 ti_47 c) | (have z := Int32.toInt_inj.mpr c; have k1 : (47 : Int32).toInt = 47 := ti_47; omega))
            refine lv_aload_n hx hb dX12_product_35 rfl (lv_at hl 0 rfl) ?_
            refine lv_dup hx hb dX12_product_36 rfl ?_
            refine sl_gM_0_13_12 (v := v_13) hx hb hts hown hK hP (show fp_10 0 13 = v_13 from ev_13.symm) dX12_product_37 ?_
            refine lv_iconst (v := 1) hx hb dX12_product_40 ic_1 ?_
            refine lv_iadd hx hb dX12_product_41 ?_
            refine lv_topi (fun v_71 ev_71 => ?_)
            have q_72 : v_71.toInt = v_13.toInt + 1 := by rw [ev_71]; first | exact cm_add ti_1 (by omega) (by omega) | (have k1 : (1 : Int32).toInt = 1 := ti_1; exact (bn_addI (by omega) (by omega)).trans (by omega))
            refine sl_pM_0_13_12 (x := v_71) hx hb hts hown hh hA hK hP hS dX12_product_42 (fun f_73 H locs ef_73 hP hS => ?_)
            have hI : sgI loM hiM f_73 := by rw [ef_73]; exact sgI.put hI 0 13 (show 0 ≤ (v_71 : Int32).toInt ∧ (v_71 : Int32).toInt ≤ 120 from ⟨by omega, by omega⟩)
            have hF : sgK WkX12_product_1 f f_73 := sgK.put hF ef_73 (by rfl)
            refine lv_aload_n hx hb dX12_product_45 rfl (lv_at hl 0 rfl) ?_
            have q_74 : (f_73 0 16).toInt = v_16.toInt := (congrArg Int32.toInt (show f_73 0 16 = v_16 from (by rw [ef_73, sg_up_s, sgu_n (by decide)]; exact ev_16.symm)))
            have q_75 : (f_73 0 15).toInt = v_19.toInt := (congrArg Int32.toInt (show f_73 0 15 = v_19 from (by rw [ef_73, sg_up_s, sgu_n (by decide)]; exact ev_19.symm)))
            have q_77 : (f_73 0 13).toInt = v_71.toInt := (congrArg Int32.toInt (show f_73 0 13 = v_71 from (by rw [ef_73, sg_up_s, sgu_s])))
            refine sg_calli (va_runV (As := []) (rest := []) ⟨hx, hb, hml, hown, hts⟩ (kX12_one_1 l D ca za h hh f_73 L Q hI (by omega) (by omega) H.size) (sl_c12_one_31_0_0_705_12 hts ⟨Nat.le_of_ble_eq_true rfl, Nat.le_of_ble_eq_true rfl⟩) (sl_vM_0 hA hK hP hS hZ) rfl rfl hl.1 rfl (lv_room (Nat.le_of_ble_eq_true rfl)) dX12_product_46 ⟨Nat.le_refl _, Nat.le_refl _⟩) hA hS (fun r_81 f_78 L_79 Q_80 H locs hq hP hS => ?_)
            obtain ⟨⟨hI, hk_f_78, eL9, eQ9⟩, hq, p_82, p_83, p_84, u_85⟩ := hq
            rw [eL9, eQ9] at hP; clear eL9 eQ9
            have hF : sgK WkX12_product_1 f f_78 := sgK.tr hF hk_f_78 (by decide +kernel)
            obtain ⟨v_86, ev_86⟩ : ∃ z : Int32, z = f_78 0 13 := ⟨_, rfl⟩
            have q_87 : 0 ≤ v_86.toInt ∧ v_86.toInt ≤ 120 := by rw [ev_86]; exact hI 0 13
            have q_88 : (f_78 0 13).toInt = v_86.toInt := (congrArg Int32.toInt (show f_78 0 13 = v_86 from ev_86.symm))
            obtain ⟨v_89, ev_89⟩ : ∃ z : Int32, z = f_78 0 16 := ⟨_, rfl⟩
            have q_90 : 0 ≤ v_89.toInt ∧ v_89.toInt ≤ 6 := by rw [ev_89]; exact hI 0 16
            have q_91 : (f_78 0 16).toInt = v_89.toInt := (congrArg Int32.toInt (show f_78 0 16 = v_89 from ev_89.symm))
            obtain ⟨v_92, ev_92⟩ : ∃ z : Int32, z = f_78 0 15 := ⟨_, rfl⟩
            replace hs := hs.trans ((if_pos c_69).trans (spl_e ev_71 (spl_e ef_73 (spl2_e u_85 (spl_e ev_86 (spl_e ev_89 (spl_e ev_92 rfl)))))))
            have q_93 : (-1) ≤ v_92.toInt ∧ v_92.toInt ≤ 120 := by rw [ev_92]; exact hI 0 15
            have q_94 : (f_78 0 15).toInt = v_92.toInt := (congrArg Int32.toInt (show f_78 0 15 = v_92 from ev_92.symm))
            refine lv_istore_n (lv' := [(3, .int r_81), (0, .ref (h 0)), (1, .int y1_10), (2, .int y2_10)]) hx hb dX12_product_49 rfl hl (by decide) rfl (fun ls hl => ?_)
            refine lv_iload_n hx hb dX12_product_50 rfl (lv_at hl 3 rfl) ?_
            refine lv_bipush (v := 42) hx hb dX12_product_51 bp_42 ?_
            refine lv_icmp_ne (tgt := 62) hx hb dX12_product_53 (by decide) (fun c => ?_) (fun c => ?_)
            · skip
              have c_96 : y2_10.toInt ≠ 42 := (by first | exact (cm_ne1 ti_42 c) | (have z := bn_ne c; have k1 : (42 : Int32).toInt = 42 := ti_42; omega))
              refine lv_iload_n hx hb dX12_product_62 rfl (lv_at hl 0 rfl) ?_
              refine lv_if_ne (tgt := 70) hx hb dX12_product_63 (by decide) (fun c => ?_) (fun c => ?_)
              · skip
                have c_98 : r_81.toInt ≠ 0 := (by first | exact (cm_ne1 ti_0 c) | (have z := bn_ne c; have k1 : (0 : Int32).toInt = 0 := ti_0; omega))
                refine lv_iload_n hx hb dX12_product_70 rfl (lv_at hl 3 rfl) ?_
                refine lv_bipush (v := 47) hx hb dX12_product_71 bp_47 ?_
                refine lv_icmp_ne (tgt := 82) hx hb dX12_product_73 (by decide) (fun c => ?_) (fun c => ?_)
                · skip
                  exfalso; have c_100 : y2_10.toInt ≠ 47 := (by first | exact (cm_ne1 ti_47 c) | (have z := bn_ne c; have k1 : (47 : Int32).toInt = 47 := ti_47; omega)); first | exact absurd (by assumption) c_100 | omega
                · skip
                  have c_101 : y2_10.toInt = 47 := (by first | exact (cm_eq1 ti_47 c) | (have z := Int32.toInt_inj.mpr c; have k1 : (47 : Int32).toInt = 47 := ti_47; omega))
                  refine lv_iload_n hx hb dX12_product_76 rfl (lv_at hl 2 rfl) ?_
                  refine lv_iload_n hx hb dX12_product_77 rfl (lv_at hl 0 rfl) ?_
                  refine lv_idiv hx hb dX12_product_78 (bn_nz (by omega)) ?_
                  refine lv_topi (fun v_102 ev_102 => ?_)
                  refine lv_goto (tgt := 85) hx hb dX12_product_79 (by decide) ?_
                  refine lv_istore_n (lv' := [(1, .int v_102), (3, .int r_81), (0, .ref (h 0)), (2, .int y2_10)]) hx hb dX12_product_85 rfl hl (by decide) rfl (fun ls hl => ?_)
                  refine lv_aload_n hx hb dX12_product_86 rfl (lv_at hl 2 rfl) ?_
                  have q_104 : (f_78 0 14).toInt = v_22.toInt := (congrArg Int32.toInt (show f_78 0 14 = v_22 from ((hk_f_78 0 14 (by decide)).trans (by rw [ef_73, sg_up_s, sgu_n (by decide)]; exact ev_22.symm))))
                  refine sg_calli (va_runV (As := []) (rest := []) ⟨hx, hb, hml, hown, hts⟩ (kX12_byteAt l D ca za h hh f_78 L Q hI H.size) (sl_c12_byteAt_0_0_0_0_12 hts ⟨Nat.le_of_ble_eq_true rfl, Nat.le_of_ble_eq_true rfl⟩) (sl_vM_0 hA hK hP hS hZ) rfl rfl hl.1 rfl (lv_room (Nat.le_of_ble_eq_true rfl)) dX12_product_87 ⟨Nat.le_refl _, Nat.le_refl _⟩) hA hS (fun r_108 f_105 L_106 Q_107 H locs hq hP hS => ?_)
                  obtain ⟨⟨ef9, eL9, eQ9⟩, hq, p_109, u_110⟩ := hq
                  rw [ef9, eL9, eQ9] at hP; clear ef9 eL9 eQ9
                  refine lv_istore_n (lv' := [(2, .int r_108), (1, .int v_102), (3, .int r_81), (0, .ref (h 0))]) hx hb dX12_product_90 rfl hl (by decide) rfl (fun ls hl => ?_)
                  refine lv_goto (tgt := 10) hx hb dX12_product_91 (by decide) ?_
                  exact ih_10 v_102 r_108 f_78 _ _ _ (hs.trans ((if_neg c_98).trans (spl_e ev_102 (spl_e u_110 rfl)))) (by have zz0_13 : (f_78 0 13).toInt = v_86.toInt := (congrArg Int32.toInt (show f_78 0 13 = v_86 from ev_86.symm)); omega) ⟨by omega, by omega⟩ (by have zz0_13 : (f_78 0 13).toInt = v_86.toInt := (congrArg Int32.toInt (show f_78 0 13 = v_86 from ev_86.symm)); omega) (by have zz0_16 : (f_78 0 16).toInt = v_89.toInt := (congrArg Int32.toInt (show f_78 0 16 = v_89 from ev_89.symm)); omega) (by have zz0_15 : (f_78 0 15).toInt = v_92.toInt := (congrArg Int32.toInt (show f_78 0 15 = v_92 from ev_92.symm)); have zz0_16 : (f_78 0 16).toInt = v_89.toInt := (congrArg Int32.toInt (show f_78 0 16 = v_89 from ev_89.symm)); omega) (by have zz0_13 : (f_78 0 13).toInt = v_86.toInt := (congrArg Int32.toInt (show f_78 0 13 = v_86 from ev_86.symm)); have zz0_14 : (f_78 0 14).toInt = v_22.toInt := (congrArg Int32.toInt (show f_78 0 14 = v_22 from ((hk_f_78 0 14 (by decide)).trans (by rw [ef_73, sg_up_s, sgu_n (by decide)]; exact ev_22.symm)))); omega) hI hF hP hS (lv_sub hl [3, 1, 0] rfl)
              · skip
                have c_99 : r_81.toInt = 0 := (by first | exact (cm_eq1 ti_0 c) | (have z := Int32.toInt_inj.mpr c; have k1 : (0 : Int32).toInt = 0 := ti_0; omega))
                refine lv_iconst (v := 0) hx hb dX12_product_66 ic_0 ?_
                refine lv_goto (tgt := 85) hx hb dX12_product_67 (by decide) ?_
                refine lv_istore_n (lv' := [(1, .int 0), (3, .int r_81), (0, .ref (h 0)), (2, .int y2_10)]) hx hb dX12_product_85 rfl hl (by decide) rfl (fun ls hl => ?_)
                refine lv_aload_n hx hb dX12_product_86 rfl (lv_at hl 2 rfl) ?_
                have q_112 : (f_78 0 14).toInt = v_22.toInt := (congrArg Int32.toInt (show f_78 0 14 = v_22 from ((hk_f_78 0 14 (by decide)).trans (by rw [ef_73, sg_up_s, sgu_n (by decide)]; exact ev_22.symm))))
                refine sg_calli (va_runV (As := []) (rest := []) ⟨hx, hb, hml, hown, hts⟩ (kX12_byteAt l D ca za h hh f_78 L Q hI H.size) (sl_c12_byteAt_0_0_0_0_12 hts ⟨Nat.le_of_ble_eq_true rfl, Nat.le_of_ble_eq_true rfl⟩) (sl_vM_0 hA hK hP hS hZ) rfl rfl hl.1 rfl (lv_room (Nat.le_of_ble_eq_true rfl)) dX12_product_87 ⟨Nat.le_refl _, Nat.le_refl _⟩) hA hS (fun r_116 f_113 L_114 Q_115 H locs hq hP hS => ?_)
                obtain ⟨⟨ef9, eL9, eQ9⟩, hq, p_117, u_118⟩ := hq
                rw [ef9, eL9, eQ9] at hP; clear ef9 eL9 eQ9
                refine lv_istore_n (lv' := [(2, .int r_116), (1, .int 0), (3, .int r_81), (0, .ref (h 0))]) hx hb dX12_product_90 rfl hl (by decide) rfl (fun ls hl => ?_)
                refine lv_goto (tgt := 10) hx hb dX12_product_91 (by decide) ?_
                exact ih_10 0 r_116 f_78 _ _ _ (hs.trans ((if_pos c_99).trans (spl_e u_118 rfl))) (by have kc0 : (0 : Int32).toInt = 0 := ti_0; have zz0_13 : (f_78 0 13).toInt = v_86.toInt := (congrArg Int32.toInt (show f_78 0 13 = v_86 from ev_86.symm)); omega) ⟨by omega, by omega⟩ (by have kc0 : (0 : Int32).toInt = 0 := ti_0; have zz0_13 : (f_78 0 13).toInt = v_86.toInt := (congrArg Int32.toInt (show f_78 0 13 = v_86 from ev_86.symm)); omega) (by have kc0 : (0 : Int32).toInt = 0 := ti_0; have zz0_16 : (f_78 0 16).toInt = v_89.toInt := (congrArg Int32.toInt (show f_78 0 16 = v_89 from ev_89.symm)); omega) (by have kc0 : (0 : Int32).toInt = 0 := ti_0; have zz0_15 : (f_78 0 15).toInt = v_92.toInt := (congrArg Int32.toInt (show f_78 0 15 = v_92 from ev_92.symm)); have zz0_16 : (f_78 0 16).toInt = v_89.toInt := (congrArg Int32.toInt (show f_78 0 16 = v_89 from ev_89.symm)); omega) (by have kc0 : (0 : Int32).toInt = 0 := ti_0; have zz0_13 : (f_78 0 13).toInt = v_86.toInt := (congrArg Int32.toInt (show f_78 0 13 = v_86 from ev_86.symm)); have zz0_14 : (f_78 0 14).toInt = v_22.toInt := (congrArg Int32.toInt (show f_78 0 14 = v_22 from ((hk_f_78 0 14 (by decide)).trans (by rw [ef_73, sg_up_s, sgu_n (by decide)]; exact ev_22.symm)))); omega) hI hF hP hS (lv_sub hl [3, 1, 0] rfl)
            · skip
              exfalso; have c_97 : y2_10.toInt = 42 := (by first | exact (cm_eq1 ti_42 c) | (have z := Int32.toInt_inj.mpr c; have k1 : (42 : Int32).toInt = 42 := ti_42; omega)); first | exact absurd c_97 (by assumption) | omega
          · skip
            have c_70 : y2_10.toInt ≠ 47 := (by first | exact (cm_ne1 ti_47 c) | (have z := bn_ne c; have k1 : (47 : Int32).toInt = 47 := ti_47; omega))
            replace hs := hs.trans ((if_neg c_70).trans rfl)
            refine lv_iload_n hx hb dX12_product_29 rfl (lv_at hl 2 rfl) ?_
            refine lv_bipush (v := 37) hx hb dX12_product_30 bp_37 ?_
            refine lv_icmp_ne (tgt := 94) hx hb dX12_product_32 (by decide) (fun c => ?_) (fun c => ?_)
            · skip
              have c_119 : y2_10.toInt ≠ 37 := (by first | exact (cm_ne1 ti_37 c) | (have z := bn_ne c; have k1 : (37 : Int32).toInt = 37 := ti_37; omega))
              refine lv_iload_n hx hb dX12_product_94 rfl (lv_at hl 1 rfl) ?_
              exact hret _ _ _ _ (y1_10) fp_10 L Q dX12_product_95 hP hS ⟨⟨hI, hF, rfl, rfl⟩, trivial, (by omega), (by omega), (by omega), (Eq.trans (Eq.symm (hs.trans ((if_neg c_119).trans rfl))) hsp)⟩
            · skip
              have c_120 : y2_10.toInt = 37 := (by first | exact (cm_eq1 ti_37 c) | (have z := Int32.toInt_inj.mpr c; have k1 : (37 : Int32).toInt = 37 := ti_37; omega))
              refine lv_aload_n hx hb dX12_product_35 rfl (lv_at hl 0 rfl) ?_
              refine lv_dup hx hb dX12_product_36 rfl ?_
              refine sl_gM_0_13_12 (v := v_13) hx hb hts hown hK hP (show fp_10 0 13 = v_13 from ev_13.symm) dX12_product_37 ?_
              refine lv_iconst (v := 1) hx hb dX12_product_40 ic_1 ?_
              refine lv_iadd hx hb dX12_product_41 ?_
              refine lv_topi (fun v_125 ev_125 => ?_)
              have q_126 : v_125.toInt = v_13.toInt + 1 := by rw [ev_125]; first | exact cm_add ti_1 (by omega) (by omega) | (have k1 : (1 : Int32).toInt = 1 := ti_1; exact (bn_addI (by omega) (by omega)).trans (by omega))
              refine sl_pM_0_13_12 (x := v_125) hx hb hts hown hh hA hK hP hS dX12_product_42 (fun f_127 H locs ef_127 hP hS => ?_)
              have hI : sgI loM hiM f_127 := by rw [ef_127]; exact sgI.put hI 0 13 (show 0 ≤ (v_125 : Int32).toInt ∧ (v_125 : Int32).toInt ≤ 120 from ⟨by omega, by omega⟩)
              have hF : sgK WkX12_product_1 f f_127 := sgK.put hF ef_127 (by rfl)
              refine lv_aload_n hx hb dX12_product_45 rfl (lv_at hl 0 rfl) ?_
              have q_128 : (f_127 0 16).toInt = v_16.toInt := (congrArg Int32.toInt (show f_127 0 16 = v_16 from (by rw [ef_127, sg_up_s, sgu_n (by decide)]; exact ev_16.symm)))
              have q_129 : (f_127 0 15).toInt = v_19.toInt := (congrArg Int32.toInt (show f_127 0 15 = v_19 from (by rw [ef_127, sg_up_s, sgu_n (by decide)]; exact ev_19.symm)))
              have q_131 : (f_127 0 13).toInt = v_125.toInt := (congrArg Int32.toInt (show f_127 0 13 = v_125 from (by rw [ef_127, sg_up_s, sgu_s])))
              refine sg_calli (va_runV (As := []) (rest := []) ⟨hx, hb, hml, hown, hts⟩ (kX12_one_1 l D ca za h hh f_127 L Q hI (by omega) (by omega) H.size) (sl_c12_one_31_0_0_705_12 hts ⟨Nat.le_of_ble_eq_true rfl, Nat.le_of_ble_eq_true rfl⟩) (sl_vM_0 hA hK hP hS hZ) rfl rfl hl.1 rfl (lv_room (Nat.le_of_ble_eq_true rfl)) dX12_product_46 ⟨Nat.le_refl _, Nat.le_refl _⟩) hA hS (fun r_135 f_132 L_133 Q_134 H locs hq hP hS => ?_)
              obtain ⟨⟨hI, hk_f_132, eL9, eQ9⟩, hq, p_136, p_137, p_138, u_139⟩ := hq
              rw [eL9, eQ9] at hP; clear eL9 eQ9
              have hF : sgK WkX12_product_1 f f_132 := sgK.tr hF hk_f_132 (by decide +kernel)
              obtain ⟨v_140, ev_140⟩ : ∃ z : Int32, z = f_132 0 13 := ⟨_, rfl⟩
              have q_141 : 0 ≤ v_140.toInt ∧ v_140.toInt ≤ 120 := by rw [ev_140]; exact hI 0 13
              have q_142 : (f_132 0 13).toInt = v_140.toInt := (congrArg Int32.toInt (show f_132 0 13 = v_140 from ev_140.symm))
              obtain ⟨v_143, ev_143⟩ : ∃ z : Int32, z = f_132 0 16 := ⟨_, rfl⟩
              have q_144 : 0 ≤ v_143.toInt ∧ v_143.toInt ≤ 6 := by rw [ev_143]; exact hI 0 16
              have q_145 : (f_132 0 16).toInt = v_143.toInt := (congrArg Int32.toInt (show f_132 0 16 = v_143 from ev_143.symm))
              obtain ⟨v_146, ev_146⟩ : ∃ z : Int32, z = f_132 0 15 := ⟨_, rfl⟩
              replace hs := hs.trans ((if_pos c_120).trans (spl_e ev_125 (spl_e ef_127 (spl2_e u_139 (spl_e ev_140 (spl_e ev_143 (spl_e ev_146 rfl)))))))
              have q_147 : (-1) ≤ v_146.toInt ∧ v_146.toInt ≤ 120 := by rw [ev_146]; exact hI 0 15
              have q_148 : (f_132 0 15).toInt = v_146.toInt := (congrArg Int32.toInt (show f_132 0 15 = v_146 from ev_146.symm))
              refine lv_istore_n (lv' := [(3, .int r_135), (0, .ref (h 0)), (1, .int y1_10), (2, .int y2_10)]) hx hb dX12_product_49 rfl hl (by decide) rfl (fun ls hl => ?_)
              refine lv_iload_n hx hb dX12_product_50 rfl (lv_at hl 3 rfl) ?_
              refine lv_bipush (v := 42) hx hb dX12_product_51 bp_42 ?_
              refine lv_icmp_ne (tgt := 62) hx hb dX12_product_53 (by decide) (fun c => ?_) (fun c => ?_)
              · skip
                have c_150 : y2_10.toInt ≠ 42 := (by first | exact (cm_ne1 ti_42 c) | (have z := bn_ne c; have k1 : (42 : Int32).toInt = 42 := ti_42; omega))
                refine lv_iload_n hx hb dX12_product_62 rfl (lv_at hl 0 rfl) ?_
                refine lv_if_ne (tgt := 70) hx hb dX12_product_63 (by decide) (fun c => ?_) (fun c => ?_)
                · skip
                  have c_152 : r_135.toInt ≠ 0 := (by first | exact (cm_ne1 ti_0 c) | (have z := bn_ne c; have k1 : (0 : Int32).toInt = 0 := ti_0; omega))
                  refine lv_iload_n hx hb dX12_product_70 rfl (lv_at hl 3 rfl) ?_
                  refine lv_bipush (v := 47) hx hb dX12_product_71 bp_47 ?_
                  refine lv_icmp_ne (tgt := 82) hx hb dX12_product_73 (by decide) (fun c => ?_) (fun c => ?_)
                  · skip
                    have c_154 : y2_10.toInt ≠ 47 := (by first | exact (cm_ne1 ti_47 c) | (have z := bn_ne c; have k1 : (47 : Int32).toInt = 47 := ti_47; omega))
                    refine lv_iload_n hx hb dX12_product_82 rfl (lv_at hl 2 rfl) ?_
                    refine lv_iload_n hx hb dX12_product_83 rfl (lv_at hl 0 rfl) ?_
                    refine lv_irem hx hb dX12_product_84 (bn_nz (by omega)) ?_
                    refine lv_topi (fun v_156 ev_156 => ?_)
                    refine lv_istore_n (lv' := [(1, .int v_156), (3, .int r_135), (0, .ref (h 0)), (2, .int y2_10)]) hx hb dX12_product_85 rfl hl (by decide) rfl (fun ls hl => ?_)
                    refine lv_aload_n hx hb dX12_product_86 rfl (lv_at hl 2 rfl) ?_
                    have q_158 : (f_132 0 14).toInt = v_22.toInt := (congrArg Int32.toInt (show f_132 0 14 = v_22 from ((hk_f_132 0 14 (by decide)).trans (by rw [ef_127, sg_up_s, sgu_n (by decide)]; exact ev_22.symm))))
                    refine sg_calli (va_runV (As := []) (rest := []) ⟨hx, hb, hml, hown, hts⟩ (kX12_byteAt l D ca za h hh f_132 L Q hI H.size) (sl_c12_byteAt_0_0_0_0_12 hts ⟨Nat.le_of_ble_eq_true rfl, Nat.le_of_ble_eq_true rfl⟩) (sl_vM_0 hA hK hP hS hZ) rfl rfl hl.1 rfl (lv_room (Nat.le_of_ble_eq_true rfl)) dX12_product_87 ⟨Nat.le_refl _, Nat.le_refl _⟩) hA hS (fun r_162 f_159 L_160 Q_161 H locs hq hP hS => ?_)
                    obtain ⟨⟨ef9, eL9, eQ9⟩, hq, p_163, u_164⟩ := hq
                    rw [ef9, eL9, eQ9] at hP; clear ef9 eL9 eQ9
                    refine lv_istore_n (lv' := [(2, .int r_162), (1, .int v_156), (3, .int r_135), (0, .ref (h 0))]) hx hb dX12_product_90 rfl hl (by decide) rfl (fun ls hl => ?_)
                    refine lv_goto (tgt := 10) hx hb dX12_product_91 (by decide) ?_
                    exact ih_10 v_156 r_162 f_132 _ _ _ (hs.trans ((if_neg c_152).trans (spl_e ev_156 (spl_e u_164 rfl)))) (by have zz0_13 : (f_132 0 13).toInt = v_140.toInt := (congrArg Int32.toInt (show f_132 0 13 = v_140 from ev_140.symm)); omega) ⟨by omega, by omega⟩ (by have zz0_13 : (f_132 0 13).toInt = v_140.toInt := (congrArg Int32.toInt (show f_132 0 13 = v_140 from ev_140.symm)); omega) (by have zz0_16 : (f_132 0 16).toInt = v_143.toInt := (congrArg Int32.toInt (show f_132 0 16 = v_143 from ev_143.symm)); omega) (by have zz0_15 : (f_132 0 15).toInt = v_146.toInt := (congrArg Int32.toInt (show f_132 0 15 = v_146 from ev_146.symm)); have zz0_16 : (f_132 0 16).toInt = v_143.toInt := (congrArg Int32.toInt (show f_132 0 16 = v_143 from ev_143.symm)); omega) (by have zz0_13 : (f_132 0 13).toInt = v_140.toInt := (congrArg Int32.toInt (show f_132 0 13 = v_140 from ev_140.symm)); have zz0_14 : (f_132 0 14).toInt = v_22.toInt := (congrArg Int32.toInt (show f_132 0 14 = v_22 from ((hk_f_132 0 14 (by decide)).trans (by rw [ef_127, sg_up_s, sgu_n (by decide)]; exact ev_22.symm)))); omega) hI hF hP hS (lv_sub hl [3, 1, 0] rfl)
                  · skip
                    exfalso; have c_155 : y2_10.toInt = 47 := (by first | exact (cm_eq1 ti_47 c) | (have z := Int32.toInt_inj.mpr c; have k1 : (47 : Int32).toInt = 47 := ti_47; omega)); first | exact absurd c_155 (by assumption) | omega
                · skip
                  have c_153 : r_135.toInt = 0 := (by first | exact (cm_eq1 ti_0 c) | (have z := Int32.toInt_inj.mpr c; have k1 : (0 : Int32).toInt = 0 := ti_0; omega))
                  refine lv_iconst (v := 0) hx hb dX12_product_66 ic_0 ?_
                  refine lv_goto (tgt := 85) hx hb dX12_product_67 (by decide) ?_
                  refine lv_istore_n (lv' := [(1, .int 0), (3, .int r_135), (0, .ref (h 0)), (2, .int y2_10)]) hx hb dX12_product_85 rfl hl (by decide) rfl (fun ls hl => ?_)
                  refine lv_aload_n hx hb dX12_product_86 rfl (lv_at hl 2 rfl) ?_
                  have q_166 : (f_132 0 14).toInt = v_22.toInt := (congrArg Int32.toInt (show f_132 0 14 = v_22 from ((hk_f_132 0 14 (by decide)).trans (by rw [ef_127, sg_up_s, sgu_n (by decide)]; exact ev_22.symm))))
                  refine sg_calli (va_runV (As := []) (rest := []) ⟨hx, hb, hml, hown, hts⟩ (kX12_byteAt l D ca za h hh f_132 L Q hI H.size) (sl_c12_byteAt_0_0_0_0_12 hts ⟨Nat.le_of_ble_eq_true rfl, Nat.le_of_ble_eq_true rfl⟩) (sl_vM_0 hA hK hP hS hZ) rfl rfl hl.1 rfl (lv_room (Nat.le_of_ble_eq_true rfl)) dX12_product_87 ⟨Nat.le_refl _, Nat.le_refl _⟩) hA hS (fun r_170 f_167 L_168 Q_169 H locs hq hP hS => ?_)
                  obtain ⟨⟨ef9, eL9, eQ9⟩, hq, p_171, u_172⟩ := hq
                  rw [ef9, eL9, eQ9] at hP; clear ef9 eL9 eQ9
                  refine lv_istore_n (lv' := [(2, .int r_170), (1, .int 0), (3, .int r_135), (0, .ref (h 0))]) hx hb dX12_product_90 rfl hl (by decide) rfl (fun ls hl => ?_)
                  refine lv_goto (tgt := 10) hx hb dX12_product_91 (by decide) ?_
                  exact ih_10 0 r_170 f_132 _ _ _ (hs.trans ((if_pos c_153).trans (spl_e u_172 rfl))) (by have kc0 : (0 : Int32).toInt = 0 := ti_0; have zz0_13 : (f_132 0 13).toInt = v_140.toInt := (congrArg Int32.toInt (show f_132 0 13 = v_140 from ev_140.symm)); omega) ⟨by omega, by omega⟩ (by have kc0 : (0 : Int32).toInt = 0 := ti_0; have zz0_13 : (f_132 0 13).toInt = v_140.toInt := (congrArg Int32.toInt (show f_132 0 13 = v_140 from ev_140.symm)); omega) (by have kc0 : (0 : Int32).toInt = 0 := ti_0; have zz0_16 : (f_132 0 16).toInt = v_143.toInt := (congrArg Int32.toInt (show f_132 0 16 = v_143 from ev_143.symm)); omega) (by have kc0 : (0 : Int32).toInt = 0 := ti_0; have zz0_15 : (f_132 0 15).toInt = v_146.toInt := (congrArg Int32.toInt (show f_132 0 15 = v_146 from ev_146.symm)); have zz0_16 : (f_132 0 16).toInt = v_143.toInt := (congrArg Int32.toInt (show f_132 0 16 = v_143 from ev_143.symm)); omega) (by have kc0 : (0 : Int32).toInt = 0 := ti_0; have zz0_13 : (f_132 0 13).toInt = v_140.toInt := (congrArg Int32.toInt (show f_132 0 13 = v_140 from ev_140.symm)); have zz0_14 : (f_132 0 14).toInt = v_22.toInt := (congrArg Int32.toInt (show f_132 0 14 = v_22 from ((hk_f_132 0 14 (by decide)).trans (by rw [ef_127, sg_up_s, sgu_n (by decide)]; exact ev_22.symm)))); omega) hI hF hP hS (lv_sub hl [3, 1, 0] rfl)
              · skip
                exfalso; have c_151 : y2_10.toInt = 42 := (by first | exact (cm_eq1 ti_42 c) | (have z := Int32.toInt_inj.mpr c; have k1 : (42 : Int32).toInt = 42 := ti_42; omega)); first | exact absurd c_151 (by assumption) | omega
  refine lv_aload_n hx hb dX12_product_0 rfl (lv_at hl 0 rfl) ?_
  have q_173 : (f 0 16).toInt = v_1.toInt := (congrArg Int32.toInt (show f 0 16 = v_1 from ev_1.symm))
  have q_174 : (f 0 15).toInt = v_3.toInt := (congrArg Int32.toInt (show f 0 15 = v_3 from ev_3.symm))
  have q_176 : (f 0 13).toInt = v_5.toInt := (congrArg Int32.toInt (show f 0 13 = v_5 from ev_5.symm))
  refine sg_calli (va_runV (As := []) (rest := []) ⟨hx, hb, hml, hown, hts⟩ (kX12_one_1 l D ca za h hh f L Q hI (by omega) (by omega) H.size) (sl_c12_one_31_0_0_705_12 hts ⟨Nat.le_of_ble_eq_true rfl, Nat.le_of_ble_eq_true rfl⟩) (sl_vM_0 hA hK hP hS hZ) rfl rfl hl.1 rfl (lv_room (Nat.le_of_ble_eq_true rfl)) dX12_product_1 ⟨Nat.le_refl _, Nat.le_refl _⟩) hA hS (fun r_180 f_177 L_178 Q_179 H locs hq hP hS => ?_)
  obtain ⟨⟨hI, hk_f_177, eL9, eQ9⟩, hq, p_181, p_182, p_183, u_184⟩ := hq
  rw [eL9, eQ9] at hP; clear eL9 eQ9
  have hF : sgK WkX12_product_1 f f_177 := sgK.tr hF hk_f_177 (by decide +kernel)
  obtain ⟨v_185, ev_185⟩ : ∃ z : Int32, z = f_177 0 13 := ⟨_, rfl⟩
  have q_186 : 0 ≤ v_185.toInt ∧ v_185.toInt ≤ 120 := by rw [ev_185]; exact hI 0 13
  have q_187 : (f_177 0 13).toInt = v_185.toInt := (congrArg Int32.toInt (show f_177 0 13 = v_185 from ev_185.symm))
  obtain ⟨v_188, ev_188⟩ : ∃ z : Int32, z = f_177 0 16 := ⟨_, rfl⟩
  have q_189 : 0 ≤ v_188.toInt ∧ v_188.toInt ≤ 6 := by rw [ev_188]; exact hI 0 16
  have q_190 : (f_177 0 16).toInt = v_188.toInt := (congrArg Int32.toInt (show f_177 0 16 = v_188 from ev_188.symm))
  obtain ⟨v_191, ev_191⟩ : ∃ z : Int32, z = f_177 0 15 := ⟨_, rfl⟩
  have q_192 : (-1) ≤ v_191.toInt ∧ v_191.toInt ≤ 120 := by rw [ev_191]; exact hI 0 15
  have q_193 : (f_177 0 15).toInt = v_191.toInt := (congrArg Int32.toInt (show f_177 0 15 = v_191 from ev_191.symm))
  refine lv_istore_n (lv' := [(1, .int r_180), (0, .ref (h 0))]) hx hb dX12_product_4 rfl hl (by decide) rfl (fun ls hl => ?_)
  refine lv_aload_n hx hb dX12_product_5 rfl (lv_at hl 1 rfl) ?_
  have q_196 : (f_177 0 14).toInt = v_7.toInt := (congrArg Int32.toInt (show f_177 0 14 = v_7 from ((hk_f_177 0 14 (by decide)).trans ev_7.symm)))
  refine sg_calli (va_runV (As := []) (rest := []) ⟨hx, hb, hml, hown, hts⟩ (kX12_byteAt l D ca za h hh f_177 L Q hI H.size) (sl_c12_byteAt_0_0_0_0_12 hts ⟨Nat.le_of_ble_eq_true rfl, Nat.le_of_ble_eq_true rfl⟩) (sl_vM_0 hA hK hP hS hZ) rfl rfl hl.1 rfl (lv_room (Nat.le_of_ble_eq_true rfl)) dX12_product_6 ⟨Nat.le_refl _, Nat.le_refl _⟩) hA hS (fun r_200 f_197 L_198 Q_199 H locs hq hP hS => ?_)
  obtain ⟨⟨ef9, eL9, eQ9⟩, hq, p_201, u_202⟩ := hq
  rw [ef9, eL9, eQ9] at hP; clear ef9 eL9 eQ9
  refine lv_istore_n (lv' := [(2, .int r_200), (1, .int r_180), (0, .ref (h 0))]) hx hb dX12_product_9 rfl hl (by decide) rfl (fun ls hl => ?_)
  exact loop_10 121 r_180 r_200 f_177 _ _ _ (hs.trans ((spl_e ev_1 (spl_e ev_3 (spl_e ev_5 (spl_e ev_7 (spl2_e u_184 (spl_e ev_185 (spl_e ev_188 (spl_e ev_191 (spl_e u_202 rfl))))))))))) (by have zz0_13 : (f_177 0 13).toInt = v_185.toInt := (congrArg Int32.toInt (show f_177 0 13 = v_185 from ev_185.symm)); omega) ⟨by omega, by omega⟩ (by have zz0_13 : (f_177 0 13).toInt = v_185.toInt := (congrArg Int32.toInt (show f_177 0 13 = v_185 from ev_185.symm)); omega) (by have zz0_16 : (f_177 0 16).toInt = v_188.toInt := (congrArg Int32.toInt (show f_177 0 16 = v_188 from ev_188.symm)); omega) (by have zz0_15 : (f_177 0 15).toInt = v_191.toInt := (congrArg Int32.toInt (show f_177 0 15 = v_191 from ev_191.symm)); have zz0_16 : (f_177 0 16).toInt = v_188.toInt := (congrArg Int32.toInt (show f_177 0 16 = v_188 from ev_188.symm)); omega) (by have zz0_13 : (f_177 0 13).toInt = v_185.toInt := (congrArg Int32.toInt (show f_177 0 13 = v_185 from ev_185.symm)); have zz0_14 : (f_177 0 14).toInt = v_7.toInt := (congrArg Int32.toInt (show f_177 0 14 = v_7 from ((hk_f_177 0 14 (by decide)).trans ev_7.symm))); omega) hI hF hP hS (lv_sub hl [2, 1, 0] rfl)

abbrev WkX12_sums_1 : List (Nat × Nat × Option Nat) := [(0, 0, some 13), (0, 0, some 15), (0, 0, some 16)]
set_option maxHeartbeats 4000000 in
set_option maxRecDepth 100000 in
theorem kX12_sums_1 (l : Launch) (D : va_G) (ca : Nat → ClassId) (za h : Nat → Nat) (hh : sgH 26 h) (f : sg_F) (L : sg_L) (Q : sg_Q) (hI : sgI loM hiM f) (p0 : 1 ≤ (f 0 16).toInt) (p1 : 0 ≤ (f 0 15).toInt ∨ (f 0 16).toInt = 1) (sz : Nat) : Met l yX12_sums gwX12_sums { frames := 33, cells := 0, slots := 0, locals := 752 } (sgP D vwCl (tyX ca) 26 h (eM ca h) zcM za f L Q sz [.ref (h 0)]) (sgQi D vwCl 26 h (eM ca h) sz (fun r f1 L1 Q1 => ((sgI loM hiM f1 ∧ sgK WkX12_sums_1 f f1 ∧ L1 = L ∧ Q1 = Q) ∧ True ∧ ((f 0 13).toInt ≤ (f1 0 13).toInt) ∧ (1 ≤ (f1 0 16).toInt) ∧ (0 ≤ (f1 0 15).toInt ∨ (f1 0 16).toInt = 1) ∧ (r, f1) = sX12_sums_1 f L))) 0 0 (sgA 26 h sz) := by
  refine sg_ofWi (cc := cX12_sums) (maxL := 4) RX12 (by decide) rfl rfl (Nat.le_of_ble_eq_true rfl) ?_
  intro p e s m below meth cd Qz ls hx hb hml hown hts hK hZ hP hS hl hret
  have hA := sgY.self (n := 26) (h := h) (sz := s.heap.size)
  have hl : lv_has ls 4 [(0, .ref (h 0))] := hl
  obtain ⟨H, hH⟩ : ∃ z : Heap, z = s.heap := ⟨_, rfl⟩
  obtain ⟨locs, hlo⟩ : ∃ z : List Loc, z = [] := ⟨_, rfl⟩
  have hP : va_P D vwCl (sgw 26 h (eM ca h) f L Q) H := by rw [hH]; exact hP
  have hS : va_S (sgA 26 h s.heap.size) s.heap H locs := by rw [hH, hlo]; exact hS
  suffices hgo : W p l e ({ frames := 33, cells := 0, slots := 0, locals := 752 }) s m ([.ref (h 0)] : List Value).toArray below meth cd H locs 0 0 Qz (F0 m 0 ls []) by rw [hH, hlo] at hgo; exact hgo
  clear hH hlo
  obtain ⟨sp, hsp⟩ : ∃ z : Int32 × sg_F, z = sX12_sums_1 f L := ⟨_, rfl⟩
  have hs : sp = sX12_sums_1 f L := hsp
  obtain ⟨v_1, ev_1⟩ : ∃ z : Int32, z = f 0 16 := ⟨_, rfl⟩
  have q_2 : 0 ≤ v_1.toInt ∧ v_1.toInt ≤ 6 := by rw [ev_1]; exact hI 0 16
  obtain ⟨v_3, ev_3⟩ : ∃ z : Int32, z = f 0 15 := ⟨_, rfl⟩
  have q_4 : (-1) ≤ v_3.toInt ∧ v_3.toInt ≤ 120 := by rw [ev_3]; exact hI 0 15
  obtain ⟨v_5, ev_5⟩ : ∃ z : Int32, z = f 0 13 := ⟨_, rfl⟩
  have q_6 : 0 ≤ v_5.toInt ∧ v_5.toInt ≤ 120 := by rw [ev_5]; exact hI 0 13
  have o_7 : (f 0 16).toInt = v_1.toInt := (congrArg Int32.toInt (show f 0 16 = v_1 from ev_1.symm))
  have o_8 : (f 0 15).toInt = v_3.toInt := (congrArg Int32.toInt (show f 0 15 = v_3 from ev_3.symm))
  have o_9 : (f 0 13).toInt = v_5.toInt := (congrArg Int32.toInt (show f 0 13 = v_5 from ev_5.symm))
  have hF : sgK WkX12_sums_1 f f := sgK.rf
  have loop_5 : ∀ (n_5 : Nat) (y1_5 : Int32) (fp_5 : sg_F) (H : Heap) (locs : List Loc) (ls : Array Slot), sp = sX12_sums_1_l5 n_5 y1_5 fp_5 L → 120 - (fp_5 0 13).toInt < (n_5 : Int) → (f 0 13).toInt ≤ (fp_5 0 13).toInt → 1 ≤ (fp_5 0 16).toInt → 0 ≤ (fp_5 0 15).toInt ∨ (fp_5 0 16).toInt = 1 → sgI loM hiM fp_5 → sgK WkX12_sums_1 f fp_5 → va_P D vwCl (sgw 26 h (eM ca h) fp_5 L Q) H → va_S (sgA 26 h s.heap.size) s.heap H locs → lv_has ls 4 [(0, .ref (h 0)), (1, .int y1_5)] → W p l e ({ frames := 33, cells := 0, slots := 0, locals := 752 }) s m ([.ref (h 0)] : List Value).toArray below meth cd H locs 0 0 Qz (F0 m 5 ls []) := by
    intro n_5
    induction n_5 with
    | zero => intro y1_5 fp_5 H locs ls hs hm_5 hg0_5 hg1_5 hg2_5 hI hF hP hS hl; have zb := (show 0 ≤ (fp_5 0 13).toInt ∧ (fp_5 0 13).toInt ≤ 120 from hI 0 13); exact absurd hm_5 (by omega)
    | succ n_5 ih_5 =>
      intro y1_5 fp_5 H locs ls hs hm_5 hg0_5 hg1_5 hg2_5 hI hF hP hS hl
      have hs : sp = sX12_sums_1_h5 (sX12_sums_1_l5 n_5) y1_5 fp_5 L := hs
      obtain ⟨v_10, ev_10⟩ : ∃ z : Int32, z = fp_5 0 13 := ⟨_, rfl⟩
      have q_11 : 0 ≤ v_10.toInt ∧ v_10.toInt ≤ 120 := by rw [ev_10]; exact hI 0 13
      have q_12 : (fp_5 0 13).toInt = v_10.toInt := by rw [ev_10]
      obtain ⟨v_13, ev_13⟩ : ∃ z : Int32, z = fp_5 0 16 := ⟨_, rfl⟩
      have q_14 : 0 ≤ v_13.toInt ∧ v_13.toInt ≤ 6 := by rw [ev_13]; exact hI 0 16
      have q_15 : (fp_5 0 16).toInt = v_13.toInt := by rw [ev_13]
      obtain ⟨v_16, ev_16⟩ : ∃ z : Int32, z = fp_5 0 15 := ⟨_, rfl⟩
      replace hs := hs.trans (spl_e ev_10 (spl_e ev_13 (spl_e ev_16 rfl)))
      have q_17 : (-1) ≤ v_16.toInt ∧ v_16.toInt ≤ 120 := by rw [ev_16]; exact hI 0 15
      have q_18 : (fp_5 0 15).toInt = v_16.toInt := by rw [ev_16]
      refine lv_aload_n hx hb dX12_sums_5 rfl (lv_at hl 0 rfl) ?_
      refine sl_gM_0_15_12 (v := v_16) hx hb hts hown hK hP (show fp_5 0 15 = v_16 from ev_16.symm) dX12_sums_6 ?_
      refine lv_if_ge (tgt := 77) hx hb dX12_sums_9 (by decide) (fun c => ?_) (fun c => ?_)
      · skip
        have c_19 : 0 ≤ v_16.toInt := (by first | exact (cm_le0 ti_0 c) | (have z := bn_le c; have k1 : (0 : Int32).toInt = 0 := ti_0; omega))
        refine lv_iload_n hx hb dX12_sums_77 rfl (lv_at hl 1 rfl) ?_
        exact hret _ _ _ _ (y1_5) fp_5 L Q dX12_sums_78 hP hS ⟨⟨hI, hF, rfl, rfl⟩, trivial, (by omega), (by omega), (by omega), (Eq.trans (Eq.symm (hs.trans ((if_neg (Int.not_lt.mpr c_19)).trans rfl))) hsp)⟩
      · skip
        have c_20 : v_16.toInt < 0 := (by first | exact (cm_nle0 ti_0 c) | (have z := bn_nle c; have k1 : (0 : Int32).toInt = 0 := ti_0; omega))
        refine lv_aload_n hx hb dX12_sums_12 rfl (lv_at hl 0 rfl) ?_
        obtain ⟨v_26, ev_26⟩ : ∃ z : Int32, z = fp_5 0 14 := ⟨_, rfl⟩
        have q_27 : 0 ≤ v_26.toInt ∧ v_26.toInt ≤ 120 := by rw [ev_26]; exact hI 0 14
        have q_28 : (fp_5 0 14).toInt = v_26.toInt := (congrArg Int32.toInt (show fp_5 0 14 = v_26 from ev_26.symm))
        refine sg_calli (va_runV (As := []) (rest := []) ⟨hx, hb, hml, hown, hts⟩ (kX12_byteAt l D ca za h hh fp_5 L Q hI H.size) (sl_c12_byteAt_0_0_0_0_12 hts ⟨Nat.le_of_ble_eq_true rfl, Nat.le_of_ble_eq_true rfl⟩) (sl_vM_0 hA hK hP hS hZ) rfl rfl hl.1 rfl (lv_room (Nat.le_of_ble_eq_true rfl)) dX12_sums_13 ⟨Nat.le_refl _, Nat.le_refl _⟩) hA hS (fun r_32 f_29 L_30 Q_31 H locs hq hP hS => ?_)
        obtain ⟨⟨ef9, eL9, eQ9⟩, hq, p_33, u_34⟩ := hq
        replace hs := hs.trans ((if_pos c_20).trans (spl_e ev_26 (spl_e u_34 rfl)))
        rw [ef9, eL9, eQ9] at hP; clear ef9 eL9 eQ9
        refine lv_bipush (v := 43) hx hb dX12_sums_16 bp_43 ?_
        refine lv_icmp_eq (tgt := 30) hx hb dX12_sums_18 (by decide) (fun c => ?_) (fun c => ?_)
        · skip
          have c_35 : r_32.toInt = 43 := (by first | exact (cm_eq1 ti_43 c) | (have z := Int32.toInt_inj.mpr c; have k1 : (43 : Int32).toInt = 43 := ti_43; omega))
          refine lv_aload_n hx hb dX12_sums_30 rfl (lv_at hl 0 rfl) ?_
          refine sg_calli (va_runV (As := []) (rest := []) ⟨hx, hb, hml, hown, hts⟩ (kX12_byteAt l D ca za h hh fp_5 L Q hI H.size) (sl_c12_byteAt_0_0_0_0_12 hts ⟨Nat.le_of_ble_eq_true rfl, Nat.le_of_ble_eq_true rfl⟩) (sl_vM_0 hA hK hP hS hZ) rfl rfl hl.1 rfl (lv_room (Nat.le_of_ble_eq_true rfl)) dX12_sums_31 ⟨Nat.le_refl _, Nat.le_refl _⟩) hA hS (fun r_42 f_39 L_40 Q_41 H locs hq hP hS => ?_)
          obtain ⟨⟨ef9, eL9, eQ9⟩, hq, p_43, u_44⟩ := hq
          rw [ef9, eL9, eQ9] at hP; clear ef9 eL9 eQ9
          rw [show r_42 = r_32 from u_44.trans u_34.symm]
          refine lv_bipush (v := 43) hx hb dX12_sums_34 bp_43 ?_
          refine lv_icmp_ne (tgt := 43) hx hb dX12_sums_36 (by decide) (fun c => ?_) (fun c => ?_)
          · skip
            exfalso; have c_45 : r_32.toInt ≠ 43 := (by first | exact (cm_ne1 ti_43 c) | (have z := bn_ne c; have k1 : (43 : Int32).toInt = 43 := ti_43; omega)); first | exact absurd (by assumption) c_45 | omega
          · skip
            have c_46 : r_32.toInt = 43 := (by first | exact (cm_eq1 ti_43 c) | (have z := Int32.toInt_inj.mpr c; have k1 : (43 : Int32).toInt = 43 := ti_43; omega))
            refine lv_iconst (v := 1) hx hb dX12_sums_39 ic_1 ?_
            refine lv_goto (tgt := 44) hx hb dX12_sums_40 (by decide) ?_
            refine lv_istore_n (lv' := [(2, .int 1), (0, .ref (h 0)), (1, .int y1_5)]) hx hb dX12_sums_44 rfl hl (by decide) rfl (fun ls hl => ?_)
            refine lv_aload_n hx hb dX12_sums_45 rfl (lv_at hl 1 rfl) ?_
            refine lv_dup hx hb dX12_sums_46 rfl ?_
            refine sl_gM_0_13_12 (v := v_10) hx hb hts hown hK hP (show fp_5 0 13 = v_10 from ev_10.symm) dX12_sums_47 ?_
            refine lv_iconst (v := 1) hx hb dX12_sums_50 ic_1 ?_
            refine lv_iadd hx hb dX12_sums_51 ?_
            refine lv_topi (fun v_47 ev_47 => ?_)
            have q_48 : v_47.toInt = v_10.toInt + 1 := by rw [ev_47]; first | exact cm_add ti_1 (by omega) (by omega) | (have k1 : (1 : Int32).toInt = 1 := ti_1; exact (bn_addI (by omega) (by omega)).trans (by omega))
            refine sl_pM_0_13_12 (x := v_47) hx hb hts hown hh hA hK hP hS dX12_sums_52 (fun f_49 H locs ef_49 hP hS => ?_)
            have hI : sgI loM hiM f_49 := by rw [ef_49]; exact sgI.put hI 0 13 (show 0 ≤ (v_47 : Int32).toInt ∧ (v_47 : Int32).toInt ≤ 120 from ⟨by omega, by omega⟩)
            have hF : sgK WkX12_sums_1 f f_49 := sgK.put hF ef_49 (by rfl)
            refine lv_aload_n hx hb dX12_sums_55 rfl (lv_at hl 1 rfl) ?_
            have q_50 : (f_49 0 16).toInt = v_13.toInt := (congrArg Int32.toInt (show f_49 0 16 = v_13 from (by rw [ef_49, sg_up_s, sgu_n (by decide)]; exact ev_13.symm)))
            have q_51 : (f_49 0 15).toInt = v_16.toInt := (congrArg Int32.toInt (show f_49 0 15 = v_16 from (by rw [ef_49, sg_up_s, sgu_n (by decide)]; exact ev_16.symm)))
            have q_53 : (f_49 0 13).toInt = v_47.toInt := (congrArg Int32.toInt (show f_49 0 13 = v_47 from (by rw [ef_49, sg_up_s, sgu_s])))
            refine sg_calli (va_runV (As := []) (rest := []) ⟨hx, hb, hml, hown, hts⟩ (kX12_product_1 l D ca za h hh f_49 L Q hI (by omega) (by omega) H.size) (sl_c12_product_32_0_0_729_12 hts ⟨Nat.le_of_ble_eq_true rfl, Nat.le_of_ble_eq_true rfl⟩) (sl_vM_0 hA hK hP hS hZ) rfl rfl hl.1 rfl (lv_room (Nat.le_of_ble_eq_true rfl)) dX12_sums_56 ⟨Nat.le_refl _, Nat.le_refl _⟩) hA hS (fun r_57 f_54 L_55 Q_56 H locs hq hP hS => ?_)
            obtain ⟨⟨hI, hk_f_54, eL9, eQ9⟩, hq, p_58, p_59, p_60, u_61⟩ := hq
            rw [eL9, eQ9] at hP; clear eL9 eQ9
            have hF : sgK WkX12_sums_1 f f_54 := sgK.tr hF hk_f_54 (by decide +kernel)
            obtain ⟨v_62, ev_62⟩ : ∃ z : Int32, z = f_54 0 13 := ⟨_, rfl⟩
            have q_63 : 0 ≤ v_62.toInt ∧ v_62.toInt ≤ 120 := by rw [ev_62]; exact hI 0 13
            have q_64 : (f_54 0 13).toInt = v_62.toInt := (congrArg Int32.toInt (show f_54 0 13 = v_62 from ev_62.symm))
            obtain ⟨v_65, ev_65⟩ : ∃ z : Int32, z = f_54 0 16 := ⟨_, rfl⟩
            have q_66 : 0 ≤ v_65.toInt ∧ v_65.toInt ≤ 6 := by rw [ev_65]; exact hI 0 16
            have q_67 : (f_54 0 16).toInt = v_65.toInt := (congrArg Int32.toInt (show f_54 0 16 = v_65 from ev_65.symm))
            obtain ⟨v_68, ev_68⟩ : ∃ z : Int32, z = f_54 0 15 := ⟨_, rfl⟩
            have q_69 : (-1) ≤ v_68.toInt ∧ v_68.toInt ≤ 120 := by rw [ev_68]; exact hI 0 15
            have q_70 : (f_54 0 15).toInt = v_68.toInt := (congrArg Int32.toInt (show f_54 0 15 = v_68 from ev_68.symm))
            refine lv_istore_n (lv' := [(3, .int r_57), (2, .int 1), (0, .ref (h 0)), (1, .int y1_5)]) hx hb dX12_sums_59 rfl hl (by decide) rfl (fun ls hl => ?_)
            refine lv_iload_n hx hb dX12_sums_60 rfl (lv_at hl 1 rfl) ?_
            refine lv_if_eq (tgt := 70) hx hb dX12_sums_61 (by decide) (fun c => absurd c (by decide)) (fun c => ?_)
            refine lv_iload_n hx hb dX12_sums_64 rfl (lv_at hl 3 rfl) ?_
            refine lv_iload_n hx hb dX12_sums_65 rfl (lv_at hl 0 rfl) ?_
            refine lv_iadd hx hb dX12_sums_66 ?_
            refine lv_topi (fun v_72 ev_72 => ?_)
            refine lv_goto (tgt := 73) hx hb dX12_sums_67 (by decide) ?_
            refine lv_istore_n (lv' := [(1, .int v_72), (3, .int r_57), (2, .int 1), (0, .ref (h 0))]) hx hb dX12_sums_73 rfl hl (by decide) rfl (fun ls hl => ?_)
            refine lv_goto (tgt := 5) hx hb dX12_sums_74 (by decide) ?_
            exact ih_5 v_72 f_54 _ _ _ (hs.trans ((if_pos c_35).trans (spl_e ev_47 (spl_e ef_49 (spl2_e u_61 (spl_e ev_62 (spl_e ev_65 (spl_e ev_68 (spl_e ev_72 rfl))))))))) (by have zz0_13 : (f_54 0 13).toInt = v_62.toInt := (congrArg Int32.toInt (show f_54 0 13 = v_62 from ev_62.symm)); omega) (by have zz0_13 : (f_54 0 13).toInt = v_62.toInt := (congrArg Int32.toInt (show f_54 0 13 = v_62 from ev_62.symm)); omega) (by have zz0_16 : (f_54 0 16).toInt = v_65.toInt := (congrArg Int32.toInt (show f_54 0 16 = v_65 from ev_65.symm)); omega) (by have zz0_15 : (f_54 0 15).toInt = v_68.toInt := (congrArg Int32.toInt (show f_54 0 15 = v_68 from ev_68.symm)); have zz0_16 : (f_54 0 16).toInt = v_65.toInt := (congrArg Int32.toInt (show f_54 0 16 = v_65 from ev_65.symm)); omega) hI hF hP hS (lv_sub hl [3, 0] rfl)
        · skip
          have c_36 : r_32.toInt ≠ 43 := (by first | exact (cm_ne1 ti_43 c) | (have z := bn_ne c; have k1 : (43 : Int32).toInt = 43 := ti_43; omega))
          replace hs := hs.trans ((if_neg c_36).trans rfl)
          refine lv_aload_n hx hb dX12_sums_21 rfl (lv_at hl 0 rfl) ?_
          refine sg_calli (va_runV (As := []) (rest := []) ⟨hx, hb, hml, hown, hts⟩ (kX12_byteAt l D ca za h hh fp_5 L Q hI H.size) (sl_c12_byteAt_0_0_0_0_12 hts ⟨Nat.le_of_ble_eq_true rfl, Nat.le_of_ble_eq_true rfl⟩) (sl_vM_0 hA hK hP hS hZ) rfl rfl hl.1 rfl (lv_room (Nat.le_of_ble_eq_true rfl)) dX12_sums_22 ⟨Nat.le_refl _, Nat.le_refl _⟩) hA hS (fun r_78 f_75 L_76 Q_77 H locs hq hP hS => ?_)
          obtain ⟨⟨ef9, eL9, eQ9⟩, hq, p_79, u_80⟩ := hq
          rw [ef9, eL9, eQ9] at hP; clear ef9 eL9 eQ9
          rw [show r_78 = r_32 from u_80.trans u_34.symm]
          refine lv_bipush (v := 45) hx hb dX12_sums_25 bp_45 ?_
          refine lv_icmp_ne (tgt := 77) hx hb dX12_sums_27 (by decide) (fun c => ?_) (fun c => ?_)
          · skip
            have c_81 : r_32.toInt ≠ 45 := (by first | exact (cm_ne1 ti_45 c) | (have z := bn_ne c; have k1 : (45 : Int32).toInt = 45 := ti_45; omega))
            refine lv_iload_n hx hb dX12_sums_77 rfl (lv_at hl 1 rfl) ?_
            exact hret _ _ _ _ (y1_5) fp_5 L Q dX12_sums_78 hP hS ⟨⟨hI, hF, rfl, rfl⟩, trivial, (by omega), (by omega), (by omega), (Eq.trans (Eq.symm (hs.trans ((if_neg c_81).trans rfl))) hsp)⟩
          · skip
            have c_82 : r_32.toInt = 45 := (by first | exact (cm_eq1 ti_45 c) | (have z := Int32.toInt_inj.mpr c; have k1 : (45 : Int32).toInt = 45 := ti_45; omega))
            refine lv_aload_n hx hb dX12_sums_30 rfl (lv_at hl 0 rfl) ?_
            refine sg_calli (va_runV (As := []) (rest := []) ⟨hx, hb, hml, hown, hts⟩ (kX12_byteAt l D ca za h hh fp_5 L Q hI H.size) (sl_c12_byteAt_0_0_0_0_12 hts ⟨Nat.le_of_ble_eq_true rfl, Nat.le_of_ble_eq_true rfl⟩) (sl_vM_0 hA hK hP hS hZ) rfl rfl hl.1 rfl (lv_room (Nat.le_of_ble_eq_true rfl)) dX12_sums_31 ⟨Nat.le_refl _, Nat.le_refl _⟩) hA hS (fun r_92 f_89 L_90 Q_91 H locs hq hP hS => ?_)
            obtain ⟨⟨ef9, eL9, eQ9⟩, hq, p_93, u_94⟩ := hq
            rw [ef9, eL9, eQ9] at hP; clear ef9 eL9 eQ9
            rw [show r_92 = r_32 from u_94.trans u_34.symm]
            refine lv_bipush (v := 43) hx hb dX12_sums_34 bp_43 ?_
            refine lv_icmp_ne (tgt := 43) hx hb dX12_sums_36 (by decide) (fun c => ?_) (fun c => ?_)
            · skip
              have c_95 : r_32.toInt ≠ 43 := (by first | exact (cm_ne1 ti_43 c) | (have z := bn_ne c; have k1 : (43 : Int32).toInt = 43 := ti_43; omega))
              refine lv_iconst (v := 0) hx hb dX12_sums_43 ic_0 ?_
              refine lv_istore_n (lv' := [(2, .int 0), (0, .ref (h 0)), (1, .int y1_5)]) hx hb dX12_sums_44 rfl hl (by decide) rfl (fun ls hl => ?_)
              refine lv_aload_n hx hb dX12_sums_45 rfl (lv_at hl 1 rfl) ?_
              refine lv_dup hx hb dX12_sums_46 rfl ?_
              refine sl_gM_0_13_12 (v := v_10) hx hb hts hown hK hP (show fp_5 0 13 = v_10 from ev_10.symm) dX12_sums_47 ?_
              refine lv_iconst (v := 1) hx hb dX12_sums_50 ic_1 ?_
              refine lv_iadd hx hb dX12_sums_51 ?_
              refine lv_topi (fun v_97 ev_97 => ?_)
              have q_98 : v_97.toInt = v_10.toInt + 1 := by rw [ev_97]; first | exact cm_add ti_1 (by omega) (by omega) | (have k1 : (1 : Int32).toInt = 1 := ti_1; exact (bn_addI (by omega) (by omega)).trans (by omega))
              refine sl_pM_0_13_12 (x := v_97) hx hb hts hown hh hA hK hP hS dX12_sums_52 (fun f_99 H locs ef_99 hP hS => ?_)
              have hI : sgI loM hiM f_99 := by rw [ef_99]; exact sgI.put hI 0 13 (show 0 ≤ (v_97 : Int32).toInt ∧ (v_97 : Int32).toInt ≤ 120 from ⟨by omega, by omega⟩)
              have hF : sgK WkX12_sums_1 f f_99 := sgK.put hF ef_99 (by rfl)
              refine lv_aload_n hx hb dX12_sums_55 rfl (lv_at hl 1 rfl) ?_
              have q_100 : (f_99 0 16).toInt = v_13.toInt := (congrArg Int32.toInt (show f_99 0 16 = v_13 from (by rw [ef_99, sg_up_s, sgu_n (by decide)]; exact ev_13.symm)))
              have q_101 : (f_99 0 15).toInt = v_16.toInt := (congrArg Int32.toInt (show f_99 0 15 = v_16 from (by rw [ef_99, sg_up_s, sgu_n (by decide)]; exact ev_16.symm)))
              have q_103 : (f_99 0 13).toInt = v_97.toInt := (congrArg Int32.toInt (show f_99 0 13 = v_97 from (by rw [ef_99, sg_up_s, sgu_s])))
              refine sg_calli (va_runV (As := []) (rest := []) ⟨hx, hb, hml, hown, hts⟩ (kX12_product_1 l D ca za h hh f_99 L Q hI (by omega) (by omega) H.size) (sl_c12_product_32_0_0_729_12 hts ⟨Nat.le_of_ble_eq_true rfl, Nat.le_of_ble_eq_true rfl⟩) (sl_vM_0 hA hK hP hS hZ) rfl rfl hl.1 rfl (lv_room (Nat.le_of_ble_eq_true rfl)) dX12_sums_56 ⟨Nat.le_refl _, Nat.le_refl _⟩) hA hS (fun r_107 f_104 L_105 Q_106 H locs hq hP hS => ?_)
              obtain ⟨⟨hI, hk_f_104, eL9, eQ9⟩, hq, p_108, p_109, p_110, u_111⟩ := hq
              rw [eL9, eQ9] at hP; clear eL9 eQ9
              have hF : sgK WkX12_sums_1 f f_104 := sgK.tr hF hk_f_104 (by decide +kernel)
              obtain ⟨v_112, ev_112⟩ : ∃ z : Int32, z = f_104 0 13 := ⟨_, rfl⟩
              have q_113 : 0 ≤ v_112.toInt ∧ v_112.toInt ≤ 120 := by rw [ev_112]; exact hI 0 13
              have q_114 : (f_104 0 13).toInt = v_112.toInt := (congrArg Int32.toInt (show f_104 0 13 = v_112 from ev_112.symm))
              obtain ⟨v_115, ev_115⟩ : ∃ z : Int32, z = f_104 0 16 := ⟨_, rfl⟩
              have q_116 : 0 ≤ v_115.toInt ∧ v_115.toInt ≤ 6 := by rw [ev_115]; exact hI 0 16
              have q_117 : (f_104 0 16).toInt = v_115.toInt := (congrArg Int32.toInt (show f_104 0 16 = v_115 from ev_115.symm))
              obtain ⟨v_118, ev_118⟩ : ∃ z : Int32, z = f_104 0 15 := ⟨_, rfl⟩
              have q_119 : (-1) ≤ v_118.toInt ∧ v_118.toInt ≤ 120 := by rw [ev_118]; exact hI 0 15
              have q_120 : (f_104 0 15).toInt = v_118.toInt := (congrArg Int32.toInt (show f_104 0 15 = v_118 from ev_118.symm))
              refine lv_istore_n (lv' := [(3, .int r_107), (2, .int 0), (0, .ref (h 0)), (1, .int y1_5)]) hx hb dX12_sums_59 rfl hl (by decide) rfl (fun ls hl => ?_)
              refine lv_iload_n hx hb dX12_sums_60 rfl (lv_at hl 1 rfl) ?_
              refine lv_if_eq (tgt := 70) hx hb dX12_sums_61 (by decide) (fun c => ?_) (fun c => absurd c (by decide))
              refine lv_iload_n hx hb dX12_sums_70 rfl (lv_at hl 3 rfl) ?_
              refine lv_iload_n hx hb dX12_sums_71 rfl (lv_at hl 0 rfl) ?_
              refine lv_isub hx hb dX12_sums_72 ?_
              refine lv_topi (fun v_122 ev_122 => ?_)
              refine lv_istore_n (lv' := [(1, .int v_122), (3, .int r_107), (2, .int 0), (0, .ref (h 0))]) hx hb dX12_sums_73 rfl hl (by decide) rfl (fun ls hl => ?_)
              refine lv_goto (tgt := 5) hx hb dX12_sums_74 (by decide) ?_
              exact ih_5 v_122 f_104 _ _ _ (hs.trans ((if_pos c_82).trans (spl_e ev_97 (spl_e ef_99 (spl2_e u_111 (spl_e ev_112 (spl_e ev_115 (spl_e ev_118 (spl_e ev_122 rfl))))))))) (by have zz0_13 : (f_104 0 13).toInt = v_112.toInt := (congrArg Int32.toInt (show f_104 0 13 = v_112 from ev_112.symm)); omega) (by have zz0_13 : (f_104 0 13).toInt = v_112.toInt := (congrArg Int32.toInt (show f_104 0 13 = v_112 from ev_112.symm)); omega) (by have zz0_16 : (f_104 0 16).toInt = v_115.toInt := (congrArg Int32.toInt (show f_104 0 16 = v_115 from ev_115.symm)); omega) (by have zz0_15 : (f_104 0 15).toInt = v_118.toInt := (congrArg Int32.toInt (show f_104 0 15 = v_118 from ev_118.symm)); have zz0_16 : (f_104 0 16).toInt = v_115.toInt := (congrArg Int32.toInt (show f_104 0 16 = v_115 from ev_115.symm)); omega) hI hF hP hS (lv_sub hl [3, 0] rfl)
            · skip
              exfalso; have c_96 : r_32.toInt = 43 := (by first | exact (cm_eq1 ti_43 c) | (have z := Int32.toInt_inj.mpr c; have k1 : (43 : Int32).toInt = 43 := ti_43; omega)); first | exact absurd c_96 (by assumption) | omega
  refine lv_aload_n hx hb dX12_sums_0 rfl (lv_at hl 0 rfl) ?_
  have q_123 : (f 0 16).toInt = v_1.toInt := (congrArg Int32.toInt (show f 0 16 = v_1 from ev_1.symm))
  have q_124 : (f 0 15).toInt = v_3.toInt := (congrArg Int32.toInt (show f 0 15 = v_3 from ev_3.symm))
  have q_126 : (f 0 13).toInt = v_5.toInt := (congrArg Int32.toInt (show f 0 13 = v_5 from ev_5.symm))
  refine sg_calli (va_runV (As := []) (rest := []) ⟨hx, hb, hml, hown, hts⟩ (kX12_product_1 l D ca za h hh f L Q hI (by omega) (by omega) H.size) (sl_c12_product_32_0_0_729_12 hts ⟨Nat.le_of_ble_eq_true rfl, Nat.le_of_ble_eq_true rfl⟩) (sl_vM_0 hA hK hP hS hZ) rfl rfl hl.1 rfl (lv_room (Nat.le_of_ble_eq_true rfl)) dX12_sums_1 ⟨Nat.le_refl _, Nat.le_refl _⟩) hA hS (fun r_130 f_127 L_128 Q_129 H locs hq hP hS => ?_)
  obtain ⟨⟨hI, hk_f_127, eL9, eQ9⟩, hq, p_131, p_132, p_133, u_134⟩ := hq
  rw [eL9, eQ9] at hP; clear eL9 eQ9
  have hF : sgK WkX12_sums_1 f f_127 := sgK.tr hF hk_f_127 (by decide +kernel)
  obtain ⟨v_135, ev_135⟩ : ∃ z : Int32, z = f_127 0 13 := ⟨_, rfl⟩
  have q_136 : 0 ≤ v_135.toInt ∧ v_135.toInt ≤ 120 := by rw [ev_135]; exact hI 0 13
  have q_137 : (f_127 0 13).toInt = v_135.toInt := (congrArg Int32.toInt (show f_127 0 13 = v_135 from ev_135.symm))
  obtain ⟨v_138, ev_138⟩ : ∃ z : Int32, z = f_127 0 16 := ⟨_, rfl⟩
  have q_139 : 0 ≤ v_138.toInt ∧ v_138.toInt ≤ 6 := by rw [ev_138]; exact hI 0 16
  have q_140 : (f_127 0 16).toInt = v_138.toInt := (congrArg Int32.toInt (show f_127 0 16 = v_138 from ev_138.symm))
  obtain ⟨v_141, ev_141⟩ : ∃ z : Int32, z = f_127 0 15 := ⟨_, rfl⟩
  have q_142 : (-1) ≤ v_141.toInt ∧ v_141.toInt ≤ 120 := by rw [ev_141]; exact hI 0 15
  have q_143 : (f_127 0 15).toInt = v_141.toInt := (congrArg Int32.toInt (show f_127 0 15 = v_141 from ev_141.symm))
  refine lv_istore_n (lv' := [(1, .int r_130), (0, .ref (h 0))]) hx hb dX12_sums_4 rfl hl (by decide) rfl (fun ls hl => ?_)
  exact loop_5 121 r_130 f_127 _ _ _ (hs.trans ((spl_e ev_1 (spl_e ev_3 (spl_e ev_5 (spl2_e u_134 (spl_e ev_135 (spl_e ev_138 (spl_e ev_141 rfl))))))))) (by have zz0_13 : (f_127 0 13).toInt = v_135.toInt := (congrArg Int32.toInt (show f_127 0 13 = v_135 from ev_135.symm)); omega) (by have zz0_13 : (f_127 0 13).toInt = v_135.toInt := (congrArg Int32.toInt (show f_127 0 13 = v_135 from ev_135.symm)); omega) (by have zz0_16 : (f_127 0 16).toInt = v_138.toInt := (congrArg Int32.toInt (show f_127 0 16 = v_138 from ev_138.symm)); omega) (by have zz0_15 : (f_127 0 15).toInt = v_141.toInt := (congrArg Int32.toInt (show f_127 0 15 = v_141 from ev_141.symm)); have zz0_16 : (f_127 0 16).toInt = v_138.toInt := (congrArg Int32.toInt (show f_127 0 16 = v_138 from ev_138.symm)); omega) hI hF hP hS (lv_sub hl [1, 0] rfl)

abbrev WkX12_compared_1 : List (Nat × Nat × Option Nat) := [(0, 0, some 13), (0, 0, some 15), (0, 0, some 16)]
set_option maxHeartbeats 4000000 in
set_option maxRecDepth 100000 in
theorem kX12_compared_1 (l : Launch) (D : va_G) (ca : Nat → ClassId) (za h : Nat → Nat) (hh : sgH 26 h) (f : sg_F) (L : sg_L) (Q : sg_Q) (hI : sgI loM hiM f) (p0 : 1 ≤ (f 0 16).toInt) (p1 : 0 ≤ (f 0 15).toInt ∨ (f 0 16).toInt = 1) (sz : Nat) : Met l yX12_compared gwX12_compared { frames := 34, cells := 0, slots := 0, locals := 775 } (sgP D vwCl (tyX ca) 26 h (eM ca h) zcM za f L Q sz [.ref (h 0)]) (sgQi D vwCl 26 h (eM ca h) sz (fun r f1 L1 Q1 => ((sgI loM hiM f1 ∧ sgK WkX12_compared_1 f f1 ∧ L1 = L ∧ Q1 = Q) ∧ True ∧ ((f 0 13).toInt ≤ (f1 0 13).toInt) ∧ (1 ≤ (f1 0 16).toInt) ∧ (0 ≤ (f1 0 15).toInt ∨ (f1 0 16).toInt = 1) ∧ (r, f1) = sX12_compared_1 f L))) 0 0 (sgA 26 h sz) := by
  refine sg_ofWi (cc := cX12_compared) (maxL := 4) RX12 (by decide) rfl rfl (Nat.le_of_ble_eq_true rfl) ?_
  intro p e s m below meth cd Qz ls hx hb hml hown hts hK hZ hP hS hl hret
  have hA := sgY.self (n := 26) (h := h) (sz := s.heap.size)
  have hl : lv_has ls 4 [(0, .ref (h 0))] := hl
  obtain ⟨H, hH⟩ : ∃ z : Heap, z = s.heap := ⟨_, rfl⟩
  obtain ⟨locs, hlo⟩ : ∃ z : List Loc, z = [] := ⟨_, rfl⟩
  have hP : va_P D vwCl (sgw 26 h (eM ca h) f L Q) H := by rw [hH]; exact hP
  have hS : va_S (sgA 26 h s.heap.size) s.heap H locs := by rw [hH, hlo]; exact hS
  suffices hgo : W p l e ({ frames := 34, cells := 0, slots := 0, locals := 775 }) s m ([.ref (h 0)] : List Value).toArray below meth cd H locs 0 0 Qz (F0 m 0 ls []) by rw [hH, hlo] at hgo; exact hgo
  clear hH hlo
  obtain ⟨sp, hsp⟩ : ∃ z : Int32 × sg_F, z = sX12_compared_1 f L := ⟨_, rfl⟩
  have hs : sp = sX12_compared_1 f L := hsp
  obtain ⟨v_1, ev_1⟩ : ∃ z : Int32, z = f 0 16 := ⟨_, rfl⟩
  have q_2 : 0 ≤ v_1.toInt ∧ v_1.toInt ≤ 6 := by rw [ev_1]; exact hI 0 16
  obtain ⟨v_3, ev_3⟩ : ∃ z : Int32, z = f 0 15 := ⟨_, rfl⟩
  have q_4 : (-1) ≤ v_3.toInt ∧ v_3.toInt ≤ 120 := by rw [ev_3]; exact hI 0 15
  obtain ⟨v_5, ev_5⟩ : ∃ z : Int32, z = f 0 13 := ⟨_, rfl⟩
  have q_6 : 0 ≤ v_5.toInt ∧ v_5.toInt ≤ 120 := by rw [ev_5]; exact hI 0 13
  have o_7 : (f 0 16).toInt = v_1.toInt := (congrArg Int32.toInt (show f 0 16 = v_1 from ev_1.symm))
  have o_8 : (f 0 15).toInt = v_3.toInt := (congrArg Int32.toInt (show f 0 15 = v_3 from ev_3.symm))
  have o_9 : (f 0 13).toInt = v_5.toInt := (congrArg Int32.toInt (show f 0 13 = v_5 from ev_5.symm))
  have hF : sgK WkX12_compared_1 f f := sgK.rf
  refine lv_aload_n hx hb dX12_compared_0 rfl (lv_at hl 0 rfl) ?_
  have q_10 : (f 0 16).toInt = v_1.toInt := (congrArg Int32.toInt (show f 0 16 = v_1 from ev_1.symm))
  have q_11 : (f 0 15).toInt = v_3.toInt := (congrArg Int32.toInt (show f 0 15 = v_3 from ev_3.symm))
  have q_13 : (f 0 13).toInt = v_5.toInt := (congrArg Int32.toInt (show f 0 13 = v_5 from ev_5.symm))
  refine sg_calli (va_runV (As := []) (rest := []) ⟨hx, hb, hml, hown, hts⟩ (kX12_sums_1 l D ca za h hh f L Q hI (by omega) (by omega) H.size) (sl_c12_sums_33_0_0_752_12 hts ⟨Nat.le_of_ble_eq_true rfl, Nat.le_of_ble_eq_true rfl⟩) (sl_vM_0 hA hK hP hS hZ) rfl rfl hl.1 rfl (lv_room (Nat.le_of_ble_eq_true rfl)) dX12_compared_1 ⟨Nat.le_refl _, Nat.le_refl _⟩) hA hS (fun r_17 f_14 L_15 Q_16 H locs hq hP hS => ?_)
  obtain ⟨⟨hI, hk_f_14, eL9, eQ9⟩, hq, p_18, p_19, p_20, u_21⟩ := hq
  rw [eL9, eQ9] at hP; clear eL9 eQ9
  have hF : sgK WkX12_compared_1 f f_14 := sgK.tr hF hk_f_14 (by decide +kernel)
  obtain ⟨v_22, ev_22⟩ : ∃ z : Int32, z = f_14 0 13 := ⟨_, rfl⟩
  have q_23 : 0 ≤ v_22.toInt ∧ v_22.toInt ≤ 120 := by rw [ev_22]; exact hI 0 13
  have q_24 : (f_14 0 13).toInt = v_22.toInt := (congrArg Int32.toInt (show f_14 0 13 = v_22 from ev_22.symm))
  obtain ⟨v_25, ev_25⟩ : ∃ z : Int32, z = f_14 0 16 := ⟨_, rfl⟩
  have q_26 : 0 ≤ v_25.toInt ∧ v_25.toInt ≤ 6 := by rw [ev_25]; exact hI 0 16
  have q_27 : (f_14 0 16).toInt = v_25.toInt := (congrArg Int32.toInt (show f_14 0 16 = v_25 from ev_25.symm))
  obtain ⟨v_28, ev_28⟩ : ∃ z : Int32, z = f_14 0 15 := ⟨_, rfl⟩
  have q_29 : (-1) ≤ v_28.toInt ∧ v_28.toInt ≤ 120 := by rw [ev_28]; exact hI 0 15
  have q_30 : (f_14 0 15).toInt = v_28.toInt := (congrArg Int32.toInt (show f_14 0 15 = v_28 from ev_28.symm))
  refine lv_istore_n (lv' := [(1, .int r_17), (0, .ref (h 0))]) hx hb dX12_compared_4 rfl hl (by decide) rfl (fun ls hl => ?_)
  refine lv_aload_n hx hb dX12_compared_5 rfl (lv_at hl 1 rfl) ?_
  obtain ⟨v_33, ev_33⟩ : ∃ z : Int32, z = f_14 0 14 := ⟨_, rfl⟩
  have q_34 : 0 ≤ v_33.toInt ∧ v_33.toInt ≤ 120 := by rw [ev_33]; exact hI 0 14
  have q_35 : (f_14 0 14).toInt = v_33.toInt := (congrArg Int32.toInt (show f_14 0 14 = v_33 from ev_33.symm))
  refine sg_calli (va_runV (As := []) (rest := []) ⟨hx, hb, hml, hown, hts⟩ (kX12_byteAt l D ca za h hh f_14 L Q hI H.size) (sl_c12_byteAt_0_0_0_0_12 hts ⟨Nat.le_of_ble_eq_true rfl, Nat.le_of_ble_eq_true rfl⟩) (sl_vM_0 hA hK hP hS hZ) rfl rfl hl.1 rfl (lv_room (Nat.le_of_ble_eq_true rfl)) dX12_compared_6 ⟨Nat.le_refl _, Nat.le_refl _⟩) hA hS (fun r_39 f_36 L_37 Q_38 H locs hq hP hS => ?_)
  obtain ⟨⟨ef9, eL9, eQ9⟩, hq, p_40, u_41⟩ := hq
  replace hs := hs.trans (spl_e ev_1 (spl_e ev_3 (spl_e ev_5 (spl2_e u_21 (spl_e ev_22 (spl_e ev_25 (spl_e ev_28 (spl_e ev_33 (spl_e u_41 rfl)))))))))
  rw [ef9, eL9, eQ9] at hP; clear ef9 eL9 eQ9
  refine lv_istore_n (lv' := [(2, .int r_39), (1, .int r_17), (0, .ref (h 0))]) hx hb dX12_compared_9 rfl hl (by decide) rfl (fun ls hl => ?_)
  refine lv_aload_n hx hb dX12_compared_10 rfl (lv_at hl 2 rfl) ?_
  refine sl_gM_0_15_12 (v := v_28) hx hb hts hown hK hP (show f_14 0 15 = v_28 from ev_28.symm) dX12_compared_11 ?_
  refine lv_if_ge (tgt := 35) hx hb dX12_compared_14 (by decide) (fun c => ?_) (fun c => ?_)
  · skip
    have c_42 : 0 ≤ v_28.toInt := (by first | exact (cm_le0 ti_0 c) | (have z := bn_le c; have k1 : (0 : Int32).toInt = 0 := ti_0; omega))
    refine lv_iload_n hx hb dX12_compared_35 rfl (lv_at hl 1 rfl) ?_
    exact hret _ _ _ _ (r_17) f_14 L Q dX12_compared_36 hP hS ⟨⟨hI, hF, rfl, rfl⟩, trivial, (by omega), (by omega), (by omega), (Eq.trans (Eq.symm (hs.trans ((if_neg (Int.not_lt.mpr c_42)).trans rfl))) hsp)⟩
  · skip
    have c_43 : v_28.toInt < 0 := (by first | exact (cm_nle0 ti_0 c) | (have z := bn_nle c; have k1 : (0 : Int32).toInt = 0 := ti_0; omega))
    replace hs := hs.trans ((if_pos c_43).trans rfl)
    refine lv_iload_n hx hb dX12_compared_17 rfl (lv_at hl 0 rfl) ?_
    refine lv_bipush (v := 60) hx hb dX12_compared_18 bp_60 ?_
    refine lv_icmp_eq (tgt := 37) hx hb dX12_compared_20 (by decide) (fun c => ?_) (fun c => ?_)
    · skip
      have c_48 : r_39.toInt = 60 := (by first | exact (cm_eq1 ti_60 c) | (have z := Int32.toInt_inj.mpr c; have k1 : (60 : Int32).toInt = 60 := ti_60; omega))
      refine lv_aload_n hx hb dX12_compared_37 rfl (lv_at hl 2 rfl) ?_
      refine lv_dup hx hb dX12_compared_38 rfl ?_
      refine sl_gM_0_13_12 (v := v_22) hx hb hts hown hK hP (show f_14 0 13 = v_22 from ev_22.symm) dX12_compared_39 ?_
      refine lv_iconst (v := 1) hx hb dX12_compared_42 ic_1 ?_
      refine lv_iadd hx hb dX12_compared_43 ?_
      refine lv_topi (fun v_50 ev_50 => ?_)
      have q_51 : v_50.toInt = v_22.toInt + 1 := by rw [ev_50]; first | exact cm_add ti_1 (by omega) (by omega) | (have k1 : (1 : Int32).toInt = 1 := ti_1; exact (bn_addI (by omega) (by omega)).trans (by omega))
      refine sl_pM_0_13_12 (x := v_50) hx hb hts hown hh hA hK hP hS dX12_compared_44 (fun f_52 H locs ef_52 hP hS => ?_)
      have hI : sgI loM hiM f_52 := by rw [ef_52]; exact sgI.put hI 0 13 (show 0 ≤ (v_50 : Int32).toInt ∧ (v_50 : Int32).toInt ≤ 120 from ⟨by omega, by omega⟩)
      have hF : sgK WkX12_compared_1 f f_52 := sgK.put hF ef_52 (by rfl)
      refine lv_aload_n hx hb dX12_compared_47 rfl (lv_at hl 2 rfl) ?_
      have q_53 : (f_52 0 16).toInt = v_25.toInt := (congrArg Int32.toInt (show f_52 0 16 = v_25 from (by rw [ef_52, sg_up_s, sgu_n (by decide)]; exact ev_25.symm)))
      have q_54 : (f_52 0 15).toInt = v_28.toInt := (congrArg Int32.toInt (show f_52 0 15 = v_28 from (by rw [ef_52, sg_up_s, sgu_n (by decide)]; exact ev_28.symm)))
      have q_56 : (f_52 0 13).toInt = v_50.toInt := (congrArg Int32.toInt (show f_52 0 13 = v_50 from (by rw [ef_52, sg_up_s, sgu_s])))
      refine sg_calli (va_runV (As := []) (rest := []) ⟨hx, hb, hml, hown, hts⟩ (kX12_sums_1 l D ca za h hh f_52 L Q hI (by omega) (by omega) H.size) (sl_c12_sums_33_0_0_752_12 hts ⟨Nat.le_of_ble_eq_true rfl, Nat.le_of_ble_eq_true rfl⟩) (sl_vM_0 hA hK hP hS hZ) rfl rfl hl.1 rfl (lv_room (Nat.le_of_ble_eq_true rfl)) dX12_compared_48 ⟨Nat.le_refl _, Nat.le_refl _⟩) hA hS (fun r_60 f_57 L_58 Q_59 H locs hq hP hS => ?_)
      obtain ⟨⟨hI, hk_f_57, eL9, eQ9⟩, hq, p_61, p_62, p_63, u_64⟩ := hq
      rw [eL9, eQ9] at hP; clear eL9 eQ9
      have hF : sgK WkX12_compared_1 f f_57 := sgK.tr hF hk_f_57 (by decide +kernel)
      obtain ⟨v_65, ev_65⟩ : ∃ z : Int32, z = f_57 0 13 := ⟨_, rfl⟩
      have q_66 : 0 ≤ v_65.toInt ∧ v_65.toInt ≤ 120 := by rw [ev_65]; exact hI 0 13
      have q_67 : (f_57 0 13).toInt = v_65.toInt := (congrArg Int32.toInt (show f_57 0 13 = v_65 from ev_65.symm))
      obtain ⟨v_68, ev_68⟩ : ∃ z : Int32, z = f_57 0 16 := ⟨_, rfl⟩
      have q_69 : 0 ≤ v_68.toInt ∧ v_68.toInt ≤ 6 := by rw [ev_68]; exact hI 0 16
      have q_70 : (f_57 0 16).toInt = v_68.toInt := (congrArg Int32.toInt (show f_57 0 16 = v_68 from ev_68.symm))
      obtain ⟨v_71, ev_71⟩ : ∃ z : Int32, z = f_57 0 15 := ⟨_, rfl⟩
      replace hs := hs.trans ((if_pos c_48).trans (spl_e ev_50 (spl_e ef_52 (spl2_e u_64 (spl_e ev_65 (spl_e ev_68 (spl_e ev_71 rfl)))))))
      have q_72 : (-1) ≤ v_71.toInt ∧ v_71.toInt ≤ 120 := by rw [ev_71]; exact hI 0 15
      have q_73 : (f_57 0 15).toInt = v_71.toInt := (congrArg Int32.toInt (show f_57 0 15 = v_71 from ev_71.symm))
      refine lv_istore_n (lv' := [(3, .int r_60), (2, .int r_39), (1, .int r_17), (0, .ref (h 0))]) hx hb dX12_compared_51 rfl hl (by decide) rfl (fun ls hl => ?_)
      refine lv_iload_n hx hb dX12_compared_52 rfl (lv_at hl 1 rfl) ?_
      refine lv_bipush (v := 60) hx hb dX12_compared_53 bp_60 ?_
      refine lv_icmp_ne (tgt := 66) hx hb dX12_compared_55 (by decide) (fun c => ?_) (fun c => ?_)
      · skip
        exfalso; have c_75 : r_39.toInt ≠ 60 := (by first | exact (cm_ne1 ti_60 c) | (have z := bn_ne c; have k1 : (60 : Int32).toInt = 60 := ti_60; omega)); first | exact absurd (by assumption) c_75 | omega
      · skip
        have c_76 : r_39.toInt = 60 := (by first | exact (cm_eq1 ti_60 c) | (have z := Int32.toInt_inj.mpr c; have k1 : (60 : Int32).toInt = 60 := ti_60; omega))
        refine lv_iload_n hx hb dX12_compared_58 rfl (lv_at hl 2 rfl) ?_
        refine lv_iload_n hx hb dX12_compared_59 rfl (lv_at hl 0 rfl) ?_
        refine lv_icmp_ge (tgt := 89) hx hb dX12_compared_60 (by decide) (fun c => ?_) (fun c => ?_)
        · skip
          have c_77 : r_60.toInt ≤ r_17.toInt := (by first | exact (bn_le c) | (have z := bn_le c; omega))
          refine lv_iconst (v := 0) hx hb dX12_compared_89 ic_0 ?_
          have k99 : (0 : Int32).toInt = 0 := ti_0
          exact hret _ _ _ _ (0) f_57 L Q dX12_compared_90 hP hS ⟨⟨hI, hF, rfl, rfl⟩, trivial, (by omega), (by omega), (by omega), (Eq.trans (Eq.symm (hs.trans ((if_neg (Int.not_lt.mpr c_77)).trans rfl))) hsp)⟩
        · skip
          have c_78 : r_17.toInt < r_60.toInt := (by first | exact (bn_nle c) | (have z := bn_nle c; omega))
          refine lv_goto (tgt := 85) hx hb dX12_compared_63 (by decide) ?_
          refine lv_iconst (v := 1) hx hb dX12_compared_85 ic_1 ?_
          refine lv_goto (tgt := 90) hx hb dX12_compared_86 (by decide) ?_
          have k99 : (1 : Int32).toInt = 1 := ti_1
          exact hret _ _ _ _ (1) f_57 L Q dX12_compared_90 hP hS ⟨⟨hI, hF, rfl, rfl⟩, trivial, (by omega), (by omega), (by omega), (Eq.trans (Eq.symm (hs.trans ((if_pos c_78).trans rfl))) hsp)⟩
    · skip
      have c_49 : r_39.toInt ≠ 60 := (by first | exact (cm_ne1 ti_60 c) | (have z := bn_ne c; have k1 : (60 : Int32).toInt = 60 := ti_60; omega))
      replace hs := hs.trans ((if_neg c_49).trans rfl)
      refine lv_iload_n hx hb dX12_compared_23 rfl (lv_at hl 0 rfl) ?_
      refine lv_bipush (v := 61) hx hb dX12_compared_24 bp_61 ?_
      refine lv_icmp_eq (tgt := 37) hx hb dX12_compared_26 (by decide) (fun c => ?_) (fun c => ?_)
      · skip
        have c_87 : r_39.toInt = 61 := (by first | exact (cm_eq1 ti_61 c) | (have z := Int32.toInt_inj.mpr c; have k1 : (61 : Int32).toInt = 61 := ti_61; omega))
        refine lv_aload_n hx hb dX12_compared_37 rfl (lv_at hl 2 rfl) ?_
        refine lv_dup hx hb dX12_compared_38 rfl ?_
        refine sl_gM_0_13_12 (v := v_22) hx hb hts hown hK hP (show f_14 0 13 = v_22 from ev_22.symm) dX12_compared_39 ?_
        refine lv_iconst (v := 1) hx hb dX12_compared_42 ic_1 ?_
        refine lv_iadd hx hb dX12_compared_43 ?_
        refine lv_topi (fun v_89 ev_89 => ?_)
        have q_90 : v_89.toInt = v_22.toInt + 1 := by rw [ev_89]; first | exact cm_add ti_1 (by omega) (by omega) | (have k1 : (1 : Int32).toInt = 1 := ti_1; exact (bn_addI (by omega) (by omega)).trans (by omega))
        refine sl_pM_0_13_12 (x := v_89) hx hb hts hown hh hA hK hP hS dX12_compared_44 (fun f_91 H locs ef_91 hP hS => ?_)
        have hI : sgI loM hiM f_91 := by rw [ef_91]; exact sgI.put hI 0 13 (show 0 ≤ (v_89 : Int32).toInt ∧ (v_89 : Int32).toInt ≤ 120 from ⟨by omega, by omega⟩)
        have hF : sgK WkX12_compared_1 f f_91 := sgK.put hF ef_91 (by rfl)
        refine lv_aload_n hx hb dX12_compared_47 rfl (lv_at hl 2 rfl) ?_
        have q_92 : (f_91 0 16).toInt = v_25.toInt := (congrArg Int32.toInt (show f_91 0 16 = v_25 from (by rw [ef_91, sg_up_s, sgu_n (by decide)]; exact ev_25.symm)))
        have q_93 : (f_91 0 15).toInt = v_28.toInt := (congrArg Int32.toInt (show f_91 0 15 = v_28 from (by rw [ef_91, sg_up_s, sgu_n (by decide)]; exact ev_28.symm)))
        have q_95 : (f_91 0 13).toInt = v_89.toInt := (congrArg Int32.toInt (show f_91 0 13 = v_89 from (by rw [ef_91, sg_up_s, sgu_s])))
        refine sg_calli (va_runV (As := []) (rest := []) ⟨hx, hb, hml, hown, hts⟩ (kX12_sums_1 l D ca za h hh f_91 L Q hI (by omega) (by omega) H.size) (sl_c12_sums_33_0_0_752_12 hts ⟨Nat.le_of_ble_eq_true rfl, Nat.le_of_ble_eq_true rfl⟩) (sl_vM_0 hA hK hP hS hZ) rfl rfl hl.1 rfl (lv_room (Nat.le_of_ble_eq_true rfl)) dX12_compared_48 ⟨Nat.le_refl _, Nat.le_refl _⟩) hA hS (fun r_99 f_96 L_97 Q_98 H locs hq hP hS => ?_)
        obtain ⟨⟨hI, hk_f_96, eL9, eQ9⟩, hq, p_100, p_101, p_102, u_103⟩ := hq
        rw [eL9, eQ9] at hP; clear eL9 eQ9
        have hF : sgK WkX12_compared_1 f f_96 := sgK.tr hF hk_f_96 (by decide +kernel)
        obtain ⟨v_104, ev_104⟩ : ∃ z : Int32, z = f_96 0 13 := ⟨_, rfl⟩
        have q_105 : 0 ≤ v_104.toInt ∧ v_104.toInt ≤ 120 := by rw [ev_104]; exact hI 0 13
        have q_106 : (f_96 0 13).toInt = v_104.toInt := (congrArg Int32.toInt (show f_96 0 13 = v_104 from ev_104.symm))
        obtain ⟨v_107, ev_107⟩ : ∃ z : Int32, z = f_96 0 16 := ⟨_, rfl⟩
        have q_108 : 0 ≤ v_107.toInt ∧ v_107.toInt ≤ 6 := by rw [ev_107]; exact hI 0 16
        have q_109 : (f_96 0 16).toInt = v_107.toInt := (congrArg Int32.toInt (show f_96 0 16 = v_107 from ev_107.symm))
        obtain ⟨v_110, ev_110⟩ : ∃ z : Int32, z = f_96 0 15 := ⟨_, rfl⟩
        replace hs := hs.trans ((if_pos c_87).trans (spl_e ev_89 (spl_e ef_91 (spl2_e u_103 (spl_e ev_104 (spl_e ev_107 (spl_e ev_110 rfl)))))))
        have q_111 : (-1) ≤ v_110.toInt ∧ v_110.toInt ≤ 120 := by rw [ev_110]; exact hI 0 15
        have q_112 : (f_96 0 15).toInt = v_110.toInt := (congrArg Int32.toInt (show f_96 0 15 = v_110 from ev_110.symm))
        refine lv_istore_n (lv' := [(3, .int r_99), (2, .int r_39), (1, .int r_17), (0, .ref (h 0))]) hx hb dX12_compared_51 rfl hl (by decide) rfl (fun ls hl => ?_)
        refine lv_iload_n hx hb dX12_compared_52 rfl (lv_at hl 1 rfl) ?_
        refine lv_bipush (v := 60) hx hb dX12_compared_53 bp_60 ?_
        refine lv_icmp_ne (tgt := 66) hx hb dX12_compared_55 (by decide) (fun c => ?_) (fun c => ?_)
        · skip
          have c_114 : r_39.toInt ≠ 60 := (by first | exact (cm_ne1 ti_60 c) | (have z := bn_ne c; have k1 : (60 : Int32).toInt = 60 := ti_60; omega))
          refine lv_iload_n hx hb dX12_compared_66 rfl (lv_at hl 1 rfl) ?_
          refine lv_bipush (v := 61) hx hb dX12_compared_67 bp_61 ?_
          refine lv_icmp_ne (tgt := 80) hx hb dX12_compared_69 (by decide) (fun c => ?_) (fun c => ?_)
          · skip
            exfalso; have c_116 : r_39.toInt ≠ 61 := (by first | exact (cm_ne1 ti_61 c) | (have z := bn_ne c; have k1 : (61 : Int32).toInt = 61 := ti_61; omega)); first | exact absurd (by assumption) c_116 | omega
          · skip
            have c_117 : r_39.toInt = 61 := (by first | exact (cm_eq1 ti_61 c) | (have z := Int32.toInt_inj.mpr c; have k1 : (61 : Int32).toInt = 61 := ti_61; omega))
            refine lv_iload_n hx hb dX12_compared_72 rfl (lv_at hl 2 rfl) ?_
            refine lv_iload_n hx hb dX12_compared_73 rfl (lv_at hl 0 rfl) ?_
            refine lv_icmp_ne (tgt := 89) hx hb dX12_compared_74 (by decide) (fun c => ?_) (fun c => ?_)
            · skip
              have c_118 : r_17.toInt ≠ r_99.toInt := (by first | exact (bn_ne c) | (have z := bn_ne c; omega))
              refine lv_iconst (v := 0) hx hb dX12_compared_89 ic_0 ?_
              have k99 : (0 : Int32).toInt = 0 := ti_0
              exact hret _ _ _ _ (0) f_96 L Q dX12_compared_90 hP hS ⟨⟨hI, hF, rfl, rfl⟩, trivial, (by omega), (by omega), (by omega), (Eq.trans (Eq.symm (hs.trans ((if_neg c_118).trans rfl))) hsp)⟩
            · skip
              have c_119 : r_17.toInt = r_99.toInt := (by first | exact (Int32.toInt_inj.mpr c) | (have z := Int32.toInt_inj.mpr c; omega))
              refine lv_goto (tgt := 85) hx hb dX12_compared_77 (by decide) ?_
              refine lv_iconst (v := 1) hx hb dX12_compared_85 ic_1 ?_
              refine lv_goto (tgt := 90) hx hb dX12_compared_86 (by decide) ?_
              have k99 : (1 : Int32).toInt = 1 := ti_1
              exact hret _ _ _ _ (1) f_96 L Q dX12_compared_90 hP hS ⟨⟨hI, hF, rfl, rfl⟩, trivial, (by omega), (by omega), (by omega), (Eq.trans (Eq.symm (hs.trans ((if_pos c_119).trans rfl))) hsp)⟩
        · skip
          exfalso; have c_115 : r_39.toInt = 60 := (by first | exact (cm_eq1 ti_60 c) | (have z := Int32.toInt_inj.mpr c; have k1 : (60 : Int32).toInt = 60 := ti_60; omega)); first | exact absurd c_115 (by assumption) | omega
      · skip
        have c_88 : r_39.toInt ≠ 61 := (by first | exact (cm_ne1 ti_61 c) | (have z := bn_ne c; have k1 : (61 : Int32).toInt = 61 := ti_61; omega))
        replace hs := hs.trans ((if_neg c_88).trans rfl)
        refine lv_iload_n hx hb dX12_compared_29 rfl (lv_at hl 0 rfl) ?_
        refine lv_bipush (v := 62) hx hb dX12_compared_30 bp_62 ?_
        refine lv_icmp_eq (tgt := 37) hx hb dX12_compared_32 (by decide) (fun c => ?_) (fun c => ?_)
        · skip
          have c_128 : r_39.toInt = 62 := (by first | exact (cm_eq1 ti_62 c) | (have z := Int32.toInt_inj.mpr c; have k1 : (62 : Int32).toInt = 62 := ti_62; omega))
          refine lv_aload_n hx hb dX12_compared_37 rfl (lv_at hl 2 rfl) ?_
          refine lv_dup hx hb dX12_compared_38 rfl ?_
          refine sl_gM_0_13_12 (v := v_22) hx hb hts hown hK hP (show f_14 0 13 = v_22 from ev_22.symm) dX12_compared_39 ?_
          refine lv_iconst (v := 1) hx hb dX12_compared_42 ic_1 ?_
          refine lv_iadd hx hb dX12_compared_43 ?_
          refine lv_topi (fun v_130 ev_130 => ?_)
          have q_131 : v_130.toInt = v_22.toInt + 1 := by rw [ev_130]; first | exact cm_add ti_1 (by omega) (by omega) | (have k1 : (1 : Int32).toInt = 1 := ti_1; exact (bn_addI (by omega) (by omega)).trans (by omega))
          refine sl_pM_0_13_12 (x := v_130) hx hb hts hown hh hA hK hP hS dX12_compared_44 (fun f_132 H locs ef_132 hP hS => ?_)
          have hI : sgI loM hiM f_132 := by rw [ef_132]; exact sgI.put hI 0 13 (show 0 ≤ (v_130 : Int32).toInt ∧ (v_130 : Int32).toInt ≤ 120 from ⟨by omega, by omega⟩)
          have hF : sgK WkX12_compared_1 f f_132 := sgK.put hF ef_132 (by rfl)
          refine lv_aload_n hx hb dX12_compared_47 rfl (lv_at hl 2 rfl) ?_
          have q_133 : (f_132 0 16).toInt = v_25.toInt := (congrArg Int32.toInt (show f_132 0 16 = v_25 from (by rw [ef_132, sg_up_s, sgu_n (by decide)]; exact ev_25.symm)))
          have q_134 : (f_132 0 15).toInt = v_28.toInt := (congrArg Int32.toInt (show f_132 0 15 = v_28 from (by rw [ef_132, sg_up_s, sgu_n (by decide)]; exact ev_28.symm)))
          have q_136 : (f_132 0 13).toInt = v_130.toInt := (congrArg Int32.toInt (show f_132 0 13 = v_130 from (by rw [ef_132, sg_up_s, sgu_s])))
          refine sg_calli (va_runV (As := []) (rest := []) ⟨hx, hb, hml, hown, hts⟩ (kX12_sums_1 l D ca za h hh f_132 L Q hI (by omega) (by omega) H.size) (sl_c12_sums_33_0_0_752_12 hts ⟨Nat.le_of_ble_eq_true rfl, Nat.le_of_ble_eq_true rfl⟩) (sl_vM_0 hA hK hP hS hZ) rfl rfl hl.1 rfl (lv_room (Nat.le_of_ble_eq_true rfl)) dX12_compared_48 ⟨Nat.le_refl _, Nat.le_refl _⟩) hA hS (fun r_140 f_137 L_138 Q_139 H locs hq hP hS => ?_)
          obtain ⟨⟨hI, hk_f_137, eL9, eQ9⟩, hq, p_141, p_142, p_143, u_144⟩ := hq
          rw [eL9, eQ9] at hP; clear eL9 eQ9
          have hF : sgK WkX12_compared_1 f f_137 := sgK.tr hF hk_f_137 (by decide +kernel)
          obtain ⟨v_145, ev_145⟩ : ∃ z : Int32, z = f_137 0 13 := ⟨_, rfl⟩
          have q_146 : 0 ≤ v_145.toInt ∧ v_145.toInt ≤ 120 := by rw [ev_145]; exact hI 0 13
          have q_147 : (f_137 0 13).toInt = v_145.toInt := (congrArg Int32.toInt (show f_137 0 13 = v_145 from ev_145.symm))
          obtain ⟨v_148, ev_148⟩ : ∃ z : Int32, z = f_137 0 16 := ⟨_, rfl⟩
          have q_149 : 0 ≤ v_148.toInt ∧ v_148.toInt ≤ 6 := by rw [ev_148]; exact hI 0 16
          have q_150 : (f_137 0 16).toInt = v_148.toInt := (congrArg Int32.toInt (show f_137 0 16 = v_148 from ev_148.symm))
          obtain ⟨v_151, ev_151⟩ : ∃ z : Int32, z = f_137 0 15 := ⟨_, rfl⟩
          replace hs := hs.trans ((if_pos c_128).trans (spl_e ev_130 (spl_e ef_132 (spl2_e u_144 (spl_e ev_145 (spl_e ev_148 (spl_e ev_151 rfl)))))))
          have q_152 : (-1) ≤ v_151.toInt ∧ v_151.toInt ≤ 120 := by rw [ev_151]; exact hI 0 15
          have q_153 : (f_137 0 15).toInt = v_151.toInt := (congrArg Int32.toInt (show f_137 0 15 = v_151 from ev_151.symm))
          refine lv_istore_n (lv' := [(3, .int r_140), (2, .int r_39), (1, .int r_17), (0, .ref (h 0))]) hx hb dX12_compared_51 rfl hl (by decide) rfl (fun ls hl => ?_)
          refine lv_iload_n hx hb dX12_compared_52 rfl (lv_at hl 1 rfl) ?_
          refine lv_bipush (v := 60) hx hb dX12_compared_53 bp_60 ?_
          refine lv_icmp_ne (tgt := 66) hx hb dX12_compared_55 (by decide) (fun c => ?_) (fun c => ?_)
          · skip
            have c_155 : r_39.toInt ≠ 60 := (by first | exact (cm_ne1 ti_60 c) | (have z := bn_ne c; have k1 : (60 : Int32).toInt = 60 := ti_60; omega))
            refine lv_iload_n hx hb dX12_compared_66 rfl (lv_at hl 1 rfl) ?_
            refine lv_bipush (v := 61) hx hb dX12_compared_67 bp_61 ?_
            refine lv_icmp_ne (tgt := 80) hx hb dX12_compared_69 (by decide) (fun c => ?_) (fun c => ?_)
            · skip
              have c_157 : r_39.toInt ≠ 61 := (by first | exact (cm_ne1 ti_61 c) | (have z := bn_ne c; have k1 : (61 : Int32).toInt = 61 := ti_61; omega))
              refine lv_iload_n hx hb dX12_compared_80 rfl (lv_at hl 2 rfl) ?_
              refine lv_iload_n hx hb dX12_compared_81 rfl (lv_at hl 0 rfl) ?_
              refine lv_icmp_le (tgt := 89) hx hb dX12_compared_82 (by decide) (fun c => ?_) (fun c => ?_)
              · skip
                have c_159 : r_17.toInt ≤ r_140.toInt := (by first | exact (bn_le c) | (have z := bn_le c; omega))
                refine lv_iconst (v := 0) hx hb dX12_compared_89 ic_0 ?_
                have k99 : (0 : Int32).toInt = 0 := ti_0
                exact hret _ _ _ _ (0) f_137 L Q dX12_compared_90 hP hS ⟨⟨hI, hF, rfl, rfl⟩, trivial, (by omega), (by omega), (by omega), (Eq.trans (Eq.symm (hs.trans ((if_neg (Int.not_lt.mpr c_159)).trans rfl))) hsp)⟩
              · skip
                have c_160 : r_140.toInt < r_17.toInt := (by first | exact (bn_nle c) | (have z := bn_nle c; omega))
                refine lv_iconst (v := 1) hx hb dX12_compared_85 ic_1 ?_
                refine lv_goto (tgt := 90) hx hb dX12_compared_86 (by decide) ?_
                have k99 : (1 : Int32).toInt = 1 := ti_1
                exact hret _ _ _ _ (1) f_137 L Q dX12_compared_90 hP hS ⟨⟨hI, hF, rfl, rfl⟩, trivial, (by omega), (by omega), (by omega), (Eq.trans (Eq.symm (hs.trans ((if_pos c_160).trans rfl))) hsp)⟩
            · skip
              exfalso; have c_158 : r_39.toInt = 61 := (by first | exact (cm_eq1 ti_61 c) | (have z := Int32.toInt_inj.mpr c; have k1 : (61 : Int32).toInt = 61 := ti_61; omega)); first | exact absurd c_158 (by assumption) | omega
          · skip
            exfalso; have c_156 : r_39.toInt = 60 := (by first | exact (cm_eq1 ti_60 c) | (have z := Int32.toInt_inj.mpr c; have k1 : (60 : Int32).toInt = 60 := ti_60; omega)); first | exact absurd c_156 (by assumption) | omega
        · skip
          have c_129 : r_39.toInt ≠ 62 := (by first | exact (cm_ne1 ti_62 c) | (have z := bn_ne c; have k1 : (62 : Int32).toInt = 62 := ti_62; omega))
          refine lv_iload_n hx hb dX12_compared_35 rfl (lv_at hl 1 rfl) ?_
          exact hret _ _ _ _ (r_17) f_14 L Q dX12_compared_36 hP hS ⟨⟨hI, hF, rfl, rfl⟩, trivial, (by omega), (by omega), (by omega), (Eq.trans (Eq.symm (hs.trans ((if_neg c_129).trans rfl))) hsp)⟩

abbrev WkX12_both_1 : List (Nat × Nat × Option Nat) := [(0, 0, some 13), (0, 0, some 15), (0, 0, some 16)]
set_option maxHeartbeats 4000000 in
set_option maxRecDepth 100000 in
theorem kX12_both_1 (l : Launch) (D : va_G) (ca : Nat → ClassId) (za h : Nat → Nat) (hh : sgH 26 h) (f : sg_F) (L : sg_L) (Q : sg_Q) (hI : sgI loM hiM f) (p0 : 1 ≤ (f 0 16).toInt) (p1 : 0 ≤ (f 0 15).toInt ∨ (f 0 16).toInt = 1) (sz : Nat) : Met l yX12_both gwX12_both { frames := 35, cells := 0, slots := 0, locals := 798 } (sgP D vwCl (tyX ca) 26 h (eM ca h) zcM za f L Q sz [.ref (h 0)]) (sgQi D vwCl 26 h (eM ca h) sz (fun r f1 L1 Q1 => ((sgI loM hiM f1 ∧ sgK WkX12_both_1 f f1 ∧ L1 = L ∧ Q1 = Q) ∧ True ∧ ((f 0 13).toInt ≤ (f1 0 13).toInt) ∧ (1 ≤ (f1 0 16).toInt) ∧ (0 ≤ (f1 0 15).toInt ∨ (f1 0 16).toInt = 1) ∧ (r, f1) = sX12_both_1 f L))) 0 0 (sgA 26 h sz) := by
  refine sg_ofWi (cc := cX12_both) (maxL := 3) RX12 (by decide) rfl rfl (Nat.le_of_ble_eq_true rfl) ?_
  intro p e s m below meth cd Qz ls hx hb hml hown hts hK hZ hP hS hl hret
  have hA := sgY.self (n := 26) (h := h) (sz := s.heap.size)
  have hl : lv_has ls 3 [(0, .ref (h 0))] := hl
  obtain ⟨H, hH⟩ : ∃ z : Heap, z = s.heap := ⟨_, rfl⟩
  obtain ⟨locs, hlo⟩ : ∃ z : List Loc, z = [] := ⟨_, rfl⟩
  have hP : va_P D vwCl (sgw 26 h (eM ca h) f L Q) H := by rw [hH]; exact hP
  have hS : va_S (sgA 26 h s.heap.size) s.heap H locs := by rw [hH, hlo]; exact hS
  suffices hgo : W p l e ({ frames := 35, cells := 0, slots := 0, locals := 798 }) s m ([.ref (h 0)] : List Value).toArray below meth cd H locs 0 0 Qz (F0 m 0 ls []) by rw [hH, hlo] at hgo; exact hgo
  clear hH hlo
  obtain ⟨sp, hsp⟩ : ∃ z : Int32 × sg_F, z = sX12_both_1 f L := ⟨_, rfl⟩
  have hs : sp = sX12_both_1 f L := hsp
  obtain ⟨v_1, ev_1⟩ : ∃ z : Int32, z = f 0 16 := ⟨_, rfl⟩
  have q_2 : 0 ≤ v_1.toInt ∧ v_1.toInt ≤ 6 := by rw [ev_1]; exact hI 0 16
  obtain ⟨v_3, ev_3⟩ : ∃ z : Int32, z = f 0 15 := ⟨_, rfl⟩
  have q_4 : (-1) ≤ v_3.toInt ∧ v_3.toInt ≤ 120 := by rw [ev_3]; exact hI 0 15
  obtain ⟨v_5, ev_5⟩ : ∃ z : Int32, z = f 0 13 := ⟨_, rfl⟩
  have q_6 : 0 ≤ v_5.toInt ∧ v_5.toInt ≤ 120 := by rw [ev_5]; exact hI 0 13
  have o_7 : (f 0 16).toInt = v_1.toInt := (congrArg Int32.toInt (show f 0 16 = v_1 from ev_1.symm))
  have o_8 : (f 0 15).toInt = v_3.toInt := (congrArg Int32.toInt (show f 0 15 = v_3 from ev_3.symm))
  have o_9 : (f 0 13).toInt = v_5.toInt := (congrArg Int32.toInt (show f 0 13 = v_5 from ev_5.symm))
  have hF : sgK WkX12_both_1 f f := sgK.rf
  have loop_5 : ∀ (n_5 : Nat) (y1_5 : Int32) (fp_5 : sg_F) (H : Heap) (locs : List Loc) (ls : Array Slot), sp = sX12_both_1_l5 n_5 y1_5 fp_5 L → 120 - (fp_5 0 13).toInt < (n_5 : Int) → (f 0 13).toInt ≤ (fp_5 0 13).toInt → 1 ≤ (fp_5 0 16).toInt → 0 ≤ (fp_5 0 15).toInt ∨ (fp_5 0 16).toInt = 1 → sgI loM hiM fp_5 → sgK WkX12_both_1 f fp_5 → va_P D vwCl (sgw 26 h (eM ca h) fp_5 L Q) H → va_S (sgA 26 h s.heap.size) s.heap H locs → lv_has ls 3 [(0, .ref (h 0)), (1, .int y1_5)] → W p l e ({ frames := 35, cells := 0, slots := 0, locals := 798 }) s m ([.ref (h 0)] : List Value).toArray below meth cd H locs 0 0 Qz (F0 m 5 ls []) := by
    intro n_5
    induction n_5 with
    | zero => intro y1_5 fp_5 H locs ls hs hm_5 hg0_5 hg1_5 hg2_5 hI hF hP hS hl; have zb := (show 0 ≤ (fp_5 0 13).toInt ∧ (fp_5 0 13).toInt ≤ 120 from hI 0 13); exact absurd hm_5 (by omega)
    | succ n_5 ih_5 =>
      intro y1_5 fp_5 H locs ls hs hm_5 hg0_5 hg1_5 hg2_5 hI hF hP hS hl
      have hs : sp = sX12_both_1_h5 (sX12_both_1_l5 n_5) y1_5 fp_5 L := hs
      obtain ⟨v_10, ev_10⟩ : ∃ z : Int32, z = fp_5 0 13 := ⟨_, rfl⟩
      have q_11 : 0 ≤ v_10.toInt ∧ v_10.toInt ≤ 120 := by rw [ev_10]; exact hI 0 13
      have q_12 : (fp_5 0 13).toInt = v_10.toInt := by rw [ev_10]
      obtain ⟨v_13, ev_13⟩ : ∃ z : Int32, z = fp_5 0 16 := ⟨_, rfl⟩
      have q_14 : 0 ≤ v_13.toInt ∧ v_13.toInt ≤ 6 := by rw [ev_13]; exact hI 0 16
      have q_15 : (fp_5 0 16).toInt = v_13.toInt := by rw [ev_13]
      obtain ⟨v_16, ev_16⟩ : ∃ z : Int32, z = fp_5 0 15 := ⟨_, rfl⟩
      have q_17 : (-1) ≤ v_16.toInt ∧ v_16.toInt ≤ 120 := by rw [ev_16]; exact hI 0 15
      have q_18 : (fp_5 0 15).toInt = v_16.toInt := by rw [ev_16]
      refine lv_aload_n hx hb dX12_both_5 rfl (lv_at hl 0 rfl) ?_
      refine lv_bipush (v := 38) hx hb dX12_both_6 bp_38 ?_
      obtain ⟨v_21, ev_21⟩ : ∃ z : Int32, z = fp_5 0 14 := ⟨_, rfl⟩
      have q_22 : 0 ≤ v_21.toInt ∧ v_21.toInt ≤ 120 := by rw [ev_21]; exact hI 0 14
      have q_23 : (fp_5 0 14).toInt = v_21.toInt := (congrArg Int32.toInt (show fp_5 0 14 = v_21 from ev_21.symm))
      refine sg_calli (va_runV (As := [.int 38]) (rest := []) ⟨hx, hb, hml, hown, hts⟩ (kX12_takes_38 l D ca za h hh fp_5 L Q hI H.size) (sl_c12_takes_1_0_0_20_12 hts ⟨Nat.le_of_ble_eq_true rfl, Nat.le_of_ble_eq_true rfl⟩) (sl_vM_0 hA hK hP hS hZ) rfl rfl hl.1 rfl (lv_room (Nat.le_of_ble_eq_true rfl)) dX12_both_8 ⟨Nat.le_refl _, Nat.le_refl _⟩) hA hS (fun r_29 f_26 L_27 Q_28 H locs hq hP hS => ?_)
      obtain ⟨⟨hI, hk_f_26, eL9, eQ9⟩, hq, u_30⟩ := hq
      rw [eL9, eQ9] at hP; clear eL9 eQ9
      have hF : sgK WkX12_both_1 f f_26 := sgK.tr hF hk_f_26 (by decide +kernel)
      obtain ⟨v_31, ev_31⟩ : ∃ z : Int32, z = f_26 0 13 := ⟨_, rfl⟩
      replace hs := hs.trans (spl_e ev_10 (spl_e ev_13 (spl_e ev_16 (spl_e ev_21 (spl2_e u_30 (spl_e ev_31 rfl))))))
      have q_32 : 0 ≤ v_31.toInt ∧ v_31.toInt ≤ 120 := by rw [ev_31]; exact hI 0 13
      have q_33 : (f_26 0 13).toInt = v_31.toInt := (congrArg Int32.toInt (show f_26 0 13 = v_31 from ev_31.symm))
      have k_35 : (38 : Int32).toInt = 38 := by decide
      rcases hq with ⟨rfl, hq⟩ | ⟨rfl, hq⟩
      · skip
        have hc_36 := hq
        refine lv_if_eq (tgt := 36) hx hb dX12_both_11 (by decide) (fun c => absurd c (by decide)) (fun c => ?_)
        refine lv_aload_n hx hb dX12_both_14 rfl (lv_at hl 0 rfl) ?_
        have q_37 : (f_26 0 16).toInt = v_13.toInt := (congrArg Int32.toInt (show f_26 0 16 = v_13 from ((hk_f_26 0 16 (by decide)).trans ev_13.symm)))
        have q_38 : (f_26 0 15).toInt = v_16.toInt := (congrArg Int32.toInt (show f_26 0 15 = v_16 from ((hk_f_26 0 15 (by decide)).trans ev_16.symm)))
        refine sg_calli (va_runV (As := []) (rest := []) ⟨hx, hb, hml, hown, hts⟩ (kX12_compared_1 l D ca za h hh f_26 L Q hI (by omega) (by omega) H.size) (sl_c12_compared_34_0_0_775_12 hts ⟨Nat.le_of_ble_eq_true rfl, Nat.le_of_ble_eq_true rfl⟩) (sl_vM_0 hA hK hP hS hZ) rfl rfl hl.1 rfl (lv_room (Nat.le_of_ble_eq_true rfl)) dX12_both_15 ⟨Nat.le_refl _, Nat.le_refl _⟩) hA hS (fun r_44 f_41 L_42 Q_43 H locs hq hP hS => ?_)
        obtain ⟨⟨hI, hk_f_41, eL9, eQ9⟩, hq, p_45, p_46, p_47, u_48⟩ := hq
        rw [eL9, eQ9] at hP; clear eL9 eQ9
        have hF : sgK WkX12_both_1 f f_41 := sgK.tr hF hk_f_41 (by decide +kernel)
        obtain ⟨v_49, ev_49⟩ : ∃ z : Int32, z = f_41 0 13 := ⟨_, rfl⟩
        have q_50 : 0 ≤ v_49.toInt ∧ v_49.toInt ≤ 120 := by rw [ev_49]; exact hI 0 13
        have q_51 : (f_41 0 13).toInt = v_49.toInt := (congrArg Int32.toInt (show f_41 0 13 = v_49 from ev_49.symm))
        obtain ⟨v_52, ev_52⟩ : ∃ z : Int32, z = f_41 0 16 := ⟨_, rfl⟩
        have q_53 : 0 ≤ v_52.toInt ∧ v_52.toInt ≤ 6 := by rw [ev_52]; exact hI 0 16
        have q_54 : (f_41 0 16).toInt = v_52.toInt := (congrArg Int32.toInt (show f_41 0 16 = v_52 from ev_52.symm))
        obtain ⟨v_55, ev_55⟩ : ∃ z : Int32, z = f_41 0 15 := ⟨_, rfl⟩
        replace hs := hs.trans ((if_pos rfl).trans (spl2_e u_48 (spl_e ev_49 (spl_e ev_52 (spl_e ev_55 rfl)))))
        have q_56 : (-1) ≤ v_55.toInt ∧ v_55.toInt ≤ 120 := by rw [ev_55]; exact hI 0 15
        have q_57 : (f_41 0 15).toInt = v_55.toInt := (congrArg Int32.toInt (show f_41 0 15 = v_55 from ev_55.symm))
        refine lv_istore_n (lv' := [(2, .int r_44), (0, .ref (h 0)), (1, .int y1_5)]) hx hb dX12_both_18 rfl hl (by decide) rfl (fun ls hl => ?_)
        refine lv_iload_n hx hb dX12_both_19 rfl (lv_at hl 2 rfl) ?_
        refine lv_if_eq (tgt := 31) hx hb dX12_both_20 (by decide) (fun c => ?_) (fun c => ?_)
        · skip
          have c_59 : y1_5.toInt = 0 := (by first | exact (cm_eq1 ti_0 c) | (have z := Int32.toInt_inj.mpr c; have k1 : (0 : Int32).toInt = 0 := ti_0; omega))
          refine lv_iconst (v := 0) hx hb dX12_both_31 ic_0 ?_
          refine lv_istore_n (lv' := [(1, .int 0), (2, .int r_44), (0, .ref (h 0))]) hx hb dX12_both_32 rfl hl (by decide) rfl (fun ls hl => ?_)
          refine lv_goto (tgt := 5) hx hb dX12_both_33 (by decide) ?_
          exact ih_5 0 f_41 _ _ _ (hs.trans ((if_pos c_59).trans rfl)) (by have kc0 : (0 : Int32).toInt = 0 := ti_0; have zz0_13 : (f_41 0 13).toInt = v_49.toInt := (congrArg Int32.toInt (show f_41 0 13 = v_49 from ev_49.symm)); omega) (by have kc0 : (0 : Int32).toInt = 0 := ti_0; have zz0_13 : (f_41 0 13).toInt = v_49.toInt := (congrArg Int32.toInt (show f_41 0 13 = v_49 from ev_49.symm)); omega) (by have kc0 : (0 : Int32).toInt = 0 := ti_0; have zz0_16 : (f_41 0 16).toInt = v_52.toInt := (congrArg Int32.toInt (show f_41 0 16 = v_52 from ev_52.symm)); omega) (by have kc0 : (0 : Int32).toInt = 0 := ti_0; have zz0_15 : (f_41 0 15).toInt = v_55.toInt := (congrArg Int32.toInt (show f_41 0 15 = v_55 from ev_55.symm)); have zz0_16 : (f_41 0 16).toInt = v_52.toInt := (congrArg Int32.toInt (show f_41 0 16 = v_52 from ev_52.symm)); omega) hI hF hP hS (lv_sub hl [2, 0] rfl)
        · skip
          have c_60 : y1_5.toInt ≠ 0 := (by first | exact (cm_ne1 ti_0 c) | (have z := bn_ne c; have k1 : (0 : Int32).toInt = 0 := ti_0; omega))
          replace hs := hs.trans ((if_neg c_60).trans rfl)
          refine lv_iload_n hx hb dX12_both_23 rfl (lv_at hl 0 rfl) ?_
          refine lv_if_eq (tgt := 31) hx hb dX12_both_24 (by decide) (fun c => ?_) (fun c => ?_)
          · skip
            have c_61 : r_44.toInt = 0 := (by first | exact (cm_eq1 ti_0 c) | (have z := Int32.toInt_inj.mpr c; have k1 : (0 : Int32).toInt = 0 := ti_0; omega))
            refine lv_iconst (v := 0) hx hb dX12_both_31 ic_0 ?_
            refine lv_istore_n (lv' := [(1, .int 0), (2, .int r_44), (0, .ref (h 0))]) hx hb dX12_both_32 rfl hl (by decide) rfl (fun ls hl => ?_)
            refine lv_goto (tgt := 5) hx hb dX12_both_33 (by decide) ?_
            exact ih_5 0 f_41 _ _ _ (hs.trans ((if_pos c_61).trans rfl)) (by have kc0 : (0 : Int32).toInt = 0 := ti_0; have zz0_13 : (f_41 0 13).toInt = v_49.toInt := (congrArg Int32.toInt (show f_41 0 13 = v_49 from ev_49.symm)); omega) (by have kc0 : (0 : Int32).toInt = 0 := ti_0; have zz0_13 : (f_41 0 13).toInt = v_49.toInt := (congrArg Int32.toInt (show f_41 0 13 = v_49 from ev_49.symm)); omega) (by have kc0 : (0 : Int32).toInt = 0 := ti_0; have zz0_16 : (f_41 0 16).toInt = v_52.toInt := (congrArg Int32.toInt (show f_41 0 16 = v_52 from ev_52.symm)); omega) (by have kc0 : (0 : Int32).toInt = 0 := ti_0; have zz0_15 : (f_41 0 15).toInt = v_55.toInt := (congrArg Int32.toInt (show f_41 0 15 = v_55 from ev_55.symm)); have zz0_16 : (f_41 0 16).toInt = v_52.toInt := (congrArg Int32.toInt (show f_41 0 16 = v_52 from ev_52.symm)); omega) hI hF hP hS (lv_sub hl [2, 0] rfl)
          · skip
            have c_62 : r_44.toInt ≠ 0 := (by first | exact (cm_ne1 ti_0 c) | (have z := bn_ne c; have k1 : (0 : Int32).toInt = 0 := ti_0; omega))
            refine lv_iconst (v := 1) hx hb dX12_both_27 ic_1 ?_
            refine lv_goto (tgt := 32) hx hb dX12_both_28 (by decide) ?_
            refine lv_istore_n (lv' := [(1, .int 1), (2, .int r_44), (0, .ref (h 0))]) hx hb dX12_both_32 rfl hl (by decide) rfl (fun ls hl => ?_)
            refine lv_goto (tgt := 5) hx hb dX12_both_33 (by decide) ?_
            exact ih_5 1 f_41 _ _ _ (hs.trans ((if_neg c_62).trans rfl)) (by have kc0 : (1 : Int32).toInt = 1 := ti_1; have zz0_13 : (f_41 0 13).toInt = v_49.toInt := (congrArg Int32.toInt (show f_41 0 13 = v_49 from ev_49.symm)); omega) (by have kc0 : (1 : Int32).toInt = 1 := ti_1; have zz0_13 : (f_41 0 13).toInt = v_49.toInt := (congrArg Int32.toInt (show f_41 0 13 = v_49 from ev_49.symm)); omega) (by have kc0 : (1 : Int32).toInt = 1 := ti_1; have zz0_16 : (f_41 0 16).toInt = v_52.toInt := (congrArg Int32.toInt (show f_41 0 16 = v_52 from ev_52.symm)); omega) (by have kc0 : (1 : Int32).toInt = 1 := ti_1; have zz0_15 : (f_41 0 15).toInt = v_55.toInt := (congrArg Int32.toInt (show f_41 0 15 = v_55 from ev_55.symm)); have zz0_16 : (f_41 0 16).toInt = v_52.toInt := (congrArg Int32.toInt (show f_41 0 16 = v_52 from ev_52.symm)); omega) hI hF hP hS (lv_sub hl [2, 0] rfl)
      · skip
        have hc_36 := hq
        refine lv_if_eq (tgt := 36) hx hb dX12_both_11 (by decide) (fun c => ?_) (fun c => absurd c (by decide))
        refine lv_iload_n hx hb dX12_both_36 rfl (lv_at hl 1 rfl) ?_
        have q_64 : (f_26 0 16).toInt = v_13.toInt := (congrArg Int32.toInt (show f_26 0 16 = v_13 from ((hk_f_26 0 16 (by decide)).trans ev_13.symm)))
        have q_65 : (f_26 0 15).toInt = v_16.toInt := (congrArg Int32.toInt (show f_26 0 15 = v_16 from ((hk_f_26 0 15 (by decide)).trans ev_16.symm)))
        exact hret _ _ _ _ (y1_5) f_26 L Q dX12_both_37 hP hS ⟨⟨hI, hF, rfl, rfl⟩, trivial, (by omega), (by omega), (by omega), (Eq.trans (Eq.symm (hs.trans ((if_neg (by decide)).trans rfl))) hsp)⟩
  refine lv_aload_n hx hb dX12_both_0 rfl (lv_at hl 0 rfl) ?_
  have q_67 : (f 0 16).toInt = v_1.toInt := (congrArg Int32.toInt (show f 0 16 = v_1 from ev_1.symm))
  have q_68 : (f 0 15).toInt = v_3.toInt := (congrArg Int32.toInt (show f 0 15 = v_3 from ev_3.symm))
  have q_70 : (f 0 13).toInt = v_5.toInt := (congrArg Int32.toInt (show f 0 13 = v_5 from ev_5.symm))
  refine sg_calli (va_runV (As := []) (rest := []) ⟨hx, hb, hml, hown, hts⟩ (kX12_compared_1 l D ca za h hh f L Q hI (by omega) (by omega) H.size) (sl_c12_compared_34_0_0_775_12 hts ⟨Nat.le_of_ble_eq_true rfl, Nat.le_of_ble_eq_true rfl⟩) (sl_vM_0 hA hK hP hS hZ) rfl rfl hl.1 rfl (lv_room (Nat.le_of_ble_eq_true rfl)) dX12_both_1 ⟨Nat.le_refl _, Nat.le_refl _⟩) hA hS (fun r_74 f_71 L_72 Q_73 H locs hq hP hS => ?_)
  obtain ⟨⟨hI, hk_f_71, eL9, eQ9⟩, hq, p_75, p_76, p_77, u_78⟩ := hq
  rw [eL9, eQ9] at hP; clear eL9 eQ9
  have hF : sgK WkX12_both_1 f f_71 := sgK.tr hF hk_f_71 (by decide +kernel)
  obtain ⟨v_79, ev_79⟩ : ∃ z : Int32, z = f_71 0 13 := ⟨_, rfl⟩
  have q_80 : 0 ≤ v_79.toInt ∧ v_79.toInt ≤ 120 := by rw [ev_79]; exact hI 0 13
  have q_81 : (f_71 0 13).toInt = v_79.toInt := (congrArg Int32.toInt (show f_71 0 13 = v_79 from ev_79.symm))
  obtain ⟨v_82, ev_82⟩ : ∃ z : Int32, z = f_71 0 16 := ⟨_, rfl⟩
  have q_83 : 0 ≤ v_82.toInt ∧ v_82.toInt ≤ 6 := by rw [ev_82]; exact hI 0 16
  have q_84 : (f_71 0 16).toInt = v_82.toInt := (congrArg Int32.toInt (show f_71 0 16 = v_82 from ev_82.symm))
  obtain ⟨v_85, ev_85⟩ : ∃ z : Int32, z = f_71 0 15 := ⟨_, rfl⟩
  have q_86 : (-1) ≤ v_85.toInt ∧ v_85.toInt ≤ 120 := by rw [ev_85]; exact hI 0 15
  have q_87 : (f_71 0 15).toInt = v_85.toInt := (congrArg Int32.toInt (show f_71 0 15 = v_85 from ev_85.symm))
  refine lv_istore_n (lv' := [(1, .int r_74), (0, .ref (h 0))]) hx hb dX12_both_4 rfl hl (by decide) rfl (fun ls hl => ?_)
  exact loop_5 121 r_74 f_71 _ _ _ (hs.trans ((spl_e ev_1 (spl_e ev_3 (spl_e ev_5 (spl2_e u_78 (spl_e ev_79 (spl_e ev_82 (spl_e ev_85 rfl))))))))) (by have zz0_13 : (f_71 0 13).toInt = v_79.toInt := (congrArg Int32.toInt (show f_71 0 13 = v_79 from ev_79.symm)); omega) (by have zz0_13 : (f_71 0 13).toInt = v_79.toInt := (congrArg Int32.toInt (show f_71 0 13 = v_79 from ev_79.symm)); omega) (by have zz0_16 : (f_71 0 16).toInt = v_82.toInt := (congrArg Int32.toInt (show f_71 0 16 = v_82 from ev_82.symm)); omega) (by have zz0_15 : (f_71 0 15).toInt = v_85.toInt := (congrArg Int32.toInt (show f_71 0 15 = v_85 from ev_85.symm)); have zz0_16 : (f_71 0 16).toInt = v_82.toInt := (congrArg Int32.toInt (show f_71 0 16 = v_82 from ev_82.symm)); omega) hI hF hP hS (lv_sub hl [1, 0] rfl)

abbrev WkX12_either_1 : List (Nat × Nat × Option Nat) := [(0, 0, some 13), (0, 0, some 15), (0, 0, some 16)]
set_option maxHeartbeats 4000000 in
set_option maxRecDepth 100000 in
theorem kX12_either_1 (l : Launch) (D : va_G) (ca : Nat → ClassId) (za h : Nat → Nat) (hh : sgH 26 h) (f : sg_F) (L : sg_L) (Q : sg_Q) (hI : sgI loM hiM f) (p0 : 1 ≤ (f 0 16).toInt) (p1 : 0 ≤ (f 0 15).toInt ∨ (f 0 16).toInt = 1) (sz : Nat) : Met l yX12_either gwX12_either { frames := 36, cells := 0, slots := 0, locals := 820 } (sgP D vwCl (tyX ca) 26 h (eM ca h) zcM za f L Q sz [.ref (h 0)]) (sgQi D vwCl 26 h (eM ca h) sz (fun r f1 L1 Q1 => ((sgI loM hiM f1 ∧ sgK WkX12_either_1 f f1 ∧ L1 = L ∧ Q1 = Q) ∧ True ∧ ((f 0 13).toInt ≤ (f1 0 13).toInt) ∧ (1 ≤ (f1 0 16).toInt) ∧ (0 ≤ (f1 0 15).toInt ∨ (f1 0 16).toInt = 1) ∧ (r, f1) = sX12_either_1 f L))) 0 0 (sgA 26 h sz) := by
  refine sg_ofWi (cc := cX12_either) (maxL := 3) RX12 (by decide) rfl rfl (Nat.le_of_ble_eq_true rfl) ?_
  intro p e s m below meth cd Qz ls hx hb hml hown hts hK hZ hP hS hl hret
  have hA := sgY.self (n := 26) (h := h) (sz := s.heap.size)
  have hl : lv_has ls 3 [(0, .ref (h 0))] := hl
  obtain ⟨H, hH⟩ : ∃ z : Heap, z = s.heap := ⟨_, rfl⟩
  obtain ⟨locs, hlo⟩ : ∃ z : List Loc, z = [] := ⟨_, rfl⟩
  have hP : va_P D vwCl (sgw 26 h (eM ca h) f L Q) H := by rw [hH]; exact hP
  have hS : va_S (sgA 26 h s.heap.size) s.heap H locs := by rw [hH, hlo]; exact hS
  suffices hgo : W p l e ({ frames := 36, cells := 0, slots := 0, locals := 820 }) s m ([.ref (h 0)] : List Value).toArray below meth cd H locs 0 0 Qz (F0 m 0 ls []) by rw [hH, hlo] at hgo; exact hgo
  clear hH hlo
  obtain ⟨sp, hsp⟩ : ∃ z : Int32 × sg_F, z = sX12_either_1 f L := ⟨_, rfl⟩
  have hs : sp = sX12_either_1 f L := hsp
  obtain ⟨v_1, ev_1⟩ : ∃ z : Int32, z = f 0 16 := ⟨_, rfl⟩
  have q_2 : 0 ≤ v_1.toInt ∧ v_1.toInt ≤ 6 := by rw [ev_1]; exact hI 0 16
  obtain ⟨v_3, ev_3⟩ : ∃ z : Int32, z = f 0 15 := ⟨_, rfl⟩
  have q_4 : (-1) ≤ v_3.toInt ∧ v_3.toInt ≤ 120 := by rw [ev_3]; exact hI 0 15
  obtain ⟨v_5, ev_5⟩ : ∃ z : Int32, z = f 0 13 := ⟨_, rfl⟩
  have q_6 : 0 ≤ v_5.toInt ∧ v_5.toInt ≤ 120 := by rw [ev_5]; exact hI 0 13
  have o_7 : (f 0 16).toInt = v_1.toInt := (congrArg Int32.toInt (show f 0 16 = v_1 from ev_1.symm))
  have o_8 : (f 0 15).toInt = v_3.toInt := (congrArg Int32.toInt (show f 0 15 = v_3 from ev_3.symm))
  have o_9 : (f 0 13).toInt = v_5.toInt := (congrArg Int32.toInt (show f 0 13 = v_5 from ev_5.symm))
  have hF : sgK WkX12_either_1 f f := sgK.rf
  have loop_5 : ∀ (n_5 : Nat) (y1_5 : Int32) (fp_5 : sg_F) (H : Heap) (locs : List Loc) (ls : Array Slot), sp = sX12_either_1_l5 n_5 y1_5 fp_5 L → 120 - (fp_5 0 13).toInt < (n_5 : Int) → (f 0 13).toInt ≤ (fp_5 0 13).toInt → 1 ≤ (fp_5 0 16).toInt → 0 ≤ (fp_5 0 15).toInt ∨ (fp_5 0 16).toInt = 1 → sgI loM hiM fp_5 → sgK WkX12_either_1 f fp_5 → va_P D vwCl (sgw 26 h (eM ca h) fp_5 L Q) H → va_S (sgA 26 h s.heap.size) s.heap H locs → lv_has ls 3 [(0, .ref (h 0)), (1, .int y1_5)] → W p l e ({ frames := 36, cells := 0, slots := 0, locals := 820 }) s m ([.ref (h 0)] : List Value).toArray below meth cd H locs 0 0 Qz (F0 m 5 ls []) := by
    intro n_5
    induction n_5 with
    | zero => intro y1_5 fp_5 H locs ls hs hm_5 hg0_5 hg1_5 hg2_5 hI hF hP hS hl; have zb := (show 0 ≤ (fp_5 0 13).toInt ∧ (fp_5 0 13).toInt ≤ 120 from hI 0 13); exact absurd hm_5 (by omega)
    | succ n_5 ih_5 =>
      intro y1_5 fp_5 H locs ls hs hm_5 hg0_5 hg1_5 hg2_5 hI hF hP hS hl
      have hs : sp = sX12_either_1_h5 (sX12_either_1_l5 n_5) y1_5 fp_5 L := hs
      obtain ⟨v_10, ev_10⟩ : ∃ z : Int32, z = fp_5 0 13 := ⟨_, rfl⟩
      have q_11 : 0 ≤ v_10.toInt ∧ v_10.toInt ≤ 120 := by rw [ev_10]; exact hI 0 13
      have q_12 : (fp_5 0 13).toInt = v_10.toInt := by rw [ev_10]
      obtain ⟨v_13, ev_13⟩ : ∃ z : Int32, z = fp_5 0 16 := ⟨_, rfl⟩
      have q_14 : 0 ≤ v_13.toInt ∧ v_13.toInt ≤ 6 := by rw [ev_13]; exact hI 0 16
      have q_15 : (fp_5 0 16).toInt = v_13.toInt := by rw [ev_13]
      obtain ⟨v_16, ev_16⟩ : ∃ z : Int32, z = fp_5 0 15 := ⟨_, rfl⟩
      have q_17 : (-1) ≤ v_16.toInt ∧ v_16.toInt ≤ 120 := by rw [ev_16]; exact hI 0 15
      have q_18 : (fp_5 0 15).toInt = v_16.toInt := by rw [ev_16]
      refine lv_aload_n hx hb dX12_either_5 rfl (lv_at hl 0 rfl) ?_
      refine lv_bipush (v := 124) hx hb dX12_either_6 bp_124 ?_
      obtain ⟨v_21, ev_21⟩ : ∃ z : Int32, z = fp_5 0 14 := ⟨_, rfl⟩
      have q_22 : 0 ≤ v_21.toInt ∧ v_21.toInt ≤ 120 := by rw [ev_21]; exact hI 0 14
      have q_23 : (fp_5 0 14).toInt = v_21.toInt := (congrArg Int32.toInt (show fp_5 0 14 = v_21 from ev_21.symm))
      refine sg_calli (va_runV (As := [.int 124]) (rest := []) ⟨hx, hb, hml, hown, hts⟩ (kX12_takes_124 l D ca za h hh fp_5 L Q hI H.size) (sl_c12_takes_1_0_0_20_12 hts ⟨Nat.le_of_ble_eq_true rfl, Nat.le_of_ble_eq_true rfl⟩) (sl_vM_0 hA hK hP hS hZ) rfl rfl hl.1 rfl (lv_room (Nat.le_of_ble_eq_true rfl)) dX12_either_8 ⟨Nat.le_refl _, Nat.le_refl _⟩) hA hS (fun r_29 f_26 L_27 Q_28 H locs hq hP hS => ?_)
      obtain ⟨⟨hI, hk_f_26, eL9, eQ9⟩, hq, u_30⟩ := hq
      rw [eL9, eQ9] at hP; clear eL9 eQ9
      have hF : sgK WkX12_either_1 f f_26 := sgK.tr hF hk_f_26 (by decide +kernel)
      obtain ⟨v_31, ev_31⟩ : ∃ z : Int32, z = f_26 0 13 := ⟨_, rfl⟩
      replace hs := hs.trans (spl_e ev_10 (spl_e ev_13 (spl_e ev_16 (spl_e ev_21 (spl2_e u_30 (spl_e ev_31 rfl))))))
      have q_32 : 0 ≤ v_31.toInt ∧ v_31.toInt ≤ 120 := by rw [ev_31]; exact hI 0 13
      have q_33 : (f_26 0 13).toInt = v_31.toInt := (congrArg Int32.toInt (show f_26 0 13 = v_31 from ev_31.symm))
      have k_35 : (124 : Int32).toInt = 124 := by decide
      rcases hq with ⟨rfl, hq⟩ | ⟨rfl, hq⟩
      · skip
        have hc_36 := hq
        refine lv_if_eq (tgt := 36) hx hb dX12_either_11 (by decide) (fun c => absurd c (by decide)) (fun c => ?_)
        refine lv_aload_n hx hb dX12_either_14 rfl (lv_at hl 0 rfl) ?_
        have q_37 : (f_26 0 16).toInt = v_13.toInt := (congrArg Int32.toInt (show f_26 0 16 = v_13 from ((hk_f_26 0 16 (by decide)).trans ev_13.symm)))
        have q_38 : (f_26 0 15).toInt = v_16.toInt := (congrArg Int32.toInt (show f_26 0 15 = v_16 from ((hk_f_26 0 15 (by decide)).trans ev_16.symm)))
        refine sg_calli (va_runV (As := []) (rest := []) ⟨hx, hb, hml, hown, hts⟩ (kX12_both_1 l D ca za h hh f_26 L Q hI (by omega) (by omega) H.size) (sl_c12_both_35_0_0_798_12 hts ⟨Nat.le_of_ble_eq_true rfl, Nat.le_of_ble_eq_true rfl⟩) (sl_vM_0 hA hK hP hS hZ) rfl rfl hl.1 rfl (lv_room (Nat.le_of_ble_eq_true rfl)) dX12_either_15 ⟨Nat.le_refl _, Nat.le_refl _⟩) hA hS (fun r_44 f_41 L_42 Q_43 H locs hq hP hS => ?_)
        obtain ⟨⟨hI, hk_f_41, eL9, eQ9⟩, hq, p_45, p_46, p_47, u_48⟩ := hq
        rw [eL9, eQ9] at hP; clear eL9 eQ9
        have hF : sgK WkX12_either_1 f f_41 := sgK.tr hF hk_f_41 (by decide +kernel)
        obtain ⟨v_49, ev_49⟩ : ∃ z : Int32, z = f_41 0 13 := ⟨_, rfl⟩
        have q_50 : 0 ≤ v_49.toInt ∧ v_49.toInt ≤ 120 := by rw [ev_49]; exact hI 0 13
        have q_51 : (f_41 0 13).toInt = v_49.toInt := (congrArg Int32.toInt (show f_41 0 13 = v_49 from ev_49.symm))
        obtain ⟨v_52, ev_52⟩ : ∃ z : Int32, z = f_41 0 16 := ⟨_, rfl⟩
        have q_53 : 0 ≤ v_52.toInt ∧ v_52.toInt ≤ 6 := by rw [ev_52]; exact hI 0 16
        have q_54 : (f_41 0 16).toInt = v_52.toInt := (congrArg Int32.toInt (show f_41 0 16 = v_52 from ev_52.symm))
        obtain ⟨v_55, ev_55⟩ : ∃ z : Int32, z = f_41 0 15 := ⟨_, rfl⟩
        replace hs := hs.trans ((if_pos rfl).trans (spl2_e u_48 (spl_e ev_49 (spl_e ev_52 (spl_e ev_55 rfl)))))
        have q_56 : (-1) ≤ v_55.toInt ∧ v_55.toInt ≤ 120 := by rw [ev_55]; exact hI 0 15
        have q_57 : (f_41 0 15).toInt = v_55.toInt := (congrArg Int32.toInt (show f_41 0 15 = v_55 from ev_55.symm))
        refine lv_istore_n (lv' := [(2, .int r_44), (0, .ref (h 0)), (1, .int y1_5)]) hx hb dX12_either_18 rfl hl (by decide) rfl (fun ls hl => ?_)
        refine lv_iload_n hx hb dX12_either_19 rfl (lv_at hl 2 rfl) ?_
        refine lv_if_ne (tgt := 27) hx hb dX12_either_20 (by decide) (fun c => ?_) (fun c => ?_)
        · skip
          have c_59 : y1_5.toInt ≠ 0 := (by first | exact (cm_ne1 ti_0 c) | (have z := bn_ne c; have k1 : (0 : Int32).toInt = 0 := ti_0; omega))
          refine lv_iconst (v := 1) hx hb dX12_either_27 ic_1 ?_
          refine lv_goto (tgt := 32) hx hb dX12_either_28 (by decide) ?_
          refine lv_istore_n (lv' := [(1, .int 1), (2, .int r_44), (0, .ref (h 0))]) hx hb dX12_either_32 rfl hl (by decide) rfl (fun ls hl => ?_)
          refine lv_goto (tgt := 5) hx hb dX12_either_33 (by decide) ?_
          exact ih_5 1 f_41 _ _ _ (hs.trans ((if_neg c_59).trans rfl)) (by have kc0 : (1 : Int32).toInt = 1 := ti_1; have zz0_13 : (f_41 0 13).toInt = v_49.toInt := (congrArg Int32.toInt (show f_41 0 13 = v_49 from ev_49.symm)); omega) (by have kc0 : (1 : Int32).toInt = 1 := ti_1; have zz0_13 : (f_41 0 13).toInt = v_49.toInt := (congrArg Int32.toInt (show f_41 0 13 = v_49 from ev_49.symm)); omega) (by have kc0 : (1 : Int32).toInt = 1 := ti_1; have zz0_16 : (f_41 0 16).toInt = v_52.toInt := (congrArg Int32.toInt (show f_41 0 16 = v_52 from ev_52.symm)); omega) (by have kc0 : (1 : Int32).toInt = 1 := ti_1; have zz0_15 : (f_41 0 15).toInt = v_55.toInt := (congrArg Int32.toInt (show f_41 0 15 = v_55 from ev_55.symm)); have zz0_16 : (f_41 0 16).toInt = v_52.toInt := (congrArg Int32.toInt (show f_41 0 16 = v_52 from ev_52.symm)); omega) hI hF hP hS (lv_sub hl [2, 0] rfl)
        · skip
          have c_60 : y1_5.toInt = 0 := (by first | exact (cm_eq1 ti_0 c) | (have z := Int32.toInt_inj.mpr c; have k1 : (0 : Int32).toInt = 0 := ti_0; omega))
          replace hs := hs.trans ((if_pos c_60).trans rfl)
          refine lv_iload_n hx hb dX12_either_23 rfl (lv_at hl 0 rfl) ?_
          refine lv_if_eq (tgt := 31) hx hb dX12_either_24 (by decide) (fun c => ?_) (fun c => ?_)
          · skip
            have c_61 : r_44.toInt = 0 := (by first | exact (cm_eq1 ti_0 c) | (have z := Int32.toInt_inj.mpr c; have k1 : (0 : Int32).toInt = 0 := ti_0; omega))
            refine lv_iconst (v := 0) hx hb dX12_either_31 ic_0 ?_
            refine lv_istore_n (lv' := [(1, .int 0), (2, .int r_44), (0, .ref (h 0))]) hx hb dX12_either_32 rfl hl (by decide) rfl (fun ls hl => ?_)
            refine lv_goto (tgt := 5) hx hb dX12_either_33 (by decide) ?_
            exact ih_5 0 f_41 _ _ _ (hs.trans ((if_pos c_61).trans rfl)) (by have kc0 : (0 : Int32).toInt = 0 := ti_0; have zz0_13 : (f_41 0 13).toInt = v_49.toInt := (congrArg Int32.toInt (show f_41 0 13 = v_49 from ev_49.symm)); omega) (by have kc0 : (0 : Int32).toInt = 0 := ti_0; have zz0_13 : (f_41 0 13).toInt = v_49.toInt := (congrArg Int32.toInt (show f_41 0 13 = v_49 from ev_49.symm)); omega) (by have kc0 : (0 : Int32).toInt = 0 := ti_0; have zz0_16 : (f_41 0 16).toInt = v_52.toInt := (congrArg Int32.toInt (show f_41 0 16 = v_52 from ev_52.symm)); omega) (by have kc0 : (0 : Int32).toInt = 0 := ti_0; have zz0_15 : (f_41 0 15).toInt = v_55.toInt := (congrArg Int32.toInt (show f_41 0 15 = v_55 from ev_55.symm)); have zz0_16 : (f_41 0 16).toInt = v_52.toInt := (congrArg Int32.toInt (show f_41 0 16 = v_52 from ev_52.symm)); omega) hI hF hP hS (lv_sub hl [2, 0] rfl)
          · skip
            have c_62 : r_44.toInt ≠ 0 := (by first | exact (cm_ne1 ti_0 c) | (have z := bn_ne c; have k1 : (0 : Int32).toInt = 0 := ti_0; omega))
            refine lv_iconst (v := 1) hx hb dX12_either_27 ic_1 ?_
            refine lv_goto (tgt := 32) hx hb dX12_either_28 (by decide) ?_
            refine lv_istore_n (lv' := [(1, .int 1), (2, .int r_44), (0, .ref (h 0))]) hx hb dX12_either_32 rfl hl (by decide) rfl (fun ls hl => ?_)
            refine lv_goto (tgt := 5) hx hb dX12_either_33 (by decide) ?_
            exact ih_5 1 f_41 _ _ _ (hs.trans ((if_neg c_62).trans rfl)) (by have kc0 : (1 : Int32).toInt = 1 := ti_1; have zz0_13 : (f_41 0 13).toInt = v_49.toInt := (congrArg Int32.toInt (show f_41 0 13 = v_49 from ev_49.symm)); omega) (by have kc0 : (1 : Int32).toInt = 1 := ti_1; have zz0_13 : (f_41 0 13).toInt = v_49.toInt := (congrArg Int32.toInt (show f_41 0 13 = v_49 from ev_49.symm)); omega) (by have kc0 : (1 : Int32).toInt = 1 := ti_1; have zz0_16 : (f_41 0 16).toInt = v_52.toInt := (congrArg Int32.toInt (show f_41 0 16 = v_52 from ev_52.symm)); omega) (by have kc0 : (1 : Int32).toInt = 1 := ti_1; have zz0_15 : (f_41 0 15).toInt = v_55.toInt := (congrArg Int32.toInt (show f_41 0 15 = v_55 from ev_55.symm)); have zz0_16 : (f_41 0 16).toInt = v_52.toInt := (congrArg Int32.toInt (show f_41 0 16 = v_52 from ev_52.symm)); omega) hI hF hP hS (lv_sub hl [2, 0] rfl)
      · skip
        have hc_36 := hq
        refine lv_if_eq (tgt := 36) hx hb dX12_either_11 (by decide) (fun c => ?_) (fun c => absurd c (by decide))
        refine lv_iload_n hx hb dX12_either_36 rfl (lv_at hl 1 rfl) ?_
        have q_64 : (f_26 0 16).toInt = v_13.toInt := (congrArg Int32.toInt (show f_26 0 16 = v_13 from ((hk_f_26 0 16 (by decide)).trans ev_13.symm)))
        have q_65 : (f_26 0 15).toInt = v_16.toInt := (congrArg Int32.toInt (show f_26 0 15 = v_16 from ((hk_f_26 0 15 (by decide)).trans ev_16.symm)))
        exact hret _ _ _ _ (y1_5) f_26 L Q dX12_either_37 hP hS ⟨⟨hI, hF, rfl, rfl⟩, trivial, (by omega), (by omega), (by omega), (Eq.trans (Eq.symm (hs.trans ((if_neg (by decide)).trans rfl))) hsp)⟩
  refine lv_aload_n hx hb dX12_either_0 rfl (lv_at hl 0 rfl) ?_
  have q_67 : (f 0 16).toInt = v_1.toInt := (congrArg Int32.toInt (show f 0 16 = v_1 from ev_1.symm))
  have q_68 : (f 0 15).toInt = v_3.toInt := (congrArg Int32.toInt (show f 0 15 = v_3 from ev_3.symm))
  have q_70 : (f 0 13).toInt = v_5.toInt := (congrArg Int32.toInt (show f 0 13 = v_5 from ev_5.symm))
  refine sg_calli (va_runV (As := []) (rest := []) ⟨hx, hb, hml, hown, hts⟩ (kX12_both_1 l D ca za h hh f L Q hI (by omega) (by omega) H.size) (sl_c12_both_35_0_0_798_12 hts ⟨Nat.le_of_ble_eq_true rfl, Nat.le_of_ble_eq_true rfl⟩) (sl_vM_0 hA hK hP hS hZ) rfl rfl hl.1 rfl (lv_room (Nat.le_of_ble_eq_true rfl)) dX12_either_1 ⟨Nat.le_refl _, Nat.le_refl _⟩) hA hS (fun r_74 f_71 L_72 Q_73 H locs hq hP hS => ?_)
  obtain ⟨⟨hI, hk_f_71, eL9, eQ9⟩, hq, p_75, p_76, p_77, u_78⟩ := hq
  rw [eL9, eQ9] at hP; clear eL9 eQ9
  have hF : sgK WkX12_either_1 f f_71 := sgK.tr hF hk_f_71 (by decide +kernel)
  obtain ⟨v_79, ev_79⟩ : ∃ z : Int32, z = f_71 0 13 := ⟨_, rfl⟩
  have q_80 : 0 ≤ v_79.toInt ∧ v_79.toInt ≤ 120 := by rw [ev_79]; exact hI 0 13
  have q_81 : (f_71 0 13).toInt = v_79.toInt := (congrArg Int32.toInt (show f_71 0 13 = v_79 from ev_79.symm))
  obtain ⟨v_82, ev_82⟩ : ∃ z : Int32, z = f_71 0 16 := ⟨_, rfl⟩
  have q_83 : 0 ≤ v_82.toInt ∧ v_82.toInt ≤ 6 := by rw [ev_82]; exact hI 0 16
  have q_84 : (f_71 0 16).toInt = v_82.toInt := (congrArg Int32.toInt (show f_71 0 16 = v_82 from ev_82.symm))
  obtain ⟨v_85, ev_85⟩ : ∃ z : Int32, z = f_71 0 15 := ⟨_, rfl⟩
  have q_86 : (-1) ≤ v_85.toInt ∧ v_85.toInt ≤ 120 := by rw [ev_85]; exact hI 0 15
  have q_87 : (f_71 0 15).toInt = v_85.toInt := (congrArg Int32.toInt (show f_71 0 15 = v_85 from ev_85.symm))
  refine lv_istore_n (lv' := [(1, .int r_74), (0, .ref (h 0))]) hx hb dX12_either_4 rfl hl (by decide) rfl (fun ls hl => ?_)
  exact loop_5 121 r_74 f_71 _ _ _ (hs.trans ((spl_e ev_1 (spl_e ev_3 (spl_e ev_5 (spl2_e u_78 (spl_e ev_79 (spl_e ev_82 (spl_e ev_85 rfl))))))))) (by have zz0_13 : (f_71 0 13).toInt = v_79.toInt := (congrArg Int32.toInt (show f_71 0 13 = v_79 from ev_79.symm)); omega) (by have zz0_13 : (f_71 0 13).toInt = v_79.toInt := (congrArg Int32.toInt (show f_71 0 13 = v_79 from ev_79.symm)); omega) (by have zz0_16 : (f_71 0 16).toInt = v_82.toInt := (congrArg Int32.toInt (show f_71 0 16 = v_82 from ev_82.symm)); omega) (by have zz0_15 : (f_71 0 15).toInt = v_85.toInt := (congrArg Int32.toInt (show f_71 0 15 = v_85 from ev_85.symm)); have zz0_16 : (f_71 0 16).toInt = v_82.toInt := (congrArg Int32.toInt (show f_71 0 16 = v_82 from ev_82.symm)); omega) hI hF hP hS (lv_sub hl [1, 0] rfl)

abbrev WkX12_one_0 : List (Nat × Nat × Option Nat) := [(0, 0, some 13), (0, 0, some 15), (0, 0, some 16)]
set_option maxHeartbeats 4000000 in
set_option maxRecDepth 100000 in
theorem kX12_one_0 (l : Launch) (D : va_G) (ca : Nat → ClassId) (za h : Nat → Nat) (hh : sgH 26 h) (f : sg_F) (L : sg_L) (Q : sg_Q) (hI : sgI loM hiM f) (p0 : 0 ≤ (f 0 16).toInt) (p1 : 0 ≤ (f 0 15).toInt ∨ (f 0 16).toInt = 0) (sz : Nat) : Met l yX12_one gwX12_one { frames := 37, cells := 0, slots := 0, locals := 842 } (sgP D vwCl (tyX ca) 26 h (eM ca h) zcM za f L Q sz [.ref (h 0)]) (sgQi D vwCl 26 h (eM ca h) sz (fun r f1 L1 Q1 => ((sgI loM hiM f1 ∧ sgK WkX12_one_0 f f1 ∧ L1 = L ∧ Q1 = Q) ∧ True ∧ ((f 0 13).toInt ≤ (f1 0 13).toInt) ∧ (0 ≤ (f1 0 16).toInt) ∧ (0 ≤ (f1 0 15).toInt ∨ (f1 0 16).toInt = 0) ∧ (r, f1) = sX12_one_0 f L))) 0 0 (sgA 26 h sz) := by
  refine sg_ofWi (cc := cX12_one) (maxL := 5) RX12 (by decide) rfl rfl (Nat.le_of_ble_eq_true rfl) ?_
  intro p e s m below meth cd Qz ls hx hb hml hown hts hK hZ hP hS hl hret
  have hA := sgY.self (n := 26) (h := h) (sz := s.heap.size)
  have hl : lv_has ls 5 [(0, .ref (h 0))] := hl
  obtain ⟨H, hH⟩ : ∃ z : Heap, z = s.heap := ⟨_, rfl⟩
  obtain ⟨locs, hlo⟩ : ∃ z : List Loc, z = [] := ⟨_, rfl⟩
  have hP : va_P D vwCl (sgw 26 h (eM ca h) f L Q) H := by rw [hH]; exact hP
  have hS : va_S (sgA 26 h s.heap.size) s.heap H locs := by rw [hH, hlo]; exact hS
  suffices hgo : W p l e ({ frames := 37, cells := 0, slots := 0, locals := 842 }) s m ([.ref (h 0)] : List Value).toArray below meth cd H locs 0 0 Qz (F0 m 0 ls []) by rw [hH, hlo] at hgo; exact hgo
  clear hH hlo
  obtain ⟨sp, hsp⟩ : ∃ z : Int32 × sg_F, z = sX12_one_0 f L := ⟨_, rfl⟩
  have hs : sp = sX12_one_0 f L := hsp
  obtain ⟨v_1, ev_1⟩ : ∃ z : Int32, z = f 0 16 := ⟨_, rfl⟩
  have q_2 : 0 ≤ v_1.toInt ∧ v_1.toInt ≤ 6 := by rw [ev_1]; exact hI 0 16
  obtain ⟨v_3, ev_3⟩ : ∃ z : Int32, z = f 0 15 := ⟨_, rfl⟩
  have q_4 : (-1) ≤ v_3.toInt ∧ v_3.toInt ≤ 120 := by rw [ev_3]; exact hI 0 15
  obtain ⟨v_5, ev_5⟩ : ∃ z : Int32, z = f 0 13 := ⟨_, rfl⟩
  replace hs := hs.trans (spl_e ev_1 (spl_e ev_3 (spl_e ev_5 rfl)))
  have q_6 : 0 ≤ v_5.toInt ∧ v_5.toInt ≤ 120 := by rw [ev_5]; exact hI 0 13
  have o_7 : (f 0 16).toInt = v_1.toInt := (congrArg Int32.toInt (show f 0 16 = v_1 from ev_1.symm))
  have o_8 : (f 0 15).toInt = v_3.toInt := (congrArg Int32.toInt (show f 0 15 = v_3 from ev_3.symm))
  have o_9 : (f 0 13).toInt = v_5.toInt := (congrArg Int32.toInt (show f 0 13 = v_5 from ev_5.symm))
  have hF : sgK WkX12_one_0 f f := sgK.rf
  have blk_229 : ∀ (y3_229 : Int32) (y4_229 : Int32) (fp_229 : sg_F) (H : Heap) (locs : List Loc) (ls : Array Slot), sp = sX12_one_0_b229 y3_229 y4_229 fp_229 L → (-1) ≤ (fp_229 0 15).toInt ∧ (fp_229 0 15).toInt ≤ (-1) → 0 ≤ y4_229.toInt ∧ y4_229.toInt ≤ 4 → (f 0 13).toInt ≤ (fp_229 0 13).toInt → 0 ≤ (fp_229 0 16).toInt → 0 ≤ (fp_229 0 15).toInt ∨ (fp_229 0 16).toInt = 0 → sgI loM hiM fp_229 → sgK WkX12_one_0 f fp_229 → va_P D vwCl (sgw 26 h (eM ca h) fp_229 L Q) H → va_S (sgA 26 h s.heap.size) s.heap H locs → lv_has ls 5 [(0, .ref (h 0)), (3, .int y3_229), (4, .int y4_229)] → W p l e ({ frames := 37, cells := 0, slots := 0, locals := 842 }) s m ([.ref (h 0)] : List Value).toArray below meth cd H locs 0 0 Qz (F0 m 229 ls []) := by
    intro y3_229 y4_229 fp_229 H locs ls hs hy0_229 hy1_229 hg0_229 hg1_229 hg2_229 hI hF hP hS hl
    obtain ⟨v_10, ev_10⟩ : ∃ z : Int32, z = fp_229 0 15 := ⟨_, rfl⟩
    have q_11 : (-1) ≤ v_10.toInt ∧ v_10.toInt ≤ 120 := by rw [ev_10]; exact hI 0 15
    have q_12 : (fp_229 0 15).toInt = v_10.toInt := by rw [ev_10]
    obtain ⟨v_13, ev_13⟩ : ∃ z : Int32, z = fp_229 0 13 := ⟨_, rfl⟩
    have q_14 : 0 ≤ v_13.toInt ∧ v_13.toInt ≤ 120 := by rw [ev_13]; exact hI 0 13
    have q_15 : (fp_229 0 13).toInt = v_13.toInt := by rw [ev_13]
    obtain ⟨v_16, ev_16⟩ : ∃ z : Int32, z = fp_229 0 16 := ⟨_, rfl⟩
    replace hs := hs.trans (spl_e ev_10 (spl_e ev_13 (spl_e ev_16 rfl)))
    have q_17 : 0 ≤ v_16.toInt ∧ v_16.toInt ≤ 6 := by rw [ev_16]; exact hI 0 16
    have q_18 : (fp_229 0 16).toInt = v_16.toInt := by rw [ev_16]
    refine lv_iload hx hb dX12_one_229 (lv_at hl 2 rfl) ?_
    refine lv_if_ne (tgt := 241) hx hb dX12_one_231 (by decide) (fun c => ?_) (fun c => ?_)
    · skip
      have c_19 : y4_229.toInt ≠ 0 := (by first | exact (cm_ne1 ti_0 c) | (have z := bn_ne c; have k1 : (0 : Int32).toInt = 0 := ti_0; omega))
      refine lv_iload_n hx hb dX12_one_241 rfl (lv_at hl 1 rfl) ?_
      exact hret _ _ _ _ (y3_229) fp_229 L Q dX12_one_242 hP hS ⟨⟨hI, hF, rfl, rfl⟩, trivial, (by omega), (by omega), (by omega), (Eq.trans (Eq.symm (hs.trans ((if_neg c_19).trans rfl))) hsp)⟩
    · skip
      have c_20 : y4_229.toInt = 0 := (by first | exact (cm_eq1 ti_0 c) | (have z := Int32.toInt_inj.mpr c; have k1 : (0 : Int32).toInt = 0 := ti_0; omega))
      refine lv_aload_n hx hb dX12_one_234 rfl (lv_at hl 0 rfl) ?_
      refine sg_calli (va_runV (As := []) (rest := []) ⟨hx, hb, hml, hown, hts⟩ (kX12_wrong l D ca za h hh fp_229 L Q hI H.size) (sl_c12_wrong_0_0_0_0_12 hts ⟨Nat.le_of_ble_eq_true rfl, Nat.le_of_ble_eq_true rfl⟩) (sl_vM_0 hA hK hP hS hZ) rfl rfl hl.1 rfl (lv_room (Nat.le_of_ble_eq_true rfl)) dX12_one_235 ⟨Nat.le_refl _, Nat.le_refl _⟩) hA hS (fun r_28 f_25 L_26 Q_27 H locs hq hP hS => ?_)
      obtain ⟨⟨hI, hk_f_25, eL9, eQ9⟩, hq, p_29, u_30⟩ := hq
      rw [eL9, eQ9] at hP; clear eL9 eQ9
      have hF : sgK WkX12_one_0 f f_25 := sgK.tr hF hk_f_25 (by decide +kernel)
      obtain ⟨v_31, ev_31⟩ : ∃ z : Int32, z = f_25 0 15 := ⟨_, rfl⟩
      have q_32 : (-1) ≤ v_31.toInt ∧ v_31.toInt ≤ 120 := by rw [ev_31]; exact hI 0 15
      have q_33 : (f_25 0 15).toInt = v_31.toInt := (congrArg Int32.toInt (show f_25 0 15 = v_31 from ev_31.symm))
      obtain rfl : r_28 = 0 := Int32.toInt_inj.mp (by have k9 : (0 : Int32).toInt = 0 := ti_0; omega)
      refine lv_goto (tgt := 242) hx hb dX12_one_238 (by decide) ?_
      have q_34 : (f_25 0 13).toInt = v_13.toInt := (congrArg Int32.toInt (show f_25 0 13 = v_13 from ((hk_f_25 0 13 (by decide)).trans ev_13.symm)))
      have q_35 : (f_25 0 16).toInt = v_16.toInt := (congrArg Int32.toInt (show f_25 0 16 = v_16 from ((hk_f_25 0 16 (by decide)).trans ev_16.symm)))
      have k99 : (0 : Int32).toInt = 0 := ti_0
      exact hret _ _ _ _ (0) f_25 L Q dX12_one_242 hP hS ⟨⟨hI, hF, rfl, rfl⟩, trivial, (by omega), (by omega), (by omega), (Eq.trans (Eq.symm (hs.trans ((if_pos c_20).trans (spl2_e u_30 (spl_e ev_31 rfl))))) hsp)⟩
  have loop_176 : ∀ (n_176 : Nat) (y3_176 : Int32) (y4_176 : Int32) (fp_176 : sg_F) (H : Heap) (locs : List Loc) (ls : Array Slot), sp = sX12_one_0_l176 n_176 y3_176 y4_176 fp_176 L → 4 - y4_176.toInt < (n_176 : Int) → (-1) ≤ (fp_176 0 15).toInt ∧ (fp_176 0 15).toInt ≤ (-1) → 0 ≤ y4_176.toInt ∧ y4_176.toInt ≤ 4 → (f 0 13).toInt ≤ (fp_176 0 13).toInt → 0 ≤ (fp_176 0 16).toInt → 0 ≤ (fp_176 0 15).toInt ∨ (fp_176 0 16).toInt = 0 → sgI loM hiM fp_176 → sgK WkX12_one_0 f fp_176 → va_P D vwCl (sgw 26 h (eM ca h) fp_176 L Q) H → va_S (sgA 26 h s.heap.size) s.heap H locs → lv_has ls 5 [(0, .ref (h 0)), (3, .int y3_176), (4, .int y4_176)] → W p l e ({ frames := 37, cells := 0, slots := 0, locals := 842 }) s m ([.ref (h 0)] : List Value).toArray below meth cd H locs 0 0 Qz (F0 m 176 ls []) := by
    intro n_176
    induction n_176 with
    | zero => intro y3_176 y4_176 fp_176 H locs ls hs hm_176 hy0_176 hy1_176 hg0_176 hg1_176 hg2_176 hI hF hP hS hl; exact absurd hm_176 (by omega)
    | succ n_176 ih_176 =>
      intro y3_176 y4_176 fp_176 H locs ls hs hm_176 hy0_176 hy1_176 hg0_176 hg1_176 hg2_176 hI hF hP hS hl
      have hs : sp = sX12_one_0_h176 (sX12_one_0_l176 n_176) y3_176 y4_176 fp_176 L := hs
      obtain ⟨v_38, ev_38⟩ : ∃ z : Int32, z = fp_176 0 15 := ⟨_, rfl⟩
      have q_39 : (-1) ≤ v_38.toInt ∧ v_38.toInt ≤ 120 := by rw [ev_38]; exact hI 0 15
      have q_40 : (fp_176 0 15).toInt = v_38.toInt := by rw [ev_38]
      obtain ⟨v_41, ev_41⟩ : ∃ z : Int32, z = fp_176 0 13 := ⟨_, rfl⟩
      have q_42 : 0 ≤ v_41.toInt ∧ v_41.toInt ≤ 120 := by rw [ev_41]; exact hI 0 13
      have q_43 : (fp_176 0 13).toInt = v_41.toInt := by rw [ev_41]
      obtain ⟨v_44, ev_44⟩ : ∃ z : Int32, z = fp_176 0 16 := ⟨_, rfl⟩
      replace hs := hs.trans (spl_e ev_38 (spl_e ev_41 (spl_e ev_44 rfl)))
      have q_45 : 0 ≤ v_44.toInt ∧ v_44.toInt ≤ 6 := by rw [ev_44]; exact hI 0 16
      have q_46 : (fp_176 0 16).toInt = v_44.toInt := by rw [ev_44]
      refine lv_iload hx hb dX12_one_176 (lv_at hl 2 rfl) ?_
      refine lv_iconst (v := 4) hx hb dX12_one_178 ic_4 ?_
      refine lv_icmp_ge (tgt := 229) hx hb dX12_one_179 (by decide) (fun c => ?_) (fun c => ?_)
      · skip
        have c_47 : 4 ≤ y4_176.toInt := (by first | exact (cm_le0 ti_4 c) | (have z := bn_le c; have k1 : (4 : Int32).toInt = 4 := ti_4; omega))
        exact blk_229 y3_176 y4_176 fp_176 _ _ _ (hs.trans ((if_neg (Int.not_lt.mpr c_47)).trans rfl)) (by have zz0_15 : (fp_176 0 15).toInt = v_38.toInt := (congrArg Int32.toInt (show fp_176 0 15 = v_38 from ev_38.symm)); exact ⟨by omega, by omega⟩) hy1_176 (by have zz0_13 : (fp_176 0 13).toInt = v_41.toInt := (congrArg Int32.toInt (show fp_176 0 13 = v_41 from ev_41.symm)); omega) (by have zz0_16 : (fp_176 0 16).toInt = v_44.toInt := (congrArg Int32.toInt (show fp_176 0 16 = v_44 from ev_44.symm)); omega) (by have zz0_15 : (fp_176 0 15).toInt = v_38.toInt := (congrArg Int32.toInt (show fp_176 0 15 = v_38 from ev_38.symm)); have zz0_16 : (fp_176 0 16).toInt = v_44.toInt := (congrArg Int32.toInt (show fp_176 0 16 = v_44 from ev_44.symm)); omega) hI hF hP hS (lv_sub hl [0, 1, 2] rfl)
      · skip
        have c_48 : y4_176.toInt < 4 := (by first | exact (cm_nle0 ti_4 c) | (have z := bn_nle c; have k1 : (4 : Int32).toInt = 4 := ti_4; omega))
        refine lv_aload_n hx hb dX12_one_182 rfl (lv_at hl 0 rfl) ?_
        obtain ⟨v_50, ev_50⟩ : ∃ z : Int32, z = fp_176 0 14 := ⟨_, rfl⟩
        have q_51 : 0 ≤ v_50.toInt ∧ v_50.toInt ≤ 120 := by rw [ev_50]; exact hI 0 14
        have q_52 : (fp_176 0 14).toInt = v_50.toInt := (congrArg Int32.toInt (show fp_176 0 14 = v_50 from ev_50.symm))
        refine sg_calli (va_runV (As := []) (rest := []) ⟨hx, hb, hml, hown, hts⟩ (kX12_byteAt l D ca za h hh fp_176 L Q hI H.size) (sl_c12_byteAt_0_0_0_0_12 hts ⟨Nat.le_of_ble_eq_true rfl, Nat.le_of_ble_eq_true rfl⟩) (sl_vM_0 hA hK hP hS hZ) rfl rfl hl.1 rfl (lv_room (Nat.le_of_ble_eq_true rfl)) dX12_one_183 ⟨Nat.le_refl _, Nat.le_refl _⟩) hA hS (fun r_56 f_53 L_54 Q_55 H locs hq hP hS => ?_)
        obtain ⟨⟨ef9, eL9, eQ9⟩, hq, p_57, u_58⟩ := hq
        replace hs := hs.trans ((if_pos c_48).trans (spl_e ev_50 (spl_e u_58 rfl)))
        rw [ef9, eL9, eQ9] at hP; clear ef9 eL9 eQ9
        refine lv_bipush (v := 48) hx hb dX12_one_186 bp_48 ?_
        refine lv_icmp_lt (tgt := 229) hx hb dX12_one_188 (by decide) (fun c => ?_) (fun c => ?_)
        · skip
          have c_59 : r_56.toInt < 48 := (by first | exact (cm_lt1 ti_48 c) | (have z := bn_lt c; have k1 : (48 : Int32).toInt = 48 := ti_48; omega))
          exact blk_229 y3_176 y4_176 fp_176 _ _ _ (hs.trans ((if_pos c_59).trans rfl)) (by have zz0_15 : (fp_176 0 15).toInt = v_38.toInt := (congrArg Int32.toInt (show fp_176 0 15 = v_38 from ev_38.symm)); exact ⟨by omega, by omega⟩) hy1_176 (by have zz0_13 : (fp_176 0 13).toInt = v_41.toInt := (congrArg Int32.toInt (show fp_176 0 13 = v_41 from ev_41.symm)); omega) (by have zz0_16 : (fp_176 0 16).toInt = v_44.toInt := (congrArg Int32.toInt (show fp_176 0 16 = v_44 from ev_44.symm)); omega) (by have zz0_15 : (fp_176 0 15).toInt = v_38.toInt := (congrArg Int32.toInt (show fp_176 0 15 = v_38 from ev_38.symm)); have zz0_16 : (fp_176 0 16).toInt = v_44.toInt := (congrArg Int32.toInt (show fp_176 0 16 = v_44 from ev_44.symm)); omega) hI hF hP hS (lv_sub hl [0, 1, 2] rfl)
        · skip
          have c_60 : 48 ≤ r_56.toInt := (by first | exact (cm_nlt1 ti_48 c) | (have z := bn_nlt c; have k1 : (48 : Int32).toInt = 48 := ti_48; omega))
          replace hs := hs.trans ((if_neg (Int.not_lt.mpr c_60)).trans rfl)
          refine lv_aload_n hx hb dX12_one_191 rfl (lv_at hl 0 rfl) ?_
          refine sg_calli (va_runV (As := []) (rest := []) ⟨hx, hb, hml, hown, hts⟩ (kX12_byteAt l D ca za h hh fp_176 L Q hI H.size) (sl_c12_byteAt_0_0_0_0_12 hts ⟨Nat.le_of_ble_eq_true rfl, Nat.le_of_ble_eq_true rfl⟩) (sl_vM_0 hA hK hP hS hZ) rfl rfl hl.1 rfl (lv_room (Nat.le_of_ble_eq_true rfl)) dX12_one_192 ⟨Nat.le_refl _, Nat.le_refl _⟩) hA hS (fun r_66 f_63 L_64 Q_65 H locs hq hP hS => ?_)
          obtain ⟨⟨ef9, eL9, eQ9⟩, hq, p_67, u_68⟩ := hq
          rw [ef9, eL9, eQ9] at hP; clear ef9 eL9 eQ9
          rw [show r_66 = r_56 from u_68.trans u_58.symm]
          refine lv_bipush (v := 57) hx hb dX12_one_195 bp_57 ?_
          refine lv_icmp_gt (tgt := 229) hx hb dX12_one_197 (by decide) (fun c => ?_) (fun c => ?_)
          · skip
            have c_69 : 57 < r_56.toInt := (by first | exact (cm_lt0 ti_57 c) | (have z := bn_lt c; have k1 : (57 : Int32).toInt = 57 := ti_57; omega))
            exact blk_229 y3_176 y4_176 fp_176 _ _ _ (hs.trans ((if_pos c_69).trans rfl)) (by have zz0_15 : (fp_176 0 15).toInt = v_38.toInt := (congrArg Int32.toInt (show fp_176 0 15 = v_38 from ev_38.symm)); exact ⟨by omega, by omega⟩) hy1_176 (by have zz0_13 : (fp_176 0 13).toInt = v_41.toInt := (congrArg Int32.toInt (show fp_176 0 13 = v_41 from ev_41.symm)); omega) (by have zz0_16 : (fp_176 0 16).toInt = v_44.toInt := (congrArg Int32.toInt (show fp_176 0 16 = v_44 from ev_44.symm)); omega) (by have zz0_15 : (fp_176 0 15).toInt = v_38.toInt := (congrArg Int32.toInt (show fp_176 0 15 = v_38 from ev_38.symm)); have zz0_16 : (fp_176 0 16).toInt = v_44.toInt := (congrArg Int32.toInt (show fp_176 0 16 = v_44 from ev_44.symm)); omega) hI hF hP hS (lv_sub hl [0, 1, 2] rfl)
          · skip
            have c_70 : r_56.toInt ≤ 57 := (by first | exact (cm_nlt0 ti_57 c) | (have z := bn_nlt c; have k1 : (57 : Int32).toInt = 57 := ti_57; omega))
            refine lv_bipush (v := 10) hx hb dX12_one_200 bp_10 ?_
            refine lv_iload_n hx hb dX12_one_202 rfl (lv_at hl 1 rfl) ?_
            refine lv_imul hx hb dX12_one_203 ?_
            refine lv_topi (fun v_71 ev_71 => ?_)
            refine lv_aload_n hx hb dX12_one_204 rfl (lv_at hl 0 rfl) ?_
            refine sg_calli (va_runV (As := []) (rest := [.int v_71]) ⟨hx, hb, hml, hown, hts⟩ (kX12_byteAt l D ca za h hh fp_176 L Q hI H.size) (sl_c12_byteAt_0_0_0_0_12 hts ⟨Nat.le_of_ble_eq_true rfl, Nat.le_of_ble_eq_true rfl⟩) (sl_vM_0 hA hK hP hS hZ) rfl rfl hl.1 rfl (lv_room (Nat.le_of_ble_eq_true rfl)) dX12_one_205 ⟨Nat.le_refl _, Nat.le_refl _⟩) hA hS (fun r_77 f_74 L_75 Q_76 H locs hq hP hS => ?_)
            obtain ⟨⟨ef9, eL9, eQ9⟩, hq, p_78, u_79⟩ := hq
            rw [ef9, eL9, eQ9] at hP; clear ef9 eL9 eQ9
            rw [show r_77 = r_56 from u_79.trans u_58.symm]
            refine lv_iadd hx hb dX12_one_208 ?_
            refine lv_topi (fun v_80 ev_80 => ?_)
            refine lv_bipush (v := 48) hx hb dX12_one_209 bp_48 ?_
            refine lv_isub hx hb dX12_one_211 ?_
            refine lv_topi (fun v_81 ev_81 => ?_)
            refine lv_istore_n (lv' := [(3, .int v_81), (0, .ref (h 0)), (4, .int y4_176)]) hx hb dX12_one_212 rfl hl (by decide) rfl (fun ls hl => ?_)
            obtain ⟨v_82, ev_82⟩ : ∃ z : Int32, z = y4_176 + 1 := ⟨_, rfl⟩
            have q_83 : v_82.toInt = y4_176.toInt + 1 := by rw [ev_82]; exact (bn_addc y4_176 1 (by decide) (by omega) (by omega))
            refine lv_iinc (v := v_82) (lv' := [(4, .int v_82), (3, .int v_81), (0, .ref (h 0))]) hx hb dX12_one_213 hl (k := 2) rfl (by rw [ev_82]; rfl) (by decide) rfl (fun ls hl => ?_)
            refine lv_aload_n hx hb dX12_one_216 rfl (lv_at hl 2 rfl) ?_
            refine lv_dup hx hb dX12_one_217 rfl ?_
            refine sl_gM_0_13_12 (v := v_41) hx hb hts hown hK hP (show fp_176 0 13 = v_41 from ev_41.symm) dX12_one_218 ?_
            refine lv_iconst (v := 1) hx hb dX12_one_221 ic_1 ?_
            refine lv_iadd hx hb dX12_one_222 ?_
            refine lv_topi (fun v_84 ev_84 => ?_)
            have q_85 : v_84.toInt = v_41.toInt + 1 := by rw [ev_84]; first | exact cm_add ti_1 (by omega) (by omega) | (have k1 : (1 : Int32).toInt = 1 := ti_1; exact (bn_addI (by omega) (by omega)).trans (by omega))
            refine sl_pM_0_13_12 (x := v_84) hx hb hts hown hh hA hK hP hS dX12_one_223 (fun f_86 H locs ef_86 hP hS => ?_)
            have hI : sgI loM hiM f_86 := by rw [ef_86]; exact sgI.put hI 0 13 (show 0 ≤ (v_84 : Int32).toInt ∧ (v_84 : Int32).toInt ≤ 120 from ⟨by omega, by omega⟩)
            have hF : sgK WkX12_one_0 f f_86 := sgK.put hF ef_86 (by rfl)
            refine lv_goto (tgt := 176) hx hb dX12_one_226 (by decide) ?_
            exact ih_176 v_81 v_82 f_86 _ _ _ (hs.trans ((if_neg (Int.not_lt.mpr c_70)).trans (spl_e ev_71 (spl_e ev_80 (spl_e ev_81 (spl_e ev_82 (spl_e ev_84 (spl_e ef_86 rfl)))))))) (by omega) (by have zz0_15 : (f_86 0 15).toInt = v_38.toInt := (congrArg Int32.toInt (show f_86 0 15 = v_38 from (by rw [ef_86, sg_up_s, sgu_n (by decide)]; exact ev_38.symm))); exact ⟨by omega, by omega⟩) ⟨by omega, by omega⟩ (by have zz0_13 : (f_86 0 13).toInt = v_84.toInt := (congrArg Int32.toInt (show f_86 0 13 = v_84 from (by rw [ef_86, sg_up_s, sgu_s]))); omega) (by have zz0_16 : (f_86 0 16).toInt = v_44.toInt := (congrArg Int32.toInt (show f_86 0 16 = v_44 from (by rw [ef_86, sg_up_s, sgu_n (by decide)]; exact ev_44.symm))); omega) (by have zz0_15 : (f_86 0 15).toInt = v_38.toInt := (congrArg Int32.toInt (show f_86 0 15 = v_38 from (by rw [ef_86, sg_up_s, sgu_n (by decide)]; exact ev_38.symm))); have zz0_16 : (f_86 0 16).toInt = v_44.toInt := (congrArg Int32.toInt (show f_86 0 16 = v_44 from (by rw [ef_86, sg_up_s, sgu_n (by decide)]; exact ev_44.symm))); omega) hI hF hP hS (lv_sub hl [2, 1, 0] rfl)
  refine lv_aload_n hx hb dX12_one_0 rfl (lv_at hl 0 rfl) ?_
  refine sl_gM_0_15_12 (v := v_3) hx hb hts hown hK hP (show f 0 15 = v_3 from ev_3.symm) dX12_one_1 ?_
  refine lv_if_lt (tgt := 9) hx hb dX12_one_4 (by decide) (fun c => ?_) (fun c => ?_)
  · skip
    have c_87 : v_3.toInt < 0 := (by first | exact (cm_lt1 ti_0 c) | (have z := bn_lt c; have k1 : (0 : Int32).toInt = 0 := ti_0; omega))
    refine lv_aload_n hx hb dX12_one_9 rfl (lv_at hl 0 rfl) ?_
    have q_89 : (f 0 13).toInt = v_5.toInt := (congrArg Int32.toInt (show f 0 13 = v_5 from ev_5.symm))
    obtain ⟨v_90, ev_90⟩ : ∃ z : Int32, z = f 0 14 := ⟨_, rfl⟩
    have q_91 : 0 ≤ v_90.toInt ∧ v_90.toInt ≤ 120 := by rw [ev_90]; exact hI 0 14
    have q_92 : (f 0 14).toInt = v_90.toInt := (congrArg Int32.toInt (show f 0 14 = v_90 from ev_90.symm))
    refine sg_calli (va_runV (As := []) (rest := []) ⟨hx, hb, hml, hown, hts⟩ (kX12_byteAt l D ca za h hh f L Q hI H.size) (sl_c12_byteAt_0_0_0_0_12 hts ⟨Nat.le_of_ble_eq_true rfl, Nat.le_of_ble_eq_true rfl⟩) (sl_vM_0 hA hK hP hS hZ) rfl rfl hl.1 rfl (lv_room (Nat.le_of_ble_eq_true rfl)) dX12_one_10 ⟨Nat.le_refl _, Nat.le_refl _⟩) hA hS (fun r_96 f_93 L_94 Q_95 H locs hq hP hS => ?_)
    obtain ⟨⟨ef9, eL9, eQ9⟩, hq, p_97, u_98⟩ := hq
    replace hs := hs.trans ((if_pos c_87).trans (spl_e ev_90 (spl_e u_98 rfl)))
    rw [ef9, eL9, eQ9] at hP; clear ef9 eL9 eQ9
    refine lv_istore_n (lv' := [(1, .int r_96), (0, .ref (h 0))]) hx hb dX12_one_13 rfl hl (by decide) rfl (fun ls hl => ?_)
    refine lv_iload_n hx hb dX12_one_14 rfl (lv_at hl 0 rfl) ?_
    refine lv_bipush (v := 33) hx hb dX12_one_15 bp_33 ?_
    refine lv_icmp_eq (tgt := 32) hx hb dX12_one_17 (by decide) (fun c => ?_) (fun c => ?_)
    · skip
      have c_99 : r_96.toInt = 33 := (by first | exact (cm_eq1 ti_33 c) | (have z := Int32.toInt_inj.mpr c; have k1 : (33 : Int32).toInt = 33 := ti_33; omega))
      refine lv_aload_n hx hb dX12_one_32 rfl (lv_at hl 1 rfl) ?_
      have c_101 : v_1 = 0 := Int32.toInt_inj.mp (by have k9 : (0 : Int32).toInt = 0 := ti_0; omega)
      refine sl_gM_0_16_12 (v := 0) hx hb hts hown hK hP (show f 0 16 = 0 from (Eq.trans ev_1.symm c_101)) dX12_one_33 ?_
      refine lv_bipush (v := 6) hx hb dX12_one_36 bp_6 ?_
      refine lv_icmp_ne (tgt := 46) hx hb dX12_one_38 (by decide) (fun c => ?_) (fun c => absurd c (by decide))
      refine lv_aload_n hx hb dX12_one_46 rfl (lv_at hl 1 rfl) ?_
      refine lv_dup hx hb dX12_one_47 rfl ?_
      refine sl_gM_0_16_12 (v := 0) hx hb hts hown hK hP (show f 0 16 = 0 from (Eq.trans ev_1.symm c_101)) dX12_one_48 ?_
      refine lv_iconst (v := 1) hx hb dX12_one_51 ic_1 ?_
      refine lv_iadd hx hb dX12_one_52 ?_
      refine W.eq (g2 := F0 m 53 ls [.int 1, .ref (h 0)]) (by rw [show (0 + 1 : Int32) = 1 from by decide]) ?_
      refine sl_pM_0_16_12 (x := 1) hx hb hts hown hh hA hK hP hS dX12_one_53 (fun f_102 H locs ef_102 hP hS => ?_)
      have hI : sgI loM hiM f_102 := by rw [ef_102]; exact sgI.put hI 0 16 (show 0 ≤ (1 : Int32).toInt ∧ (1 : Int32).toInt ≤ 6 from by decide)
      have hF : sgK WkX12_one_0 f f_102 := sgK.put hF ef_102 (by rfl)
      refine lv_aload_n hx hb dX12_one_56 rfl (lv_at hl 1 rfl) ?_
      refine lv_dup hx hb dX12_one_57 rfl ?_
      refine sl_gM_0_13_12 (v := v_5) hx hb hts hown hK hP (show f_102 0 13 = v_5 from (by rw [ef_102, sg_up_s, sgu_n (by decide)]; exact ev_5.symm)) dX12_one_58 ?_
      refine lv_iconst (v := 1) hx hb dX12_one_61 ic_1 ?_
      refine lv_iadd hx hb dX12_one_62 ?_
      refine lv_topi (fun v_103 ev_103 => ?_)
      have q_104 : v_103.toInt = v_5.toInt + 1 := by rw [ev_103]; first | exact cm_add ti_1 (by omega) (by omega) | (have k1 : (1 : Int32).toInt = 1 := ti_1; exact (bn_addI (by omega) (by omega)).trans (by omega))
      refine sl_pM_0_13_12 (x := v_103) hx hb hts hown hh hA hK hP hS dX12_one_63 (fun f_105 H locs ef_105 hP hS => ?_)
      have hI : sgI loM hiM f_105 := by rw [ef_105]; exact sgI.put hI 0 13 (show 0 ≤ (v_103 : Int32).toInt ∧ (v_103 : Int32).toInt ≤ 120 from ⟨by omega, by omega⟩)
      have hF : sgK WkX12_one_0 f f_105 := sgK.put hF ef_105 (by rfl)
      refine lv_iload_n hx hb dX12_one_66 rfl (lv_at hl 0 rfl) ?_
      refine lv_bipush (v := 40) hx hb dX12_one_67 bp_40 ?_
      refine lv_icmp_ne (tgt := 79) hx hb dX12_one_69 (by decide) (fun c => ?_) (fun c => ?_)
      · skip
        have c_106 : r_96.toInt ≠ 40 := (by first | exact (cm_ne1 ti_40 c) | (have z := bn_ne c; have k1 : (40 : Int32).toInt = 40 := ti_40; omega))
        refine lv_aload_n hx hb dX12_one_79 rfl (lv_at hl 1 rfl) ?_
        have q_108 : (f_105 0 16).toInt = 1 := (congrArg Int32.toInt (show f_105 0 16 = 1 from (by rw [ef_105, sg_up_s, sgu_n (by decide)]; exact (by rw [ef_102, sg_up_s, sgu_s])))).trans (by decide)
        have q_109 : (f_105 0 15).toInt = v_3.toInt := (congrArg Int32.toInt (show f_105 0 15 = v_3 from (by rw [ef_105, sg_up_s, sgu_n (by decide)]; exact (by rw [ef_102, sg_up_s, sgu_n (by decide)]; exact ev_3.symm))))
        have q_111 : (f_105 0 13).toInt = v_103.toInt := (congrArg Int32.toInt (show f_105 0 13 = v_103 from (by rw [ef_105, sg_up_s, sgu_s])))
        refine sg_calli (va_runV (As := []) (rest := []) ⟨hx, hb, hml, hown, hts⟩ (kX12_one_1 l D ca za h hh f_105 L Q hI (by omega) (by omega) H.size) (sl_c12_one_31_0_0_705_12 hts ⟨Nat.le_of_ble_eq_true rfl, Nat.le_of_ble_eq_true rfl⟩) (sl_vM_0 hA hK hP hS hZ) rfl rfl hl.1 rfl (lv_room (Nat.le_of_ble_eq_true rfl)) dX12_one_80 ⟨Nat.le_refl _, Nat.le_refl _⟩) hA hS (fun r_115 f_112 L_113 Q_114 H locs hq hP hS => ?_)
        obtain ⟨⟨hI, hk_f_112, eL9, eQ9⟩, hq, p_116, p_117, p_118, u_119⟩ := hq
        rw [eL9, eQ9] at hP; clear eL9 eQ9
        have hF : sgK WkX12_one_0 f f_112 := sgK.tr hF hk_f_112 (by decide +kernel)
        obtain ⟨v_120, ev_120⟩ : ∃ z : Int32, z = f_112 0 13 := ⟨_, rfl⟩
        have q_121 : 0 ≤ v_120.toInt ∧ v_120.toInt ≤ 120 := by rw [ev_120]; exact hI 0 13
        have q_122 : (f_112 0 13).toInt = v_120.toInt := (congrArg Int32.toInt (show f_112 0 13 = v_120 from ev_120.symm))
        obtain ⟨v_123, ev_123⟩ : ∃ z : Int32, z = f_112 0 16 := ⟨_, rfl⟩
        have q_124 : 0 ≤ v_123.toInt ∧ v_123.toInt ≤ 6 := by rw [ev_123]; exact hI 0 16
        have q_125 : (f_112 0 16).toInt = v_123.toInt := (congrArg Int32.toInt (show f_112 0 16 = v_123 from ev_123.symm))
        obtain ⟨v_126, ev_126⟩ : ∃ z : Int32, z = f_112 0 15 := ⟨_, rfl⟩
        have q_127 : (-1) ≤ v_126.toInt ∧ v_126.toInt ≤ 120 := by rw [ev_126]; exact hI 0 15
        have q_128 : (f_112 0 15).toInt = v_126.toInt := (congrArg Int32.toInt (show f_112 0 15 = v_126 from ev_126.symm))
        refine lv_istore_n (lv' := [(2, .int r_115), (1, .int r_96), (0, .ref (h 0))]) hx hb dX12_one_83 rfl hl (by decide) rfl (fun ls hl => ?_)
        refine lv_iload_n hx hb dX12_one_84 rfl (lv_at hl 1 rfl) ?_
        refine lv_bipush (v := 40) hx hb dX12_one_85 bp_40 ?_
        refine lv_icmp_ne (tgt := 104) hx hb dX12_one_87 (by decide) (fun c => ?_) (fun c => ?_)
        · skip
          have c_130 : r_96.toInt ≠ 40 := (by first | exact (cm_ne1 ti_40 c) | (have z := bn_ne c; have k1 : (40 : Int32).toInt = 40 := ti_40; omega))
          refine lv_aload_n hx hb dX12_one_104 rfl (lv_at hl 2 rfl) ?_
          refine lv_dup hx hb dX12_one_105 rfl ?_
          refine sl_gM_0_16_12 (v := v_123) hx hb hts hown hK hP (show f_112 0 16 = v_123 from ev_123.symm) dX12_one_106 ?_
          refine lv_iconst (v := 1) hx hb dX12_one_109 ic_1 ?_
          refine lv_isub hx hb dX12_one_110 ?_
          refine lv_topi (fun v_132 ev_132 => ?_)
          have q_133 : v_132.toInt = v_123.toInt - 1 := by rw [ev_132]; first | exact cm_sub ti_1 (by omega) (by omega) | (have k1 : (1 : Int32).toInt = 1 := ti_1; exact (bn_subI (by omega) (by omega)).trans (by omega))
          refine sl_pM_0_16_12 (x := v_132) hx hb hts hown hh hA hK hP hS dX12_one_111 (fun f_134 H locs ef_134 hP hS => ?_)
          replace hs := hs.trans ((if_pos c_99).trans (spl_e ef_102 (spl_e ev_103 (spl_e ef_105 (spl2_e u_119 (spl_e ev_120 (spl_e ev_123 (spl_e ev_126 (spl_e ev_132 (spl_e ef_134 rfl))))))))))
          have hI : sgI loM hiM f_134 := by rw [ef_134]; exact sgI.put hI 0 16 (show 0 ≤ (v_132 : Int32).toInt ∧ (v_132 : Int32).toInt ≤ 6 from ⟨by omega, by omega⟩)
          have hF : sgK WkX12_one_0 f f_134 := sgK.put hF ef_134 (by rfl)
          refine lv_iload_n hx hb dX12_one_114 rfl (lv_at hl 1 rfl) ?_
          refine lv_bipush (v := 40) hx hb dX12_one_115 bp_40 ?_
          refine lv_icmp_ne (tgt := 124) hx hb dX12_one_117 (by decide) (fun c => ?_) (fun c => ?_)
          · skip
            have c_135 : r_96.toInt ≠ 40 := (by first | exact (cm_ne1 ti_40 c) | (have z := bn_ne c; have k1 : (40 : Int32).toInt = 40 := ti_40; omega))
            refine lv_iload_n hx hb dX12_one_124 rfl (lv_at hl 1 rfl) ?_
            refine lv_bipush (v := 45) hx hb dX12_one_125 bp_45 ?_
            refine lv_icmp_ne (tgt := 135) hx hb dX12_one_127 (by decide) (fun c => ?_) (fun c => ?_)
            · skip
              have c_137 : r_96.toInt ≠ 45 := (by first | exact (cm_ne1 ti_45 c) | (have z := bn_ne c; have k1 : (45 : Int32).toInt = 45 := ti_45; omega))
              refine lv_iload_n hx hb dX12_one_135 rfl (lv_at hl 0 rfl) ?_
              refine lv_if_ne (tgt := 143) hx hb dX12_one_136 (by decide) (fun c => ?_) (fun c => ?_)
              · skip
                have c_139 : r_115.toInt ≠ 0 := (by first | exact (cm_ne1 ti_0 c) | (have z := bn_ne c; have k1 : (0 : Int32).toInt = 0 := ti_0; omega))
                refine lv_iconst (v := 0) hx hb dX12_one_143 ic_0 ?_
                have q_141 : (f_134 0 13).toInt = v_120.toInt := (congrArg Int32.toInt (show f_134 0 13 = v_120 from (by rw [ef_134, sg_up_s, sgu_n (by decide)]; exact ev_120.symm)))
                have q_142 : (f_134 0 16).toInt = v_132.toInt := (congrArg Int32.toInt (show f_134 0 16 = v_132 from (by rw [ef_134, sg_up_s, sgu_s])))
                have q_143 : (f_134 0 15).toInt = v_126.toInt := (congrArg Int32.toInt (show f_134 0 15 = v_126 from (by rw [ef_134, sg_up_s, sgu_n (by decide)]; exact ev_126.symm)))
                have k99 : (0 : Int32).toInt = 0 := ti_0
                exact hret _ _ _ _ (0) f_134 L Q dX12_one_144 hP hS ⟨⟨hI, hF, rfl, rfl⟩, trivial, (by omega), (by omega), (by omega), (Eq.trans (Eq.symm (hs.trans ((if_neg c_139).trans rfl))) hsp)⟩
              · skip
                have c_140 : r_115.toInt = 0 := (by first | exact (cm_eq1 ti_0 c) | (have z := Int32.toInt_inj.mpr c; have k1 : (0 : Int32).toInt = 0 := ti_0; omega))
                refine lv_iconst (v := 1) hx hb dX12_one_139 ic_1 ?_
                refine lv_goto (tgt := 144) hx hb dX12_one_140 (by decide) ?_
                have q_145 : (f_134 0 13).toInt = v_120.toInt := (congrArg Int32.toInt (show f_134 0 13 = v_120 from (by rw [ef_134, sg_up_s, sgu_n (by decide)]; exact ev_120.symm)))
                have q_146 : (f_134 0 16).toInt = v_132.toInt := (congrArg Int32.toInt (show f_134 0 16 = v_132 from (by rw [ef_134, sg_up_s, sgu_s])))
                have q_147 : (f_134 0 15).toInt = v_126.toInt := (congrArg Int32.toInt (show f_134 0 15 = v_126 from (by rw [ef_134, sg_up_s, sgu_n (by decide)]; exact ev_126.symm)))
                have k99 : (1 : Int32).toInt = 1 := ti_1
                exact hret _ _ _ _ (1) f_134 L Q dX12_one_144 hP hS ⟨⟨hI, hF, rfl, rfl⟩, trivial, (by omega), (by omega), (by omega), (Eq.trans (Eq.symm (hs.trans ((if_pos c_140).trans rfl))) hsp)⟩
            · skip
              exfalso; have c_138 : r_96.toInt = 45 := (by first | exact (cm_eq1 ti_45 c) | (have z := Int32.toInt_inj.mpr c; have k1 : (45 : Int32).toInt = 45 := ti_45; omega)); first | exact absurd c_138 (by assumption) | omega
          · skip
            exfalso; have c_136 : r_96.toInt = 40 := (by first | exact (cm_eq1 ti_40 c) | (have z := Int32.toInt_inj.mpr c; have k1 : (40 : Int32).toInt = 40 := ti_40; omega)); first | exact absurd c_136 (by assumption) | omega
        · skip
          exfalso; have c_131 : r_96.toInt = 40 := (by first | exact (cm_eq1 ti_40 c) | (have z := Int32.toInt_inj.mpr c; have k1 : (40 : Int32).toInt = 40 := ti_40; omega)); first | exact absurd c_131 (by assumption) | omega
      · skip
        exfalso; have c_107 : r_96.toInt = 40 := (by first | exact (cm_eq1 ti_40 c) | (have z := Int32.toInt_inj.mpr c; have k1 : (40 : Int32).toInt = 40 := ti_40; omega)); first | exact absurd c_107 (by assumption) | omega
    · skip
      have c_100 : r_96.toInt ≠ 33 := (by first | exact (cm_ne1 ti_33 c) | (have z := bn_ne c; have k1 : (33 : Int32).toInt = 33 := ti_33; omega))
      replace hs := hs.trans ((if_neg c_100).trans rfl)
      refine lv_iload_n hx hb dX12_one_20 rfl (lv_at hl 0 rfl) ?_
      refine lv_bipush (v := 45) hx hb dX12_one_21 bp_45 ?_
      refine lv_icmp_eq (tgt := 32) hx hb dX12_one_23 (by decide) (fun c => ?_) (fun c => ?_)
      · skip
        have c_149 : r_96.toInt = 45 := (by first | exact (cm_eq1 ti_45 c) | (have z := Int32.toInt_inj.mpr c; have k1 : (45 : Int32).toInt = 45 := ti_45; omega))
        refine lv_aload_n hx hb dX12_one_32 rfl (lv_at hl 1 rfl) ?_
        have c_151 : v_1 = 0 := Int32.toInt_inj.mp (by have k9 : (0 : Int32).toInt = 0 := ti_0; omega)
        refine sl_gM_0_16_12 (v := 0) hx hb hts hown hK hP (show f 0 16 = 0 from (Eq.trans ev_1.symm c_151)) dX12_one_33 ?_
        refine lv_bipush (v := 6) hx hb dX12_one_36 bp_6 ?_
        refine lv_icmp_ne (tgt := 46) hx hb dX12_one_38 (by decide) (fun c => ?_) (fun c => absurd c (by decide))
        refine lv_aload_n hx hb dX12_one_46 rfl (lv_at hl 1 rfl) ?_
        refine lv_dup hx hb dX12_one_47 rfl ?_
        refine sl_gM_0_16_12 (v := 0) hx hb hts hown hK hP (show f 0 16 = 0 from (Eq.trans ev_1.symm c_151)) dX12_one_48 ?_
        refine lv_iconst (v := 1) hx hb dX12_one_51 ic_1 ?_
        refine lv_iadd hx hb dX12_one_52 ?_
        refine W.eq (g2 := F0 m 53 ls [.int 1, .ref (h 0)]) (by rw [show (0 + 1 : Int32) = 1 from by decide]) ?_
        refine sl_pM_0_16_12 (x := 1) hx hb hts hown hh hA hK hP hS dX12_one_53 (fun f_152 H locs ef_152 hP hS => ?_)
        have hI : sgI loM hiM f_152 := by rw [ef_152]; exact sgI.put hI 0 16 (show 0 ≤ (1 : Int32).toInt ∧ (1 : Int32).toInt ≤ 6 from by decide)
        have hF : sgK WkX12_one_0 f f_152 := sgK.put hF ef_152 (by rfl)
        refine lv_aload_n hx hb dX12_one_56 rfl (lv_at hl 1 rfl) ?_
        refine lv_dup hx hb dX12_one_57 rfl ?_
        refine sl_gM_0_13_12 (v := v_5) hx hb hts hown hK hP (show f_152 0 13 = v_5 from (by rw [ef_152, sg_up_s, sgu_n (by decide)]; exact ev_5.symm)) dX12_one_58 ?_
        refine lv_iconst (v := 1) hx hb dX12_one_61 ic_1 ?_
        refine lv_iadd hx hb dX12_one_62 ?_
        refine lv_topi (fun v_153 ev_153 => ?_)
        have q_154 : v_153.toInt = v_5.toInt + 1 := by rw [ev_153]; first | exact cm_add ti_1 (by omega) (by omega) | (have k1 : (1 : Int32).toInt = 1 := ti_1; exact (bn_addI (by omega) (by omega)).trans (by omega))
        refine sl_pM_0_13_12 (x := v_153) hx hb hts hown hh hA hK hP hS dX12_one_63 (fun f_155 H locs ef_155 hP hS => ?_)
        have hI : sgI loM hiM f_155 := by rw [ef_155]; exact sgI.put hI 0 13 (show 0 ≤ (v_153 : Int32).toInt ∧ (v_153 : Int32).toInt ≤ 120 from ⟨by omega, by omega⟩)
        have hF : sgK WkX12_one_0 f f_155 := sgK.put hF ef_155 (by rfl)
        refine lv_iload_n hx hb dX12_one_66 rfl (lv_at hl 0 rfl) ?_
        refine lv_bipush (v := 40) hx hb dX12_one_67 bp_40 ?_
        refine lv_icmp_ne (tgt := 79) hx hb dX12_one_69 (by decide) (fun c => ?_) (fun c => ?_)
        · skip
          have c_156 : r_96.toInt ≠ 40 := (by first | exact (cm_ne1 ti_40 c) | (have z := bn_ne c; have k1 : (40 : Int32).toInt = 40 := ti_40; omega))
          refine lv_aload_n hx hb dX12_one_79 rfl (lv_at hl 1 rfl) ?_
          have q_158 : (f_155 0 16).toInt = 1 := (congrArg Int32.toInt (show f_155 0 16 = 1 from (by rw [ef_155, sg_up_s, sgu_n (by decide)]; exact (by rw [ef_152, sg_up_s, sgu_s])))).trans (by decide)
          have q_159 : (f_155 0 15).toInt = v_3.toInt := (congrArg Int32.toInt (show f_155 0 15 = v_3 from (by rw [ef_155, sg_up_s, sgu_n (by decide)]; exact (by rw [ef_152, sg_up_s, sgu_n (by decide)]; exact ev_3.symm))))
          have q_161 : (f_155 0 13).toInt = v_153.toInt := (congrArg Int32.toInt (show f_155 0 13 = v_153 from (by rw [ef_155, sg_up_s, sgu_s])))
          refine sg_calli (va_runV (As := []) (rest := []) ⟨hx, hb, hml, hown, hts⟩ (kX12_one_1 l D ca za h hh f_155 L Q hI (by omega) (by omega) H.size) (sl_c12_one_31_0_0_705_12 hts ⟨Nat.le_of_ble_eq_true rfl, Nat.le_of_ble_eq_true rfl⟩) (sl_vM_0 hA hK hP hS hZ) rfl rfl hl.1 rfl (lv_room (Nat.le_of_ble_eq_true rfl)) dX12_one_80 ⟨Nat.le_refl _, Nat.le_refl _⟩) hA hS (fun r_165 f_162 L_163 Q_164 H locs hq hP hS => ?_)
          obtain ⟨⟨hI, hk_f_162, eL9, eQ9⟩, hq, p_166, p_167, p_168, u_169⟩ := hq
          rw [eL9, eQ9] at hP; clear eL9 eQ9
          have hF : sgK WkX12_one_0 f f_162 := sgK.tr hF hk_f_162 (by decide +kernel)
          obtain ⟨v_170, ev_170⟩ : ∃ z : Int32, z = f_162 0 13 := ⟨_, rfl⟩
          have q_171 : 0 ≤ v_170.toInt ∧ v_170.toInt ≤ 120 := by rw [ev_170]; exact hI 0 13
          have q_172 : (f_162 0 13).toInt = v_170.toInt := (congrArg Int32.toInt (show f_162 0 13 = v_170 from ev_170.symm))
          obtain ⟨v_173, ev_173⟩ : ∃ z : Int32, z = f_162 0 16 := ⟨_, rfl⟩
          have q_174 : 0 ≤ v_173.toInt ∧ v_173.toInt ≤ 6 := by rw [ev_173]; exact hI 0 16
          have q_175 : (f_162 0 16).toInt = v_173.toInt := (congrArg Int32.toInt (show f_162 0 16 = v_173 from ev_173.symm))
          obtain ⟨v_176, ev_176⟩ : ∃ z : Int32, z = f_162 0 15 := ⟨_, rfl⟩
          have q_177 : (-1) ≤ v_176.toInt ∧ v_176.toInt ≤ 120 := by rw [ev_176]; exact hI 0 15
          have q_178 : (f_162 0 15).toInt = v_176.toInt := (congrArg Int32.toInt (show f_162 0 15 = v_176 from ev_176.symm))
          refine lv_istore_n (lv' := [(2, .int r_165), (1, .int r_96), (0, .ref (h 0))]) hx hb dX12_one_83 rfl hl (by decide) rfl (fun ls hl => ?_)
          refine lv_iload_n hx hb dX12_one_84 rfl (lv_at hl 1 rfl) ?_
          refine lv_bipush (v := 40) hx hb dX12_one_85 bp_40 ?_
          refine lv_icmp_ne (tgt := 104) hx hb dX12_one_87 (by decide) (fun c => ?_) (fun c => ?_)
          · skip
            have c_180 : r_96.toInt ≠ 40 := (by first | exact (cm_ne1 ti_40 c) | (have z := bn_ne c; have k1 : (40 : Int32).toInt = 40 := ti_40; omega))
            refine lv_aload_n hx hb dX12_one_104 rfl (lv_at hl 2 rfl) ?_
            refine lv_dup hx hb dX12_one_105 rfl ?_
            refine sl_gM_0_16_12 (v := v_173) hx hb hts hown hK hP (show f_162 0 16 = v_173 from ev_173.symm) dX12_one_106 ?_
            refine lv_iconst (v := 1) hx hb dX12_one_109 ic_1 ?_
            refine lv_isub hx hb dX12_one_110 ?_
            refine lv_topi (fun v_182 ev_182 => ?_)
            have q_183 : v_182.toInt = v_173.toInt - 1 := by rw [ev_182]; first | exact cm_sub ti_1 (by omega) (by omega) | (have k1 : (1 : Int32).toInt = 1 := ti_1; exact (bn_subI (by omega) (by omega)).trans (by omega))
            refine sl_pM_0_16_12 (x := v_182) hx hb hts hown hh hA hK hP hS dX12_one_111 (fun f_184 H locs ef_184 hP hS => ?_)
            have hI : sgI loM hiM f_184 := by rw [ef_184]; exact sgI.put hI 0 16 (show 0 ≤ (v_182 : Int32).toInt ∧ (v_182 : Int32).toInt ≤ 6 from ⟨by omega, by omega⟩)
            have hF : sgK WkX12_one_0 f f_184 := sgK.put hF ef_184 (by rfl)
            refine lv_iload_n hx hb dX12_one_114 rfl (lv_at hl 1 rfl) ?_
            refine lv_bipush (v := 40) hx hb dX12_one_115 bp_40 ?_
            refine lv_icmp_ne (tgt := 124) hx hb dX12_one_117 (by decide) (fun c => ?_) (fun c => ?_)
            · skip
              have c_185 : r_96.toInt ≠ 40 := (by first | exact (cm_ne1 ti_40 c) | (have z := bn_ne c; have k1 : (40 : Int32).toInt = 40 := ti_40; omega))
              refine lv_iload_n hx hb dX12_one_124 rfl (lv_at hl 1 rfl) ?_
              refine lv_bipush (v := 45) hx hb dX12_one_125 bp_45 ?_
              refine lv_icmp_ne (tgt := 135) hx hb dX12_one_127 (by decide) (fun c => ?_) (fun c => ?_)
              · skip
                exfalso; have c_187 : r_96.toInt ≠ 45 := (by first | exact (cm_ne1 ti_45 c) | (have z := bn_ne c; have k1 : (45 : Int32).toInt = 45 := ti_45; omega)); first | exact absurd (by assumption) c_187 | omega
              · skip
                have c_188 : r_96.toInt = 45 := (by first | exact (cm_eq1 ti_45 c) | (have z := Int32.toInt_inj.mpr c; have k1 : (45 : Int32).toInt = 45 := ti_45; omega))
                refine lv_iload_n hx hb dX12_one_130 rfl (lv_at hl 0 rfl) ?_
                refine lv_ineg hx hb dX12_one_131 ?_
                refine lv_topi (fun v_189 ev_189 => ?_)
                refine lv_goto (tgt := 144) hx hb dX12_one_132 (by decide) ?_
                have q_190 : (f_184 0 13).toInt = v_170.toInt := (congrArg Int32.toInt (show f_184 0 13 = v_170 from (by rw [ef_184, sg_up_s, sgu_n (by decide)]; exact ev_170.symm)))
                have q_191 : (f_184 0 16).toInt = v_182.toInt := (congrArg Int32.toInt (show f_184 0 16 = v_182 from (by rw [ef_184, sg_up_s, sgu_s])))
                have q_192 : (f_184 0 15).toInt = v_176.toInt := (congrArg Int32.toInt (show f_184 0 15 = v_176 from (by rw [ef_184, sg_up_s, sgu_n (by decide)]; exact ev_176.symm)))
                exact hret _ _ _ _ (v_189) f_184 L Q dX12_one_144 hP hS ⟨⟨hI, hF, rfl, rfl⟩, trivial, (by omega), (by omega), (by omega), (Eq.trans (Eq.symm (hs.trans ((if_pos c_149).trans (spl_e ef_152 (spl_e ev_153 (spl_e ef_155 (spl2_e u_169 (spl_e ev_170 (spl_e ev_173 (spl_e ev_176 (spl_e ev_182 (spl_e ef_184 (spl_e ev_189 rfl))))))))))))) hsp)⟩
            · skip
              exfalso; have c_186 : r_96.toInt = 40 := (by first | exact (cm_eq1 ti_40 c) | (have z := Int32.toInt_inj.mpr c; have k1 : (40 : Int32).toInt = 40 := ti_40; omega)); first | exact absurd c_186 (by assumption) | omega
          · skip
            exfalso; have c_181 : r_96.toInt = 40 := (by first | exact (cm_eq1 ti_40 c) | (have z := Int32.toInt_inj.mpr c; have k1 : (40 : Int32).toInt = 40 := ti_40; omega)); first | exact absurd c_181 (by assumption) | omega
        · skip
          exfalso; have c_157 : r_96.toInt = 40 := (by first | exact (cm_eq1 ti_40 c) | (have z := Int32.toInt_inj.mpr c; have k1 : (40 : Int32).toInt = 40 := ti_40; omega)); first | exact absurd c_157 (by assumption) | omega
      · skip
        have c_150 : r_96.toInt ≠ 45 := (by first | exact (cm_ne1 ti_45 c) | (have z := bn_ne c; have k1 : (45 : Int32).toInt = 45 := ti_45; omega))
        replace hs := hs.trans ((if_neg c_150).trans rfl)
        refine lv_iload_n hx hb dX12_one_26 rfl (lv_at hl 0 rfl) ?_
        refine lv_bipush (v := 40) hx hb dX12_one_27 bp_40 ?_
        refine lv_icmp_ne (tgt := 145) hx hb dX12_one_29 (by decide) (fun c => ?_) (fun c => ?_)
        · skip
          have c_194 : r_96.toInt ≠ 40 := (by first | exact (cm_ne1 ti_40 c) | (have z := bn_ne c; have k1 : (40 : Int32).toInt = 40 := ti_40; omega))
          refine lv_iload_n hx hb dX12_one_145 rfl (lv_at hl 0 rfl) ?_
          refine sg_calli (va_runS (As := [.int r_96]) (rest := []) ⟨hx, hb, hml, hown, hts⟩ (kX12_nameOf l D ca za h hh f L Q hI r_96 ⟨by omega, by omega⟩ H.size) (va_cwS 1 hts (gw_S (fun _ h => List.mem_cons_of_mem _ h) mw_869 mw_870 mw_619 mw_868) rfl rfl rfl hd_yX12_nameOf.2 ⟨Nat.le_of_ble_eq_true rfl, Nat.le_of_ble_eq_true rfl⟩) (sg_preS hA hK hP hS hZ) rfl rfl hl.1 rfl (lv_room (Nat.le_of_ble_eq_true rfl)) dX12_one_146 ⟨Nat.le_refl _, Nat.le_refl _⟩) hA hS (fun r_199 f_196 L_197 Q_198 H locs hq hP hS => ?_)
          obtain ⟨⟨ef9, eL9, eQ9⟩, hq, p_200, u_201⟩ := hq
          replace hs := hs.trans ((if_neg c_194).trans (spl_e u_201 rfl))
          rw [ef9, eL9, eQ9] at hP; clear ef9 eL9 eQ9
          refine lv_istore_n (lv' := [(2, .int r_199), (1, .int r_96), (0, .ref (h 0))]) hx hb dX12_one_149 rfl hl (by decide) rfl (fun ls hl => ?_)
          refine lv_iload_n hx hb dX12_one_150 rfl (lv_at hl 0 rfl) ?_
          refine lv_if_lt (tgt := 171) hx hb dX12_one_151 (by decide) (fun c => ?_) (fun c => ?_)
          · skip
            have c_202 : r_199.toInt < 0 := (by first | exact (cm_lt1 ti_0 c) | (have z := bn_lt c; have k1 : (0 : Int32).toInt = 0 := ti_0; omega))
            refine lv_iconst (v := 0) hx hb dX12_one_171 ic_0 ?_
            refine lv_istore_n (lv' := [(3, .int 0), (2, .int r_199), (1, .int r_96), (0, .ref (h 0))]) hx hb dX12_one_172 rfl hl (by decide) rfl (fun ls hl => ?_)
            refine lv_iconst (v := 0) hx hb dX12_one_173 ic_0 ?_
            refine lv_istore (lv' := [(4, .int 0), (3, .int 0), (2, .int r_199), (1, .int r_96), (0, .ref (h 0))]) hx hb dX12_one_174 hl (by decide) rfl (fun ls hl => ?_)
            exact loop_176 5 0 0 f _ _ _ (hs.trans ((if_pos c_202).trans rfl)) (by have kc0 : (0 : Int32).toInt = 0 := ti_0; have kc1 : (0 : Int32).toInt = 0 := ti_0; omega) (by have zz0_15 : (f 0 15).toInt = v_3.toInt := (congrArg Int32.toInt (show f 0 15 = v_3 from ev_3.symm)); exact ⟨by omega, by omega⟩) (by decide) (by have kc0 : (0 : Int32).toInt = 0 := ti_0; have kc1 : (0 : Int32).toInt = 0 := ti_0; have zz0_13 : (f 0 13).toInt = v_5.toInt := (congrArg Int32.toInt (show f 0 13 = v_5 from ev_5.symm)); omega) (by have kc0 : (0 : Int32).toInt = 0 := ti_0; have kc1 : (0 : Int32).toInt = 0 := ti_0; have zz0_16 : (f 0 16).toInt = v_1.toInt := (congrArg Int32.toInt (show f 0 16 = v_1 from ev_1.symm)); omega) (by have kc0 : (0 : Int32).toInt = 0 := ti_0; have kc1 : (0 : Int32).toInt = 0 := ti_0; have zz0_15 : (f 0 15).toInt = v_3.toInt := (congrArg Int32.toInt (show f 0 15 = v_3 from ev_3.symm)); have zz0_16 : (f 0 16).toInt = v_1.toInt := (congrArg Int32.toInt (show f 0 16 = v_1 from ev_1.symm)); omega) hI hF hP hS (lv_sub hl [4, 1, 0] rfl)
          · skip
            have c_203 : 0 ≤ r_199.toInt := (by first | exact (cm_nlt1 ti_0 c) | (have z := bn_nlt c; have k1 : (0 : Int32).toInt = 0 := ti_0; omega))
            refine lv_aload_n hx hb dX12_one_154 rfl (lv_at hl 2 rfl) ?_
            refine lv_dup hx hb dX12_one_155 rfl ?_
            refine sl_gM_0_13_12 (v := v_5) hx hb hts hown hK hP (show f 0 13 = v_5 from ev_5.symm) dX12_one_156 ?_
            refine lv_iconst (v := 1) hx hb dX12_one_159 ic_1 ?_
            refine lv_iadd hx hb dX12_one_160 ?_
            refine lv_topi (fun v_204 ev_204 => ?_)
            have q_205 : v_204.toInt = v_5.toInt + 1 := by rw [ev_204]; first | exact cm_add ti_1 (by omega) (by omega) | (have k1 : (1 : Int32).toInt = 1 := ti_1; exact (bn_addI (by omega) (by omega)).trans (by omega))
            refine sl_pM_0_13_12 (x := v_204) hx hb hts hown hh hA hK hP hS dX12_one_161 (fun f_206 H locs ef_206 hP hS => ?_)
            have hI : sgI loM hiM f_206 := by rw [ef_206]; exact sgI.put hI 0 13 (show 0 ≤ (v_204 : Int32).toInt ∧ (v_204 : Int32).toInt ≤ 120 from ⟨by omega, by omega⟩)
            have hF : sgK WkX12_one_0 f f_206 := sgK.put hF ef_206 (by rfl)
            refine lv_aload_n hx hb dX12_one_164 rfl (lv_at hl 2 rfl) ?_
            refine sl_gM_0_17_12 hx hb hts hown hK hP dX12_one_165 ?_
            refine lv_iload_n hx hb dX12_one_168 rfl (lv_at hl 0 rfl) ?_
            refine sg_iald hx hb hK hP 8 (by decide) 0 rfl rfl (i := r_199) (vp_in_iff.mpr ⟨by omega, by omega⟩) dX12_one_169 ?_
            refine lv_topi (fun v_207 ev_207 => ?_)
            have q_208 : 0 ≤ v_207.toInt ∧ v_207.toInt ≤ 60 := by rw [ev_207]; exact hI 8 _
            have q_209 : (f_206 0 13).toInt = v_204.toInt := (congrArg Int32.toInt (show f_206 0 13 = v_204 from (by rw [ef_206, sg_up_s, sgu_s])))
            have q_210 : (f_206 0 16).toInt = v_1.toInt := (congrArg Int32.toInt (show f_206 0 16 = v_1 from (by rw [ef_206, sg_up_s, sgu_n (by decide)]; exact ev_1.symm)))
            have q_211 : (f_206 0 15).toInt = v_3.toInt := (congrArg Int32.toInt (show f_206 0 15 = v_3 from (by rw [ef_206, sg_up_s, sgu_n (by decide)]; exact ev_3.symm)))
            exact hret _ _ _ _ (v_207) f_206 L Q dX12_one_170 hP hS ⟨⟨hI, hF, rfl, rfl⟩, trivial, (by omega), (by omega), (by omega), (Eq.trans (Eq.symm (hs.trans ((if_neg (Int.not_lt.mpr c_203)).trans (spl_e ev_204 (spl_e ef_206 (spl_e ev_207 rfl)))))) hsp)⟩
        · skip
          have c_195 : r_96.toInt = 40 := (by first | exact (cm_eq1 ti_40 c) | (have z := Int32.toInt_inj.mpr c; have k1 : (40 : Int32).toInt = 40 := ti_40; omega))
          refine lv_aload_n hx hb dX12_one_32 rfl (lv_at hl 1 rfl) ?_
          have c_213 : v_1 = 0 := Int32.toInt_inj.mp (by have k9 : (0 : Int32).toInt = 0 := ti_0; omega)
          refine sl_gM_0_16_12 (v := 0) hx hb hts hown hK hP (show f 0 16 = 0 from (Eq.trans ev_1.symm c_213)) dX12_one_33 ?_
          refine lv_bipush (v := 6) hx hb dX12_one_36 bp_6 ?_
          refine lv_icmp_ne (tgt := 46) hx hb dX12_one_38 (by decide) (fun c => ?_) (fun c => absurd c (by decide))
          refine lv_aload_n hx hb dX12_one_46 rfl (lv_at hl 1 rfl) ?_
          refine lv_dup hx hb dX12_one_47 rfl ?_
          refine sl_gM_0_16_12 (v := 0) hx hb hts hown hK hP (show f 0 16 = 0 from (Eq.trans ev_1.symm c_213)) dX12_one_48 ?_
          refine lv_iconst (v := 1) hx hb dX12_one_51 ic_1 ?_
          refine lv_iadd hx hb dX12_one_52 ?_
          refine W.eq (g2 := F0 m 53 ls [.int 1, .ref (h 0)]) (by rw [show (0 + 1 : Int32) = 1 from by decide]) ?_
          refine sl_pM_0_16_12 (x := 1) hx hb hts hown hh hA hK hP hS dX12_one_53 (fun f_214 H locs ef_214 hP hS => ?_)
          have hI : sgI loM hiM f_214 := by rw [ef_214]; exact sgI.put hI 0 16 (show 0 ≤ (1 : Int32).toInt ∧ (1 : Int32).toInt ≤ 6 from by decide)
          have hF : sgK WkX12_one_0 f f_214 := sgK.put hF ef_214 (by rfl)
          refine lv_aload_n hx hb dX12_one_56 rfl (lv_at hl 1 rfl) ?_
          refine lv_dup hx hb dX12_one_57 rfl ?_
          refine sl_gM_0_13_12 (v := v_5) hx hb hts hown hK hP (show f_214 0 13 = v_5 from (by rw [ef_214, sg_up_s, sgu_n (by decide)]; exact ev_5.symm)) dX12_one_58 ?_
          refine lv_iconst (v := 1) hx hb dX12_one_61 ic_1 ?_
          refine lv_iadd hx hb dX12_one_62 ?_
          refine lv_topi (fun v_215 ev_215 => ?_)
          have q_216 : v_215.toInt = v_5.toInt + 1 := by rw [ev_215]; first | exact cm_add ti_1 (by omega) (by omega) | (have k1 : (1 : Int32).toInt = 1 := ti_1; exact (bn_addI (by omega) (by omega)).trans (by omega))
          refine sl_pM_0_13_12 (x := v_215) hx hb hts hown hh hA hK hP hS dX12_one_63 (fun f_217 H locs ef_217 hP hS => ?_)
          have hI : sgI loM hiM f_217 := by rw [ef_217]; exact sgI.put hI 0 13 (show 0 ≤ (v_215 : Int32).toInt ∧ (v_215 : Int32).toInt ≤ 120 from ⟨by omega, by omega⟩)
          have hF : sgK WkX12_one_0 f f_217 := sgK.put hF ef_217 (by rfl)
          refine lv_iload_n hx hb dX12_one_66 rfl (lv_at hl 0 rfl) ?_
          refine lv_bipush (v := 40) hx hb dX12_one_67 bp_40 ?_
          refine lv_icmp_ne (tgt := 79) hx hb dX12_one_69 (by decide) (fun c => ?_) (fun c => ?_)
          · skip
            exfalso; have c_218 : r_96.toInt ≠ 40 := (by first | exact (cm_ne1 ti_40 c) | (have z := bn_ne c; have k1 : (40 : Int32).toInt = 40 := ti_40; omega)); first | exact absurd (by assumption) c_218 | omega
          · skip
            have c_219 : r_96.toInt = 40 := (by first | exact (cm_eq1 ti_40 c) | (have z := Int32.toInt_inj.mpr c; have k1 : (40 : Int32).toInt = 40 := ti_40; omega))
            refine lv_aload_n hx hb dX12_one_72 rfl (lv_at hl 1 rfl) ?_
            have q_220 : (f_217 0 16).toInt = 1 := (congrArg Int32.toInt (show f_217 0 16 = 1 from (by rw [ef_217, sg_up_s, sgu_n (by decide)]; exact (by rw [ef_214, sg_up_s, sgu_s])))).trans (by decide)
            have q_221 : (f_217 0 15).toInt = v_3.toInt := (congrArg Int32.toInt (show f_217 0 15 = v_3 from (by rw [ef_217, sg_up_s, sgu_n (by decide)]; exact (by rw [ef_214, sg_up_s, sgu_n (by decide)]; exact ev_3.symm))))
            have q_223 : (f_217 0 13).toInt = v_215.toInt := (congrArg Int32.toInt (show f_217 0 13 = v_215 from (by rw [ef_217, sg_up_s, sgu_s])))
            refine sg_calli (va_runV (As := []) (rest := []) ⟨hx, hb, hml, hown, hts⟩ (kX12_either_1 l D ca za h hh f_217 L Q hI (by omega) (by omega) H.size) (sl_c12_either_36_0_0_820_12 hts ⟨Nat.le_of_ble_eq_true rfl, Nat.le_of_ble_eq_true rfl⟩) (sl_vM_0 hA hK hP hS hZ) rfl rfl hl.1 rfl (lv_room (Nat.le_of_ble_eq_true rfl)) dX12_one_73 ⟨Nat.le_refl _, Nat.le_refl _⟩) hA hS (fun r_227 f_224 L_225 Q_226 H locs hq hP hS => ?_)
            obtain ⟨⟨hI, hk_f_224, eL9, eQ9⟩, hq, p_228, p_229, p_230, u_231⟩ := hq
            rw [eL9, eQ9] at hP; clear eL9 eQ9
            have hF : sgK WkX12_one_0 f f_224 := sgK.tr hF hk_f_224 (by decide +kernel)
            obtain ⟨v_232, ev_232⟩ : ∃ z : Int32, z = f_224 0 13 := ⟨_, rfl⟩
            have q_233 : 0 ≤ v_232.toInt ∧ v_232.toInt ≤ 120 := by rw [ev_232]; exact hI 0 13
            have q_234 : (f_224 0 13).toInt = v_232.toInt := (congrArg Int32.toInt (show f_224 0 13 = v_232 from ev_232.symm))
            obtain ⟨v_235, ev_235⟩ : ∃ z : Int32, z = f_224 0 16 := ⟨_, rfl⟩
            have q_236 : 0 ≤ v_235.toInt ∧ v_235.toInt ≤ 6 := by rw [ev_235]; exact hI 0 16
            have q_237 : (f_224 0 16).toInt = v_235.toInt := (congrArg Int32.toInt (show f_224 0 16 = v_235 from ev_235.symm))
            obtain ⟨v_238, ev_238⟩ : ∃ z : Int32, z = f_224 0 15 := ⟨_, rfl⟩
            have q_239 : (-1) ≤ v_238.toInt ∧ v_238.toInt ≤ 120 := by rw [ev_238]; exact hI 0 15
            have q_240 : (f_224 0 15).toInt = v_238.toInt := (congrArg Int32.toInt (show f_224 0 15 = v_238 from ev_238.symm))
            refine lv_goto (tgt := 83) hx hb dX12_one_76 (by decide) ?_
            refine lv_istore_n (lv' := [(2, .int r_227), (1, .int r_96), (0, .ref (h 0))]) hx hb dX12_one_83 rfl hl (by decide) rfl (fun ls hl => ?_)
            refine lv_iload_n hx hb dX12_one_84 rfl (lv_at hl 1 rfl) ?_
            refine lv_bipush (v := 40) hx hb dX12_one_85 bp_40 ?_
            refine lv_icmp_ne (tgt := 104) hx hb dX12_one_87 (by decide) (fun c => ?_) (fun c => ?_)
            · skip
              exfalso; have c_242 : r_96.toInt ≠ 40 := (by first | exact (cm_ne1 ti_40 c) | (have z := bn_ne c; have k1 : (40 : Int32).toInt = 40 := ti_40; omega)); first | exact absurd (by assumption) c_242 | omega
            · skip
              have c_243 : r_96.toInt = 40 := (by first | exact (cm_eq1 ti_40 c) | (have z := Int32.toInt_inj.mpr c; have k1 : (40 : Int32).toInt = 40 := ti_40; omega))
              refine lv_aload_n hx hb dX12_one_90 rfl (lv_at hl 2 rfl) ?_
              refine lv_bipush (v := 41) hx hb dX12_one_91 bp_41 ?_
              have q_246 : (f_224 0 14).toInt = v_90.toInt := (congrArg Int32.toInt (show f_224 0 14 = v_90 from ((hk_f_224 0 14 (by decide)).trans (by rw [ef_217, sg_up_s, sgu_n (by decide)]; exact (by rw [ef_214, sg_up_s, sgu_n (by decide)]; exact ev_90.symm)))))
              refine sg_calli (va_runV (As := [.int 41]) (rest := []) ⟨hx, hb, hml, hown, hts⟩ (kX12_takes_41 l D ca za h hh f_224 L Q hI H.size) (sl_c12_takes_1_0_0_20_12 hts ⟨Nat.le_of_ble_eq_true rfl, Nat.le_of_ble_eq_true rfl⟩) (sl_vM_0 hA hK hP hS hZ) rfl rfl hl.1 rfl (lv_room (Nat.le_of_ble_eq_true rfl)) dX12_one_93 ⟨Nat.le_refl _, Nat.le_refl _⟩) hA hS (fun r_252 f_249 L_250 Q_251 H locs hq hP hS => ?_)
              obtain ⟨⟨hI, hk_f_249, eL9, eQ9⟩, hq, u_253⟩ := hq
              rw [eL9, eQ9] at hP; clear eL9 eQ9
              have hF : sgK WkX12_one_0 f f_249 := sgK.tr hF hk_f_249 (by decide +kernel)
              obtain ⟨v_254, ev_254⟩ : ∃ z : Int32, z = f_249 0 13 := ⟨_, rfl⟩
              replace hs := hs.trans ((if_pos c_195).trans (spl_e ef_214 (spl_e ev_215 (spl_e ef_217 (spl2_e u_231 (spl_e ev_232 (spl_e ev_235 (spl_e ev_238 (spl2_e u_253 (spl_e ev_254 rfl))))))))))
              have q_255 : 0 ≤ v_254.toInt ∧ v_254.toInt ≤ 120 := by rw [ev_254]; exact hI 0 13
              have q_256 : (f_249 0 13).toInt = v_254.toInt := (congrArg Int32.toInt (show f_249 0 13 = v_254 from ev_254.symm))
              have k_258 : (41 : Int32).toInt = 41 := by decide
              rcases hq with ⟨rfl, hq⟩ | ⟨rfl, hq⟩
              · skip
                have hc_259 := hq
                refine lv_if_ne (tgt := 104) hx hb dX12_one_96 (by decide) (fun c => ?_) (fun c => absurd c (by decide))
                refine lv_aload_n hx hb dX12_one_104 rfl (lv_at hl 2 rfl) ?_
                refine lv_dup hx hb dX12_one_105 rfl ?_
                refine sl_gM_0_16_12 (v := v_235) hx hb hts hown hK hP (show f_249 0 16 = v_235 from ((hk_f_249 0 16 (by decide)).trans ev_235.symm)) dX12_one_106 ?_
                refine lv_iconst (v := 1) hx hb dX12_one_109 ic_1 ?_
                refine lv_isub hx hb dX12_one_110 ?_
                refine lv_topi (fun v_260 ev_260 => ?_)
                have q_261 : v_260.toInt = v_235.toInt - 1 := by rw [ev_260]; first | exact cm_sub ti_1 (by omega) (by omega) | (have k1 : (1 : Int32).toInt = 1 := ti_1; exact (bn_subI (by omega) (by omega)).trans (by omega))
                refine sl_pM_0_16_12 (x := v_260) hx hb hts hown hh hA hK hP hS dX12_one_111 (fun f_262 H locs ef_262 hP hS => ?_)
                have hI : sgI loM hiM f_262 := by rw [ef_262]; exact sgI.put hI 0 16 (show 0 ≤ (v_260 : Int32).toInt ∧ (v_260 : Int32).toInt ≤ 6 from ⟨by omega, by omega⟩)
                have hF : sgK WkX12_one_0 f f_262 := sgK.put hF ef_262 (by rfl)
                refine lv_iload_n hx hb dX12_one_114 rfl (lv_at hl 1 rfl) ?_
                refine lv_bipush (v := 40) hx hb dX12_one_115 bp_40 ?_
                refine lv_icmp_ne (tgt := 124) hx hb dX12_one_117 (by decide) (fun c => ?_) (fun c => ?_)
                · skip
                  exfalso; have c_263 : r_96.toInt ≠ 40 := (by first | exact (cm_ne1 ti_40 c) | (have z := bn_ne c; have k1 : (40 : Int32).toInt = 40 := ti_40; omega)); first | exact absurd (by assumption) c_263 | omega
                · skip
                  have c_264 : r_96.toInt = 40 := (by first | exact (cm_eq1 ti_40 c) | (have z := Int32.toInt_inj.mpr c; have k1 : (40 : Int32).toInt = 40 := ti_40; omega))
                  refine lv_iload_n hx hb dX12_one_120 rfl (lv_at hl 0 rfl) ?_
                  refine lv_goto (tgt := 144) hx hb dX12_one_121 (by decide) ?_
                  have q_265 : (f_262 0 13).toInt = v_254.toInt := (congrArg Int32.toInt (show f_262 0 13 = v_254 from (by rw [ef_262, sg_up_s, sgu_n (by decide)]; exact ev_254.symm)))
                  have q_266 : (f_262 0 16).toInt = v_260.toInt := (congrArg Int32.toInt (show f_262 0 16 = v_260 from (by rw [ef_262, sg_up_s, sgu_s])))
                  have q_267 : (f_262 0 15).toInt = v_238.toInt := (congrArg Int32.toInt (show f_262 0 15 = v_238 from (by rw [ef_262, sg_up_s, sgu_n (by decide)]; exact ((hk_f_249 0 15 (by decide)).trans ev_238.symm))))
                  exact hret _ _ _ _ (r_227) f_262 L Q dX12_one_144 hP hS ⟨⟨hI, hF, rfl, rfl⟩, trivial, (by omega), (by omega), (by omega), (Eq.trans (Eq.symm (hs.trans ((if_pos rfl).trans (spl_e ev_260 (spl_e ef_262 rfl))))) hsp)⟩
              · skip
                have hc_259 := hq
                refine lv_if_ne (tgt := 104) hx hb dX12_one_96 (by decide) (fun c => absurd c (by decide)) (fun c => ?_)
                refine lv_aload_n hx hb dX12_one_99 rfl (lv_at hl 2 rfl) ?_
                refine sg_calli (va_runV (As := []) (rest := []) ⟨hx, hb, hml, hown, hts⟩ (kX12_wrong l D ca za h hh f_249 L Q hI H.size) (sl_c12_wrong_0_0_0_0_12 hts ⟨Nat.le_of_ble_eq_true rfl, Nat.le_of_ble_eq_true rfl⟩) (sl_vM_0 hA hK hP hS hZ) rfl rfl hl.1 rfl (lv_room (Nat.le_of_ble_eq_true rfl)) dX12_one_100 ⟨Nat.le_refl _, Nat.le_refl _⟩) hA hS (fun r_272 f_269 L_270 Q_271 H locs hq hP hS => ?_)
                obtain ⟨⟨hI, hk_f_269, eL9, eQ9⟩, hq, p_273, u_274⟩ := hq
                rw [eL9, eQ9] at hP; clear eL9 eQ9
                have hF : sgK WkX12_one_0 f f_269 := sgK.tr hF hk_f_269 (by decide +kernel)
                obtain ⟨v_275, ev_275⟩ : ∃ z : Int32, z = f_269 0 15 := ⟨_, rfl⟩
                have q_276 : (-1) ≤ v_275.toInt ∧ v_275.toInt ≤ 120 := by rw [ev_275]; exact hI 0 15
                have q_277 : (f_269 0 15).toInt = v_275.toInt := (congrArg Int32.toInt (show f_269 0 15 = v_275 from ev_275.symm))
                obtain rfl : r_272 = 0 := Int32.toInt_inj.mp (by have k9 : (0 : Int32).toInt = 0 := ti_0; omega)
                have q_278 : (f_269 0 13).toInt = v_254.toInt := (congrArg Int32.toInt (show f_269 0 13 = v_254 from ((hk_f_269 0 13 (by decide)).trans ev_254.symm)))
                have q_279 : (f_269 0 16).toInt = v_235.toInt := (congrArg Int32.toInt (show f_269 0 16 = v_235 from ((hk_f_269 0 16 (by decide)).trans ((hk_f_249 0 16 (by decide)).trans ev_235.symm))))
                have k99 : (0 : Int32).toInt = 0 := ti_0
                exact hret _ _ _ _ (0) f_269 L Q dX12_one_103 hP hS ⟨⟨hI, hF, rfl, rfl⟩, trivial, (by omega), (by omega), (by omega), (Eq.trans (Eq.symm (hs.trans ((if_neg (by decide)).trans (spl2_e u_274 (spl_e ev_275 rfl))))) hsp)⟩
  · skip
    have c_88 : 0 ≤ v_3.toInt := (by first | exact (cm_nlt1 ti_0 c) | (have z := bn_nlt c; have k1 : (0 : Int32).toInt = 0 := ti_0; omega))
    refine lv_iconst (v := 0) hx hb dX12_one_7 ic_0 ?_
    have q_282 : (f 0 13).toInt = v_5.toInt := (congrArg Int32.toInt (show f 0 13 = v_5 from ev_5.symm))
    have q_283 : (f 0 16).toInt = v_1.toInt := (congrArg Int32.toInt (show f 0 16 = v_1 from ev_1.symm))
    have q_284 : (f 0 15).toInt = v_3.toInt := (congrArg Int32.toInt (show f 0 15 = v_3 from ev_3.symm))
    have k99 : (0 : Int32).toInt = 0 := ti_0
    exact hret _ _ _ _ (0) f L Q dX12_one_8 hP hS ⟨⟨hI, hF, rfl, rfl⟩, trivial, (by omega), (by omega), (by omega), (Eq.trans (Eq.symm (hs.trans ((if_neg (Int.not_lt.mpr c_88)).trans rfl))) hsp)⟩
