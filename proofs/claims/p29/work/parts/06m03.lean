/-! contracts of any state. Laid by a program (wip/tool) -/
abbrev WkX12_product_0 : List (Nat × Nat × Option Nat) := [(0, 0, some 13), (0, 0, some 15), (0, 0, some 16)]
set_option maxHeartbeats 4000000 in
set_option maxRecDepth 100000 in
theorem kX12_product_0 (l : Launch) (D : va_G) (ca : Nat → ClassId) (za h : Nat → Nat) (hh : sgH 26 h) (f : sg_F) (L : sg_L) (Q : sg_Q) (hI : sgI loM hiM f) (p0 : 0 ≤ (f 0 16).toInt) (p1 : 0 ≤ (f 0 15).toInt ∨ (f 0 16).toInt = 0) (sz : Nat) : Met l yX12_product gwX12_product { frames := 38, cells := 0, slots := 0, locals := 866 } (sgP D vwCl (tyX ca) 26 h (eM ca h) zcM za f L Q sz [.ref (h 0)]) (sgQi D vwCl 26 h (eM ca h) sz (fun r f1 L1 Q1 => ((sgI loM hiM f1 ∧ sgK WkX12_product_0 f f1 ∧ L1 = L ∧ Q1 = Q) ∧ True ∧ ((f 0 13).toInt ≤ (f1 0 13).toInt) ∧ (0 ≤ (f1 0 16).toInt) ∧ (0 ≤ (f1 0 15).toInt ∨ (f1 0 16).toInt = 0) ∧ (r, f1) = sX12_product_0 f L))) 0 0 (sgA 26 h sz) := by
  refine sg_ofWi (cc := cX12_product) (maxL := 4) RX12 (by decide) rfl rfl (Nat.le_of_ble_eq_true rfl) ?_
  intro p e s m below meth cd Qz ls hx hb hml hown hts hK hZ hP hS hl hret
  have hA := sgY.self (n := 26) (h := h) (sz := s.heap.size)
  have hl : lv_has ls 4 [(0, .ref (h 0))] := hl
  obtain ⟨H, hH⟩ : ∃ z : Heap, z = s.heap := ⟨_, rfl⟩
  obtain ⟨locs, hlo⟩ : ∃ z : List Loc, z = [] := ⟨_, rfl⟩
  have hP : va_P D vwCl (sgw 26 h (eM ca h) f L Q) H := by rw [hH]; exact hP
  have hS : va_S (sgA 26 h s.heap.size) s.heap H locs := by rw [hH, hlo]; exact hS
  suffices hgo : W p l e ({ frames := 38, cells := 0, slots := 0, locals := 866 }) s m ([.ref (h 0)] : List Value).toArray below meth cd H locs 0 0 Qz (F0 m 0 ls []) by rw [hH, hlo] at hgo; exact hgo
  clear hH hlo
  obtain ⟨sp, hsp⟩ : ∃ z : Int32 × sg_F, z = sX12_product_0 f L := ⟨_, rfl⟩
  have hs : sp = sX12_product_0 f L := hsp
  obtain ⟨v_1, ev_1⟩ : ∃ z : Int32, z = f 0 16 := ⟨_, rfl⟩
  have q_2 : 0 ≤ v_1.toInt ∧ v_1.toInt ≤ 6 := by rw [ev_1]; exact hI 0 16
  obtain ⟨v_3, ev_3⟩ : ∃ z : Int32, z = f 0 15 := ⟨_, rfl⟩
  have q_4 : (-1) ≤ v_3.toInt ∧ v_3.toInt ≤ 120 := by rw [ev_3]; exact hI 0 15
  obtain ⟨v_5, ev_5⟩ : ∃ z : Int32, z = f 0 13 := ⟨_, rfl⟩
  have q_6 : 0 ≤ v_5.toInt ∧ v_5.toInt ≤ 120 := by rw [ev_5]; exact hI 0 13
  obtain ⟨v_7, ev_7⟩ : ∃ z : Int32, z = f 0 14 := ⟨_, rfl⟩
  have q_8 : 0 ≤ v_7.toInt ∧ v_7.toInt ≤ 120 := by rw [ev_7]; exact hI 0 14
  have o_9 : (f 0 16).toInt = v_1.toInt := (congrArg Int32.toInt (show f 0 16 = v_1 from ev_1.symm))
  have o_10 : (f 0 15).toInt = v_3.toInt := (congrArg Int32.toInt (show f 0 15 = v_3 from ev_3.symm))
  have o_11 : (f 0 13).toInt = v_5.toInt := (congrArg Int32.toInt (show f 0 13 = v_5 from ev_5.symm))
  have o_12 : (f 0 14).toInt = v_7.toInt := (congrArg Int32.toInt (show f 0 14 = v_7 from ev_7.symm))
  have hF : sgK WkX12_product_0 f f := sgK.rf
  have loop_10 : ∀ (n_10 : Nat) (y1_10 : Int32) (y2_10 : Int32) (fp_10 : sg_F) (H : Heap) (locs : List Loc) (ls : Array Slot), sp = sX12_product_0_l10 n_10 y1_10 y2_10 fp_10 L → 120 - (fp_10 0 13).toInt < (n_10 : Int) → 0 ≤ y2_10.toInt ∧ y2_10.toInt ≤ 255 → (f 0 13).toInt ≤ (fp_10 0 13).toInt → 0 ≤ (fp_10 0 16).toInt → 0 ≤ (fp_10 0 15).toInt ∨ (fp_10 0 16).toInt = 0 → y2_10.toInt = 0 ∨ (fp_10 0 13).toInt < (fp_10 0 14).toInt → sgI loM hiM fp_10 → sgK WkX12_product_0 f fp_10 → va_P D vwCl (sgw 26 h (eM ca h) fp_10 L Q) H → va_S (sgA 26 h s.heap.size) s.heap H locs → lv_has ls 4 [(0, .ref (h 0)), (1, .int y1_10), (2, .int y2_10)] → W p l e ({ frames := 38, cells := 0, slots := 0, locals := 866 }) s m ([.ref (h 0)] : List Value).toArray below meth cd H locs 0 0 Qz (F0 m 10 ls []) := by
    intro n_10
    induction n_10 with
    | zero => intro y1_10 y2_10 fp_10 H locs ls hs hm_10 hy0_10 hg0_10 hg1_10 hg2_10 hg3_10 hI hF hP hS hl; have zb := (show 0 ≤ (fp_10 0 13).toInt ∧ (fp_10 0 13).toInt ≤ 120 from hI 0 13); exact absurd hm_10 (by omega)
    | succ n_10 ih_10 =>
      intro y1_10 y2_10 fp_10 H locs ls hs hm_10 hy0_10 hg0_10 hg1_10 hg2_10 hg3_10 hI hF hP hS hl
      have hs : sp = sX12_product_0_h10 (sX12_product_0_l10 n_10) y1_10 y2_10 fp_10 L := hs
      obtain ⟨v_13, ev_13⟩ : ∃ z : Int32, z = fp_10 0 13 := ⟨_, rfl⟩
      have q_14 : 0 ≤ v_13.toInt ∧ v_13.toInt ≤ 120 := by rw [ev_13]; exact hI 0 13
      have q_15 : (fp_10 0 13).toInt = v_13.toInt := by rw [ev_13]
      obtain ⟨v_16, ev_16⟩ : ∃ z : Int32, z = fp_10 0 16 := ⟨_, rfl⟩
      have q_17 : 0 ≤ v_16.toInt ∧ v_16.toInt ≤ 6 := by rw [ev_16]; exact hI 0 16
      have q_18 : (fp_10 0 16).toInt = v_16.toInt := by rw [ev_16]
      obtain ⟨v_19, ev_19⟩ : ∃ z : Int32, z = fp_10 0 15 := ⟨_, rfl⟩
      have q_20 : (-1) ≤ v_19.toInt ∧ v_19.toInt ≤ 120 := by rw [ev_19]; exact hI 0 15
      have q_21 : (fp_10 0 15).toInt = v_19.toInt := by rw [ev_19]
      obtain ⟨v_22, ev_22⟩ : ∃ z : Int32, z = fp_10 0 14 := ⟨_, rfl⟩
      replace hs := hs.trans (spl_e ev_13 (spl_e ev_16 (spl_e ev_19 (spl_e ev_22 rfl))))
      have q_23 : 0 ≤ v_22.toInt ∧ v_22.toInt ≤ 120 := by rw [ev_22]; exact hI 0 14
      have q_24 : (fp_10 0 14).toInt = v_22.toInt := by rw [ev_22]
      refine lv_aload_n hx hb dX12_product_10 rfl (lv_at hl 0 rfl) ?_
      refine sl_gM_0_15_12 (v := v_19) hx hb hts hown hK hP (show fp_10 0 15 = v_19 from ev_19.symm) dX12_product_11 ?_
      refine lv_if_ge (tgt := 94) hx hb dX12_product_14 (by decide) (fun c => ?_) (fun c => ?_)
      · skip
        have c_25 : 0 ≤ v_19.toInt := (by first | exact (cm_le0 ti_0 c) | (have z := bn_le c; have k1 : (0 : Int32).toInt = 0 := ti_0; omega))
        refine lv_iload_n hx hb dX12_product_94 rfl (lv_at hl 1 rfl) ?_
        exact hret _ _ _ _ (y1_10) fp_10 L Q dX12_product_95 hP hS ⟨⟨hI, hF, rfl, rfl⟩, trivial, (by omega), (by omega), (by omega), (Eq.trans (Eq.symm (hs.trans ((if_neg (Int.not_lt.mpr c_25)).trans rfl))) hsp)⟩
      · skip
        have c_26 : v_19.toInt < 0 := (by first | exact (cm_nle0 ti_0 c) | (have z := bn_nle c; have k1 : (0 : Int32).toInt = 0 := ti_0; omega))
        replace hs := hs.trans ((if_pos c_26).trans rfl)
        refine lv_iload_n hx hb dX12_product_17 rfl (lv_at hl 2 rfl) ?_
        refine lv_bipush (v := 42) hx hb dX12_product_18 bp_42 ?_
        refine lv_icmp_eq (tgt := 35) hx hb dX12_product_20 (by decide) (fun c => ?_) (fun c => ?_)
        · skip
          have c_31 : y2_10.toInt = 42 := (by first | exact (cm_eq1 ti_42 c) | (have z := Int32.toInt_inj.mpr c; have k1 : (42 : Int32).toInt = 42 := ti_42; omega))
          refine lv_aload_n hx hb dX12_product_35 rfl (lv_at hl 0 rfl) ?_
          refine lv_dup hx hb dX12_product_36 rfl ?_
          refine sl_gM_0_13_12 (v := v_13) hx hb hts hown hK hP (show fp_10 0 13 = v_13 from ev_13.symm) dX12_product_37 ?_
          refine lv_iconst (v := 1) hx hb dX12_product_40 ic_1 ?_
          refine lv_iadd hx hb dX12_product_41 ?_
          refine lv_topi (fun v_33 ev_33 => ?_)
          have q_34 : v_33.toInt = v_13.toInt + 1 := by rw [ev_33]; first | exact cm_add ti_1 (by omega) (by omega) | (have k1 : (1 : Int32).toInt = 1 := ti_1; exact (bn_addI (by omega) (by omega)).trans (by omega))
          refine sl_pM_0_13_12 (x := v_33) hx hb hts hown hh hA hK hP hS dX12_product_42 (fun f_35 H locs ef_35 hP hS => ?_)
          have hI : sgI loM hiM f_35 := by rw [ef_35]; exact sgI.put hI 0 13 (show 0 ≤ (v_33 : Int32).toInt ∧ (v_33 : Int32).toInt ≤ 120 from ⟨by omega, by omega⟩)
          have hF : sgK WkX12_product_0 f f_35 := sgK.put hF ef_35 (by rfl)
          refine lv_aload_n hx hb dX12_product_45 rfl (lv_at hl 0 rfl) ?_
          have q_36 : (f_35 0 16).toInt = v_16.toInt := (congrArg Int32.toInt (show f_35 0 16 = v_16 from (by rw [ef_35, sg_up_s, sgu_n (by decide)]; exact ev_16.symm)))
          have q_37 : (f_35 0 15).toInt = v_19.toInt := (congrArg Int32.toInt (show f_35 0 15 = v_19 from (by rw [ef_35, sg_up_s, sgu_n (by decide)]; exact ev_19.symm)))
          have q_39 : (f_35 0 13).toInt = v_33.toInt := (congrArg Int32.toInt (show f_35 0 13 = v_33 from (by rw [ef_35, sg_up_s, sgu_s])))
          refine sg_calli (va_runV (As := []) (rest := []) ⟨hx, hb, hml, hown, hts⟩ (kX12_one_0 l D ca za h hh f_35 L Q hI (by omega) (by omega) H.size) (sl_c12_one_37_0_0_842_12 hts ⟨Nat.le_of_ble_eq_true rfl, Nat.le_of_ble_eq_true rfl⟩) (sl_vM_0 hA hK hP hS hZ) rfl rfl hl.1 rfl (lv_room (Nat.le_of_ble_eq_true rfl)) dX12_product_46 ⟨Nat.le_refl _, Nat.le_refl _⟩) hA hS (fun r_43 f_40 L_41 Q_42 H locs hq hP hS => ?_)
          obtain ⟨⟨hI, hk_f_40, eL9, eQ9⟩, hq, p_44, p_45, p_46, u_47⟩ := hq
          rw [eL9, eQ9] at hP; clear eL9 eQ9
          have hF : sgK WkX12_product_0 f f_40 := sgK.tr hF hk_f_40 (by decide +kernel)
          obtain ⟨v_48, ev_48⟩ : ∃ z : Int32, z = f_40 0 13 := ⟨_, rfl⟩
          have q_49 : 0 ≤ v_48.toInt ∧ v_48.toInt ≤ 120 := by rw [ev_48]; exact hI 0 13
          have q_50 : (f_40 0 13).toInt = v_48.toInt := (congrArg Int32.toInt (show f_40 0 13 = v_48 from ev_48.symm))
          obtain ⟨v_51, ev_51⟩ : ∃ z : Int32, z = f_40 0 16 := ⟨_, rfl⟩
          have q_52 : 0 ≤ v_51.toInt ∧ v_51.toInt ≤ 6 := by rw [ev_51]; exact hI 0 16
          have q_53 : (f_40 0 16).toInt = v_51.toInt := (congrArg Int32.toInt (show f_40 0 16 = v_51 from ev_51.symm))
          obtain ⟨v_54, ev_54⟩ : ∃ z : Int32, z = f_40 0 15 := ⟨_, rfl⟩
          have q_55 : (-1) ≤ v_54.toInt ∧ v_54.toInt ≤ 120 := by rw [ev_54]; exact hI 0 15
          have q_56 : (f_40 0 15).toInt = v_54.toInt := (congrArg Int32.toInt (show f_40 0 15 = v_54 from ev_54.symm))
          refine lv_istore_n (lv' := [(3, .int r_43), (0, .ref (h 0)), (1, .int y1_10), (2, .int y2_10)]) hx hb dX12_product_49 rfl hl (by decide) rfl (fun ls hl => ?_)
          refine lv_iload_n hx hb dX12_product_50 rfl (lv_at hl 3 rfl) ?_
          refine lv_bipush (v := 42) hx hb dX12_product_51 bp_42 ?_
          refine lv_icmp_ne (tgt := 62) hx hb dX12_product_53 (by decide) (fun c => ?_) (fun c => ?_)
          · skip
            exfalso; have c_58 : y2_10.toInt ≠ 42 := (by first | exact (cm_ne1 ti_42 c) | (have z := bn_ne c; have k1 : (42 : Int32).toInt = 42 := ti_42; omega)); first | exact absurd (by assumption) c_58 | omega
          · skip
            have c_59 : y2_10.toInt = 42 := (by first | exact (cm_eq1 ti_42 c) | (have z := Int32.toInt_inj.mpr c; have k1 : (42 : Int32).toInt = 42 := ti_42; omega))
            refine lv_iload_n hx hb dX12_product_56 rfl (lv_at hl 2 rfl) ?_
            refine lv_iload_n hx hb dX12_product_57 rfl (lv_at hl 0 rfl) ?_
            refine lv_imul hx hb dX12_product_58 ?_
            refine lv_topi (fun v_60 ev_60 => ?_)
            refine lv_goto (tgt := 85) hx hb dX12_product_59 (by decide) ?_
            refine lv_istore_n (lv' := [(1, .int v_60), (3, .int r_43), (0, .ref (h 0)), (2, .int y2_10)]) hx hb dX12_product_85 rfl hl (by decide) rfl (fun ls hl => ?_)
            refine lv_aload_n hx hb dX12_product_86 rfl (lv_at hl 2 rfl) ?_
            have q_62 : (f_40 0 14).toInt = v_22.toInt := (congrArg Int32.toInt (show f_40 0 14 = v_22 from ((hk_f_40 0 14 (by decide)).trans (by rw [ef_35, sg_up_s, sgu_n (by decide)]; exact ev_22.symm))))
            refine sg_calli (va_runV (As := []) (rest := []) ⟨hx, hb, hml, hown, hts⟩ (kX12_byteAt l D ca za h hh f_40 L Q hI H.size) (sl_c12_byteAt_0_0_0_0_12 hts ⟨Nat.le_of_ble_eq_true rfl, Nat.le_of_ble_eq_true rfl⟩) (sl_vM_0 hA hK hP hS hZ) rfl rfl hl.1 rfl (lv_room (Nat.le_of_ble_eq_true rfl)) dX12_product_87 ⟨Nat.le_refl _, Nat.le_refl _⟩) hA hS (fun r_66 f_63 L_64 Q_65 H locs hq hP hS => ?_)
            obtain ⟨⟨ef9, eL9, eQ9⟩, hq, p_67, u_68⟩ := hq
            rw [ef9, eL9, eQ9] at hP; clear ef9 eL9 eQ9
            refine lv_istore_n (lv' := [(2, .int r_66), (1, .int v_60), (3, .int r_43), (0, .ref (h 0))]) hx hb dX12_product_90 rfl hl (by decide) rfl (fun ls hl => ?_)
            refine lv_goto (tgt := 10) hx hb dX12_product_91 (by decide) ?_
            exact ih_10 v_60 r_66 f_40 _ _ _ (hs.trans ((if_pos c_31).trans (spl_e ev_33 (spl_e ef_35 (spl2_e u_47 (spl_e ev_48 (spl_e ev_51 (spl_e ev_54 (spl_e ev_60 (spl_e u_68 rfl)))))))))) (by have zz0_13 : (f_40 0 13).toInt = v_48.toInt := (congrArg Int32.toInt (show f_40 0 13 = v_48 from ev_48.symm)); omega) ⟨by omega, by omega⟩ (by have zz0_13 : (f_40 0 13).toInt = v_48.toInt := (congrArg Int32.toInt (show f_40 0 13 = v_48 from ev_48.symm)); omega) (by have zz0_16 : (f_40 0 16).toInt = v_51.toInt := (congrArg Int32.toInt (show f_40 0 16 = v_51 from ev_51.symm)); omega) (by have zz0_15 : (f_40 0 15).toInt = v_54.toInt := (congrArg Int32.toInt (show f_40 0 15 = v_54 from ev_54.symm)); have zz0_16 : (f_40 0 16).toInt = v_51.toInt := (congrArg Int32.toInt (show f_40 0 16 = v_51 from ev_51.symm)); omega) (by have zz0_13 : (f_40 0 13).toInt = v_48.toInt := (congrArg Int32.toInt (show f_40 0 13 = v_48 from ev_48.symm)); have zz0_14 : (f_40 0 14).toInt = v_22.toInt := (congrArg Int32.toInt (show f_40 0 14 = v_22 from ((hk_f_40 0 14 (by decide)).trans (by rw [ef_35, sg_up_s, sgu_n (by decide)]; exact ev_22.symm)))); omega) hI hF hP hS (lv_sub hl [3, 1, 0] rfl)
        · skip
          have c_32 : y2_10.toInt ≠ 42 := (by first | exact (cm_ne1 ti_42 c) | (have z := bn_ne c; have k1 : (42 : Int32).toInt = 42 := ti_42; omega))
          replace hs := hs.trans ((if_neg c_32).trans rfl)
          refine lv_iload_n hx hb dX12_product_23 rfl (lv_at hl 2 rfl) ?_
          refine lv_bipush (v := 47) hx hb dX12_product_24 bp_47 ?_
          refine lv_icmp_eq (tgt := 35) hx hb dX12_product_26 (by decide) (fun c => ?_) (fun c => ?_)
          · skip
            have c_69 : y2_10.toInt = 47 := (by first | exact (cm_eq1 ti_47 c) | (have z := Int32.toInt_inj.mpr c; have k1 : (47 : Int32).toInt = 47 := ti_47; omega))
            refine lv_aload_n hx hb dX12_product_35 rfl (lv_at hl 0 rfl) ?_
            refine lv_dup hx hb dX12_product_36 rfl ?_
            refine sl_gM_0_13_12 (v := v_13) hx hb hts hown hK hP (show fp_10 0 13 = v_13 from ev_13.symm) dX12_product_37 ?_
            refine lv_iconst (v := 1) hx hb dX12_product_40 ic_1 ?_
            refine lv_iadd hx hb dX12_product_41 ?_
            refine lv_topi (fun v_71 ev_71 => ?_)
            have q_72 : v_71.toInt = v_13.toInt + 1 := by rw [ev_71]; first | exact cm_add ti_1 (by omega) (by omega) | (have k1 : (1 : Int32).toInt = 1 := ti_1; exact (bn_addI (by omega) (by omega)).trans (by omega))
            refine sl_pM_0_13_12 (x := v_71) hx hb hts hown hh hA hK hP hS dX12_product_42 (fun f_73 H locs ef_73 hP hS => ?_)
            have hI : sgI loM hiM f_73 := by rw [ef_73]; exact sgI.put hI 0 13 (show 0 ≤ (v_71 : Int32).toInt ∧ (v_71 : Int32).toInt ≤ 120 from ⟨by omega, by omega⟩)
            have hF : sgK WkX12_product_0 f f_73 := sgK.put hF ef_73 (by rfl)
            refine lv_aload_n hx hb dX12_product_45 rfl (lv_at hl 0 rfl) ?_
            have q_74 : (f_73 0 16).toInt = v_16.toInt := (congrArg Int32.toInt (show f_73 0 16 = v_16 from (by rw [ef_73, sg_up_s, sgu_n (by decide)]; exact ev_16.symm)))
            have q_75 : (f_73 0 15).toInt = v_19.toInt := (congrArg Int32.toInt (show f_73 0 15 = v_19 from (by rw [ef_73, sg_up_s, sgu_n (by decide)]; exact ev_19.symm)))
            have q_77 : (f_73 0 13).toInt = v_71.toInt := (congrArg Int32.toInt (show f_73 0 13 = v_71 from (by rw [ef_73, sg_up_s, sgu_s])))
            refine sg_calli (va_runV (As := []) (rest := []) ⟨hx, hb, hml, hown, hts⟩ (kX12_one_0 l D ca za h hh f_73 L Q hI (by omega) (by omega) H.size) (sl_c12_one_37_0_0_842_12 hts ⟨Nat.le_of_ble_eq_true rfl, Nat.le_of_ble_eq_true rfl⟩) (sl_vM_0 hA hK hP hS hZ) rfl rfl hl.1 rfl (lv_room (Nat.le_of_ble_eq_true rfl)) dX12_product_46 ⟨Nat.le_refl _, Nat.le_refl _⟩) hA hS (fun r_81 f_78 L_79 Q_80 H locs hq hP hS => ?_)
            obtain ⟨⟨hI, hk_f_78, eL9, eQ9⟩, hq, p_82, p_83, p_84, u_85⟩ := hq
            rw [eL9, eQ9] at hP; clear eL9 eQ9
            have hF : sgK WkX12_product_0 f f_78 := sgK.tr hF hk_f_78 (by decide +kernel)
            obtain ⟨v_86, ev_86⟩ : ∃ z : Int32, z = f_78 0 13 := ⟨_, rfl⟩
            have q_87 : 0 ≤ v_86.toInt ∧ v_86.toInt ≤ 120 := by rw [ev_86]; exact hI 0 13
            have q_88 : (f_78 0 13).toInt = v_86.toInt := (congrArg Int32.toInt (show f_78 0 13 = v_86 from ev_86.symm))
            obtain ⟨v_89, ev_89⟩ : ∃ z : Int32, z = f_78 0 16 := ⟨_, rfl⟩
            have q_90 : 0 ≤ v_89.toInt ∧ v_89.toInt ≤ 6 := by rw [ev_89]; exact hI 0 16
            have q_91 : (f_78 0 16).toInt = v_89.toInt := (congrArg Int32.toInt (show f_78 0 16 = v_89 from ev_89.symm))
            obtain ⟨v_92, ev_92⟩ : ∃ z : Int32, z = f_78 0 15 := ⟨_, rfl⟩
            replace hs := hs.trans ((if_pos c_69).trans (spl_e ev_71 (spl_e ef_73 (spl2_e u_85 (spl_e ev_86 (spl_e ev_89 (spl_e ev_92 rfl)))))))
            have q_93 : (-1) ≤ v_92.toInt ∧ v_92.toInt ≤ 120 := by rw [ev_92]; exact hI 0 15
            have q_94 : (f_78 0 15).toInt = v_92.toInt := (congrArg Int32.toInt (show f_78 0 15 = v_92 from ev_92.symm))
            refine lv_istore_n (lv' := [(3, .int r_81), (0, .ref (h 0)), (1, .int y1_10), (2, .int y2_10)]) hx hb dX12_product_49 rfl hl (by decide) rfl (fun ls hl => ?_)
            refine lv_iload_n hx hb dX12_product_50 rfl (lv_at hl 3 rfl) ?_
            refine lv_bipush (v := 42) hx hb dX12_product_51 bp_42 ?_
            refine lv_icmp_ne (tgt := 62) hx hb dX12_product_53 (by decide) (fun c => ?_) (fun c => ?_)
            · skip
              have c_96 : y2_10.toInt ≠ 42 := (by first | exact (cm_ne1 ti_42 c) | (have z := bn_ne c; have k1 : (42 : Int32).toInt = 42 := ti_42; omega))
              refine lv_iload_n hx hb dX12_product_62 rfl (lv_at hl 0 rfl) ?_
              refine lv_if_ne (tgt := 70) hx hb dX12_product_63 (by decide) (fun c => ?_) (fun c => ?_)
              · skip
                have c_98 : r_81.toInt ≠ 0 := (by first | exact (cm_ne1 ti_0 c) | (have z := bn_ne c; have k1 : (0 : Int32).toInt = 0 := ti_0; omega))
                refine lv_iload_n hx hb dX12_product_70 rfl (lv_at hl 3 rfl) ?_
                refine lv_bipush (v := 47) hx hb dX12_product_71 bp_47 ?_
                refine lv_icmp_ne (tgt := 82) hx hb dX12_product_73 (by decide) (fun c => ?_) (fun c => ?_)
                · skip
                  exfalso; have c_100 : y2_10.toInt ≠ 47 := (by first | exact (cm_ne1 ti_47 c) | (have z := bn_ne c; have k1 : (47 : Int32).toInt = 47 := ti_47; omega)); first | exact absurd (by assumption) c_100 | omega
                · skip
                  have c_101 : y2_10.toInt = 47 := (by first | exact (cm_eq1 ti_47 c) | (have z := Int32.toInt_inj.mpr c; have k1 : (47 : Int32).toInt = 47 := ti_47; omega))
                  refine lv_iload_n hx hb dX12_product_76 rfl (lv_at hl 2 rfl) ?_
                  refine lv_iload_n hx hb dX12_product_77 rfl (lv_at hl 0 rfl) ?_
                  refine lv_idiv hx hb dX12_product_78 (bn_nz (by omega)) ?_
                  refine lv_topi (fun v_102 ev_102 => ?_)
                  refine lv_goto (tgt := 85) hx hb dX12_product_79 (by decide) ?_
                  refine lv_istore_n (lv' := [(1, .int v_102), (3, .int r_81), (0, .ref (h 0)), (2, .int y2_10)]) hx hb dX12_product_85 rfl hl (by decide) rfl (fun ls hl => ?_)
                  refine lv_aload_n hx hb dX12_product_86 rfl (lv_at hl 2 rfl) ?_
                  have q_104 : (f_78 0 14).toInt = v_22.toInt := (congrArg Int32.toInt (show f_78 0 14 = v_22 from ((hk_f_78 0 14 (by decide)).trans (by rw [ef_73, sg_up_s, sgu_n (by decide)]; exact ev_22.symm))))
                  refine sg_calli (va_runV (As := []) (rest := []) ⟨hx, hb, hml, hown, hts⟩ (kX12_byteAt l D ca za h hh f_78 L Q hI H.size) (sl_c12_byteAt_0_0_0_0_12 hts ⟨Nat.le_of_ble_eq_true rfl, Nat.le_of_ble_eq_true rfl⟩) (sl_vM_0 hA hK hP hS hZ) rfl rfl hl.1 rfl (lv_room (Nat.le_of_ble_eq_true rfl)) dX12_product_87 ⟨Nat.le_refl _, Nat.le_refl _⟩) hA hS (fun r_108 f_105 L_106 Q_107 H locs hq hP hS => ?_)
                  obtain ⟨⟨ef9, eL9, eQ9⟩, hq, p_109, u_110⟩ := hq
                  rw [ef9, eL9, eQ9] at hP; clear ef9 eL9 eQ9
                  refine lv_istore_n (lv' := [(2, .int r_108), (1, .int v_102), (3, .int r_81), (0, .ref (h 0))]) hx hb dX12_product_90 rfl hl (by decide) rfl (fun ls hl => ?_)
                  refine lv_goto (tgt := 10) hx hb dX12_product_91 (by decide) ?_
                  exact ih_10 v_102 r_108 f_78 _ _ _ (hs.trans ((if_neg c_98).trans (spl_e ev_102 (spl_e u_110 rfl)))) (by have zz0_13 : (f_78 0 13).toInt = v_86.toInt := (congrArg Int32.toInt (show f_78 0 13 = v_86 from ev_86.symm)); omega) ⟨by omega, by omega⟩ (by have zz0_13 : (f_78 0 13).toInt = v_86.toInt := (congrArg Int32.toInt (show f_78 0 13 = v_86 from ev_86.symm)); omega) (by have zz0_16 : (f_78 0 16).toInt = v_89.toInt := (congrArg Int32.toInt (show f_78 0 16 = v_89 from ev_89.symm)); omega) (by have zz0_15 : (f_78 0 15).toInt = v_92.toInt := (congrArg Int32.toInt (show f_78 0 15 = v_92 from ev_92.symm)); have zz0_16 : (f_78 0 16).toInt = v_89.toInt := (congrArg Int32.toInt (show f_78 0 16 = v_89 from ev_89.symm)); omega) (by have zz0_13 : (f_78 0 13).toInt = v_86.toInt := (congrArg Int32.toInt (show f_78 0 13 = v_86 from ev_86.symm)); have zz0_14 : (f_78 0 14).toInt = v_22.toInt := (congrArg Int32.toInt (show f_78 0 14 = v_22 from ((hk_f_78 0 14 (by decide)).trans (by rw [ef_73, sg_up_s, sgu_n (by decide)]; exact ev_22.symm)))); omega) hI hF hP hS (lv_sub hl [3, 1, 0] rfl)
              · skip
                have c_99 : r_81.toInt = 0 := (by first | exact (cm_eq1 ti_0 c) | (have z := Int32.toInt_inj.mpr c; have k1 : (0 : Int32).toInt = 0 := ti_0; omega))
                refine lv_iconst (v := 0) hx hb dX12_product_66 ic_0 ?_
                refine lv_goto (tgt := 85) hx hb dX12_product_67 (by decide) ?_
                refine lv_istore_n (lv' := [(1, .int 0), (3, .int r_81), (0, .ref (h 0)), (2, .int y2_10)]) hx hb dX12_product_85 rfl hl (by decide) rfl (fun ls hl => ?_)
                refine lv_aload_n hx hb dX12_product_86 rfl (lv_at hl 2 rfl) ?_
                have q_112 : (f_78 0 14).toInt = v_22.toInt := (congrArg Int32.toInt (show f_78 0 14 = v_22 from ((hk_f_78 0 14 (by decide)).trans (by rw [ef_73, sg_up_s, sgu_n (by decide)]; exact ev_22.symm))))
                refine sg_calli (va_runV (As := []) (rest := []) ⟨hx, hb, hml, hown, hts⟩ (kX12_byteAt l D ca za h hh f_78 L Q hI H.size) (sl_c12_byteAt_0_0_0_0_12 hts ⟨Nat.le_of_ble_eq_true rfl, Nat.le_of_ble_eq_true rfl⟩) (sl_vM_0 hA hK hP hS hZ) rfl rfl hl.1 rfl (lv_room (Nat.le_of_ble_eq_true rfl)) dX12_product_87 ⟨Nat.le_refl _, Nat.le_refl _⟩) hA hS (fun r_116 f_113 L_114 Q_115 H locs hq hP hS => ?_)
                obtain ⟨⟨ef9, eL9, eQ9⟩, hq, p_117, u_118⟩ := hq
                rw [ef9, eL9, eQ9] at hP; clear ef9 eL9 eQ9
                refine lv_istore_n (lv' := [(2, .int r_116), (1, .int 0), (3, .int r_81), (0, .ref (h 0))]) hx hb dX12_product_90 rfl hl (by decide) rfl (fun ls hl => ?_)
                refine lv_goto (tgt := 10) hx hb dX12_product_91 (by decide) ?_
                exact ih_10 0 r_116 f_78 _ _ _ (hs.trans ((if_pos c_99).trans (spl_e u_118 rfl))) (by have kc0 : (0 : Int32).toInt = 0 := ti_0; have zz0_13 : (f_78 0 13).toInt = v_86.toInt := (congrArg Int32.toInt (show f_78 0 13 = v_86 from ev_86.symm)); omega) ⟨by omega, by omega⟩ (by have kc0 : (0 : Int32).toInt = 0 := ti_0; have zz0_13 : (f_78 0 13).toInt = v_86.toInt := (congrArg Int32.toInt (show f_78 0 13 = v_86 from ev_86.symm)); omega) (by have kc0 : (0 : Int32).toInt = 0 := ti_0; have zz0_16 : (f_78 0 16).toInt = v_89.toInt := (congrArg Int32.toInt (show f_78 0 16 = v_89 from ev_89.symm)); omega) (by have kc0 : (0 : Int32).toInt = 0 := ti_0; have zz0_15 : (f_78 0 15).toInt = v_92.toInt := (congrArg Int32.toInt (show f_78 0 15 = v_92 from ev_92.symm)); have zz0_16 : (f_78 0 16).toInt = v_89.toInt := (congrArg Int32.toInt (show f_78 0 16 = v_89 from ev_89.symm)); omega) (by have kc0 : (0 : Int32).toInt = 0 := ti_0; have zz0_13 : (f_78 0 13).toInt = v_86.toInt := (congrArg Int32.toInt (show f_78 0 13 = v_86 from ev_86.symm)); have zz0_14 : (f_78 0 14).toInt = v_22.toInt := (congrArg Int32.toInt (show f_78 0 14 = v_22 from ((hk_f_78 0 14 (by decide)).trans (by rw [ef_73, sg_up_s, sgu_n (by decide)]; exact ev_22.symm)))); omega) hI hF hP hS (lv_sub hl [3, 1, 0] rfl)
            · skip
              exfalso; have c_97 : y2_10.toInt = 42 := (by first | exact (cm_eq1 ti_42 c) | (have z := Int32.toInt_inj.mpr c; have k1 : (42 : Int32).toInt = 42 := ti_42; omega)); first | exact absurd c_97 (by assumption) | omega
          · skip
            have c_70 : y2_10.toInt ≠ 47 := (by first | exact (cm_ne1 ti_47 c) | (have z := bn_ne c; have k1 : (47 : Int32).toInt = 47 := ti_47; omega))
            replace hs := hs.trans ((if_neg c_70).trans rfl)
            refine lv_iload_n hx hb dX12_product_29 rfl (lv_at hl 2 rfl) ?_
            refine lv_bipush (v := 37) hx hb dX12_product_30 bp_37 ?_
            refine lv_icmp_ne (tgt := 94) hx hb dX12_product_32 (by decide) (fun c => ?_) (fun c => ?_)
            · skip
              have c_119 : y2_10.toInt ≠ 37 := (by first | exact (cm_ne1 ti_37 c) | (have z := bn_ne c; have k1 : (37 : Int32).toInt = 37 := ti_37; omega))
              refine lv_iload_n hx hb dX12_product_94 rfl (lv_at hl 1 rfl) ?_
              exact hret _ _ _ _ (y1_10) fp_10 L Q dX12_product_95 hP hS ⟨⟨hI, hF, rfl, rfl⟩, trivial, (by omega), (by omega), (by omega), (Eq.trans (Eq.symm (hs.trans ((if_neg c_119).trans rfl))) hsp)⟩
            · skip
              have c_120 : y2_10.toInt = 37 := (by first | exact (cm_eq1 ti_37 c) | (have z := Int32.toInt_inj.mpr c; have k1 : (37 : Int32).toInt = 37 := ti_37; omega))
              refine lv_aload_n hx hb dX12_product_35 rfl (lv_at hl 0 rfl) ?_
              refine lv_dup hx hb dX12_product_36 rfl ?_
              refine sl_gM_0_13_12 (v := v_13) hx hb hts hown hK hP (show fp_10 0 13 = v_13 from ev_13.symm) dX12_product_37 ?_
              refine lv_iconst (v := 1) hx hb dX12_product_40 ic_1 ?_
              refine lv_iadd hx hb dX12_product_41 ?_
              refine lv_topi (fun v_125 ev_125 => ?_)
              have q_126 : v_125.toInt = v_13.toInt + 1 := by rw [ev_125]; first | exact cm_add ti_1 (by omega) (by omega) | (have k1 : (1 : Int32).toInt = 1 := ti_1; exact (bn_addI (by omega) (by omega)).trans (by omega))
              refine sl_pM_0_13_12 (x := v_125) hx hb hts hown hh hA hK hP hS dX12_product_42 (fun f_127 H locs ef_127 hP hS => ?_)
              have hI : sgI loM hiM f_127 := by rw [ef_127]; exact sgI.put hI 0 13 (show 0 ≤ (v_125 : Int32).toInt ∧ (v_125 : Int32).toInt ≤ 120 from ⟨by omega, by omega⟩)
              have hF : sgK WkX12_product_0 f f_127 := sgK.put hF ef_127 (by rfl)
              refine lv_aload_n hx hb dX12_product_45 rfl (lv_at hl 0 rfl) ?_
              have q_128 : (f_127 0 16).toInt = v_16.toInt := (congrArg Int32.toInt (show f_127 0 16 = v_16 from (by rw [ef_127, sg_up_s, sgu_n (by decide)]; exact ev_16.symm)))
              have q_129 : (f_127 0 15).toInt = v_19.toInt := (congrArg Int32.toInt (show f_127 0 15 = v_19 from (by rw [ef_127, sg_up_s, sgu_n (by decide)]; exact ev_19.symm)))
              have q_131 : (f_127 0 13).toInt = v_125.toInt := (congrArg Int32.toInt (show f_127 0 13 = v_125 from (by rw [ef_127, sg_up_s, sgu_s])))
              refine sg_calli (va_runV (As := []) (rest := []) ⟨hx, hb, hml, hown, hts⟩ (kX12_one_0 l D ca za h hh f_127 L Q hI (by omega) (by omega) H.size) (sl_c12_one_37_0_0_842_12 hts ⟨Nat.le_of_ble_eq_true rfl, Nat.le_of_ble_eq_true rfl⟩) (sl_vM_0 hA hK hP hS hZ) rfl rfl hl.1 rfl (lv_room (Nat.le_of_ble_eq_true rfl)) dX12_product_46 ⟨Nat.le_refl _, Nat.le_refl _⟩) hA hS (fun r_135 f_132 L_133 Q_134 H locs hq hP hS => ?_)
              obtain ⟨⟨hI, hk_f_132, eL9, eQ9⟩, hq, p_136, p_137, p_138, u_139⟩ := hq
              rw [eL9, eQ9] at hP; clear eL9 eQ9
              have hF : sgK WkX12_product_0 f f_132 := sgK.tr hF hk_f_132 (by decide +kernel)
              obtain ⟨v_140, ev_140⟩ : ∃ z : Int32, z = f_132 0 13 := ⟨_, rfl⟩
              have q_141 : 0 ≤ v_140.toInt ∧ v_140.toInt ≤ 120 := by rw [ev_140]; exact hI 0 13
              have q_142 : (f_132 0 13).toInt = v_140.toInt := (congrArg Int32.toInt (show f_132 0 13 = v_140 from ev_140.symm))
              obtain ⟨v_143, ev_143⟩ : ∃ z : Int32, z = f_132 0 16 := ⟨_, rfl⟩
              have q_144 : 0 ≤ v_143.toInt ∧ v_143.toInt ≤ 6 := by rw [ev_143]; exact hI 0 16
              have q_145 : (f_132 0 16).toInt = v_143.toInt := (congrArg Int32.toInt (show f_132 0 16 = v_143 from ev_143.symm))
              obtain ⟨v_146, ev_146⟩ : ∃ z : Int32, z = f_132 0 15 := ⟨_, rfl⟩
              replace hs := hs.trans ((if_pos c_120).trans (spl_e ev_125 (spl_e ef_127 (spl2_e u_139 (spl_e ev_140 (spl_e ev_143 (spl_e ev_146 rfl)))))))
              have q_147 : (-1) ≤ v_146.toInt ∧ v_146.toInt ≤ 120 := by rw [ev_146]; exact hI 0 15
              have q_148 : (f_132 0 15).toInt = v_146.toInt := (congrArg Int32.toInt (show f_132 0 15 = v_146 from ev_146.symm))
              refine lv_istore_n (lv' := [(3, .int r_135), (0, .ref (h 0)), (1, .int y1_10), (2, .int y2_10)]) hx hb dX12_product_49 rfl hl (by decide) rfl (fun ls hl => ?_)
              refine lv_iload_n hx hb dX12_product_50 rfl (lv_at hl 3 rfl) ?_
              refine lv_bipush (v := 42) hx hb dX12_product_51 bp_42 ?_
              refine lv_icmp_ne (tgt := 62) hx hb dX12_product_53 (by decide) (fun c => ?_) (fun c => ?_)
              · skip
                have c_150 : y2_10.toInt ≠ 42 := (by first | exact (cm_ne1 ti_42 c) | (have z := bn_ne c; have k1 : (42 : Int32).toInt = 42 := ti_42; omega))
                refine lv_iload_n hx hb dX12_product_62 rfl (lv_at hl 0 rfl) ?_
                refine lv_if_ne (tgt := 70) hx hb dX12_product_63 (by decide) (fun c => ?_) (fun c => ?_)
                · skip
                  have c_152 : r_135.toInt ≠ 0 := (by first | exact (cm_ne1 ti_0 c) | (have z := bn_ne c; have k1 : (0 : Int32).toInt = 0 := ti_0; omega))
                  refine lv_iload_n hx hb dX12_product_70 rfl (lv_at hl 3 rfl) ?_
                  refine lv_bipush (v := 47) hx hb dX12_product_71 bp_47 ?_
                  refine lv_icmp_ne (tgt := 82) hx hb dX12_product_73 (by decide) (fun c => ?_) (fun c => ?_)
                  · skip
                    have c_154 : y2_10.toInt ≠ 47 := (by first | exact (cm_ne1 ti_47 c) | (have z := bn_ne c; have k1 : (47 : Int32).toInt = 47 := ti_47; omega))
                    refine lv_iload_n hx hb dX12_product_82 rfl (lv_at hl 2 rfl) ?_
                    refine lv_iload_n hx hb dX12_product_83 rfl (lv_at hl 0 rfl) ?_
                    refine lv_irem hx hb dX12_product_84 (bn_nz (by omega)) ?_
                    refine lv_topi (fun v_156 ev_156 => ?_)
                    refine lv_istore_n (lv' := [(1, .int v_156), (3, .int r_135), (0, .ref (h 0)), (2, .int y2_10)]) hx hb dX12_product_85 rfl hl (by decide) rfl (fun ls hl => ?_)
                    refine lv_aload_n hx hb dX12_product_86 rfl (lv_at hl 2 rfl) ?_
                    have q_158 : (f_132 0 14).toInt = v_22.toInt := (congrArg Int32.toInt (show f_132 0 14 = v_22 from ((hk_f_132 0 14 (by decide)).trans (by rw [ef_127, sg_up_s, sgu_n (by decide)]; exact ev_22.symm))))
                    refine sg_calli (va_runV (As := []) (rest := []) ⟨hx, hb, hml, hown, hts⟩ (kX12_byteAt l D ca za h hh f_132 L Q hI H.size) (sl_c12_byteAt_0_0_0_0_12 hts ⟨Nat.le_of_ble_eq_true rfl, Nat.le_of_ble_eq_true rfl⟩) (sl_vM_0 hA hK hP hS hZ) rfl rfl hl.1 rfl (lv_room (Nat.le_of_ble_eq_true rfl)) dX12_product_87 ⟨Nat.le_refl _, Nat.le_refl _⟩) hA hS (fun r_162 f_159 L_160 Q_161 H locs hq hP hS => ?_)
                    obtain ⟨⟨ef9, eL9, eQ9⟩, hq, p_163, u_164⟩ := hq
                    rw [ef9, eL9, eQ9] at hP; clear ef9 eL9 eQ9
                    refine lv_istore_n (lv' := [(2, .int r_162), (1, .int v_156), (3, .int r_135), (0, .ref (h 0))]) hx hb dX12_product_90 rfl hl (by decide) rfl (fun ls hl => ?_)
                    refine lv_goto (tgt := 10) hx hb dX12_product_91 (by decide) ?_
                    exact ih_10 v_156 r_162 f_132 _ _ _ (hs.trans ((if_neg c_152).trans (spl_e ev_156 (spl_e u_164 rfl)))) (by have zz0_13 : (f_132 0 13).toInt = v_140.toInt := (congrArg Int32.toInt (show f_132 0 13 = v_140 from ev_140.symm)); omega) ⟨by omega, by omega⟩ (by have zz0_13 : (f_132 0 13).toInt = v_140.toInt := (congrArg Int32.toInt (show f_132 0 13 = v_140 from ev_140.symm)); omega) (by have zz0_16 : (f_132 0 16).toInt = v_143.toInt := (congrArg Int32.toInt (show f_132 0 16 = v_143 from ev_143.symm)); omega) (by have zz0_15 : (f_132 0 15).toInt = v_146.toInt := (congrArg Int32.toInt (show f_132 0 15 = v_146 from ev_146.symm)); have zz0_16 : (f_132 0 16).toInt = v_143.toInt := (congrArg Int32.toInt (show f_132 0 16 = v_143 from ev_143.symm)); omega) (by have zz0_13 : (f_132 0 13).toInt = v_140.toInt := (congrArg Int32.toInt (show f_132 0 13 = v_140 from ev_140.symm)); have zz0_14 : (f_132 0 14).toInt = v_22.toInt := (congrArg Int32.toInt (show f_132 0 14 = v_22 from ((hk_f_132 0 14 (by decide)).trans (by rw [ef_127, sg_up_s, sgu_n (by decide)]; exact ev_22.symm)))); omega) hI hF hP hS (lv_sub hl [3, 1, 0] rfl)
                  · skip
                    exfalso; have c_155 : y2_10.toInt = 47 := (by first | exact (cm_eq1 ti_47 c) | (have z := Int32.toInt_inj.mpr c; have k1 : (47 : Int32).toInt = 47 := ti_47; omega)); first | exact absurd c_155 (by assumption) | omega
                · skip
                  have c_153 : r_135.toInt = 0 := (by first | exact (cm_eq1 ti_0 c) | (have z := Int32.toInt_inj.mpr c; have k1 : (0 : Int32).toInt = 0 := ti_0; omega))
                  refine lv_iconst (v := 0) hx hb dX12_product_66 ic_0 ?_
                  refine lv_goto (tgt := 85) hx hb dX12_product_67 (by decide) ?_
                  refine lv_istore_n (lv' := [(1, .int 0), (3, .int r_135), (0, .ref (h 0)), (2, .int y2_10)]) hx hb dX12_product_85 rfl hl (by decide) rfl (fun ls hl => ?_)
                  refine lv_aload_n hx hb dX12_product_86 rfl (lv_at hl 2 rfl) ?_
                  have q_166 : (f_132 0 14).toInt = v_22.toInt := (congrArg Int32.toInt (show f_132 0 14 = v_22 from ((hk_f_132 0 14 (by decide)).trans (by rw [ef_127, sg_up_s, sgu_n (by decide)]; exact ev_22.symm))))
                  refine sg_calli (va_runV (As := []) (rest := []) ⟨hx, hb, hml, hown, hts⟩ (kX12_byteAt l D ca za h hh f_132 L Q hI H.size) (sl_c12_byteAt_0_0_0_0_12 hts ⟨Nat.le_of_ble_eq_true rfl, Nat.le_of_ble_eq_true rfl⟩) (sl_vM_0 hA hK hP hS hZ) rfl rfl hl.1 rfl (lv_room (Nat.le_of_ble_eq_true rfl)) dX12_product_87 ⟨Nat.le_refl _, Nat.le_refl _⟩) hA hS (fun r_170 f_167 L_168 Q_169 H locs hq hP hS => ?_)
                  obtain ⟨⟨ef9, eL9, eQ9⟩, hq, p_171, u_172⟩ := hq
                  rw [ef9, eL9, eQ9] at hP; clear ef9 eL9 eQ9
                  refine lv_istore_n (lv' := [(2, .int r_170), (1, .int 0), (3, .int r_135), (0, .ref (h 0))]) hx hb dX12_product_90 rfl hl (by decide) rfl (fun ls hl => ?_)
                  refine lv_goto (tgt := 10) hx hb dX12_product_91 (by decide) ?_
                  exact ih_10 0 r_170 f_132 _ _ _ (hs.trans ((if_pos c_153).trans (spl_e u_172 rfl))) (by have kc0 : (0 : Int32).toInt = 0 := ti_0; have zz0_13 : (f_132 0 13).toInt = v_140.toInt := (congrArg Int32.toInt (show f_132 0 13 = v_140 from ev_140.symm)); omega) ⟨by omega, by omega⟩ (by have kc0 : (0 : Int32).toInt = 0 := ti_0; have zz0_13 : (f_132 0 13).toInt = v_140.toInt := (congrArg Int32.toInt (show f_132 0 13 = v_140 from ev_140.symm)); omega) (by have kc0 : (0 : Int32).toInt = 0 := ti_0; have zz0_16 : (f_132 0 16).toInt = v_143.toInt := (congrArg Int32.toInt (show f_132 0 16 = v_143 from ev_143.symm)); omega) (by have kc0 : (0 : Int32).toInt = 0 := ti_0; have zz0_15 : (f_132 0 15).toInt = v_146.toInt := (congrArg Int32.toInt (show f_132 0 15 = v_146 from ev_146.symm)); have zz0_16 : (f_132 0 16).toInt = v_143.toInt := (congrArg Int32.toInt (show f_132 0 16 = v_143 from ev_143.symm)); omega) (by have kc0 : (0 : Int32).toInt = 0 := ti_0; have zz0_13 : (f_132 0 13).toInt = v_140.toInt := (congrArg Int32.toInt (show f_132 0 13 = v_140 from ev_140.symm)); have zz0_14 : (f_132 0 14).toInt = v_22.toInt := (congrArg Int32.toInt (show f_132 0 14 = v_22 from ((hk_f_132 0 14 (by decide)).trans (by rw [ef_127, sg_up_s, sgu_n (by decide)]; exact ev_22.symm)))); omega) hI hF hP hS (lv_sub hl [3, 1, 0] rfl)
              · skip
                exfalso; have c_151 : y2_10.toInt = 42 := (by first | exact (cm_eq1 ti_42 c) | (have z := Int32.toInt_inj.mpr c; have k1 : (42 : Int32).toInt = 42 := ti_42; omega)); first | exact absurd c_151 (by assumption) | omega
  refine lv_aload_n hx hb dX12_product_0 rfl (lv_at hl 0 rfl) ?_
  have q_173 : (f 0 16).toInt = v_1.toInt := (congrArg Int32.toInt (show f 0 16 = v_1 from ev_1.symm))
  have q_174 : (f 0 15).toInt = v_3.toInt := (congrArg Int32.toInt (show f 0 15 = v_3 from ev_3.symm))
  have q_176 : (f 0 13).toInt = v_5.toInt := (congrArg Int32.toInt (show f 0 13 = v_5 from ev_5.symm))
  refine sg_calli (va_runV (As := []) (rest := []) ⟨hx, hb, hml, hown, hts⟩ (kX12_one_0 l D ca za h hh f L Q hI (by omega) (by omega) H.size) (sl_c12_one_37_0_0_842_12 hts ⟨Nat.le_of_ble_eq_true rfl, Nat.le_of_ble_eq_true rfl⟩) (sl_vM_0 hA hK hP hS hZ) rfl rfl hl.1 rfl (lv_room (Nat.le_of_ble_eq_true rfl)) dX12_product_1 ⟨Nat.le_refl _, Nat.le_refl _⟩) hA hS (fun r_180 f_177 L_178 Q_179 H locs hq hP hS => ?_)
  obtain ⟨⟨hI, hk_f_177, eL9, eQ9⟩, hq, p_181, p_182, p_183, u_184⟩ := hq
  rw [eL9, eQ9] at hP; clear eL9 eQ9
  have hF : sgK WkX12_product_0 f f_177 := sgK.tr hF hk_f_177 (by decide +kernel)
  obtain ⟨v_185, ev_185⟩ : ∃ z : Int32, z = f_177 0 13 := ⟨_, rfl⟩
  have q_186 : 0 ≤ v_185.toInt ∧ v_185.toInt ≤ 120 := by rw [ev_185]; exact hI 0 13
  have q_187 : (f_177 0 13).toInt = v_185.toInt := (congrArg Int32.toInt (show f_177 0 13 = v_185 from ev_185.symm))
  obtain ⟨v_188, ev_188⟩ : ∃ z : Int32, z = f_177 0 16 := ⟨_, rfl⟩
  have q_189 : 0 ≤ v_188.toInt ∧ v_188.toInt ≤ 6 := by rw [ev_188]; exact hI 0 16
  have q_190 : (f_177 0 16).toInt = v_188.toInt := (congrArg Int32.toInt (show f_177 0 16 = v_188 from ev_188.symm))
  obtain ⟨v_191, ev_191⟩ : ∃ z : Int32, z = f_177 0 15 := ⟨_, rfl⟩
  have q_192 : (-1) ≤ v_191.toInt ∧ v_191.toInt ≤ 120 := by rw [ev_191]; exact hI 0 15
  have q_193 : (f_177 0 15).toInt = v_191.toInt := (congrArg Int32.toInt (show f_177 0 15 = v_191 from ev_191.symm))
  refine lv_istore_n (lv' := [(1, .int r_180), (0, .ref (h 0))]) hx hb dX12_product_4 rfl hl (by decide) rfl (fun ls hl => ?_)
  refine lv_aload_n hx hb dX12_product_5 rfl (lv_at hl 1 rfl) ?_
  have q_196 : (f_177 0 14).toInt = v_7.toInt := (congrArg Int32.toInt (show f_177 0 14 = v_7 from ((hk_f_177 0 14 (by decide)).trans ev_7.symm)))
  refine sg_calli (va_runV (As := []) (rest := []) ⟨hx, hb, hml, hown, hts⟩ (kX12_byteAt l D ca za h hh f_177 L Q hI H.size) (sl_c12_byteAt_0_0_0_0_12 hts ⟨Nat.le_of_ble_eq_true rfl, Nat.le_of_ble_eq_true rfl⟩) (sl_vM_0 hA hK hP hS hZ) rfl rfl hl.1 rfl (lv_room (Nat.le_of_ble_eq_true rfl)) dX12_product_6 ⟨Nat.le_refl _, Nat.le_refl _⟩) hA hS (fun r_200 f_197 L_198 Q_199 H locs hq hP hS => ?_)
  obtain ⟨⟨ef9, eL9, eQ9⟩, hq, p_201, u_202⟩ := hq
  rw [ef9, eL9, eQ9] at hP; clear ef9 eL9 eQ9
  refine lv_istore_n (lv' := [(2, .int r_200), (1, .int r_180), (0, .ref (h 0))]) hx hb dX12_product_9 rfl hl (by decide) rfl (fun ls hl => ?_)
  exact loop_10 121 r_180 r_200 f_177 _ _ _ (hs.trans ((spl_e ev_1 (spl_e ev_3 (spl_e ev_5 (spl_e ev_7 (spl2_e u_184 (spl_e ev_185 (spl_e ev_188 (spl_e ev_191 (spl_e u_202 rfl))))))))))) (by have zz0_13 : (f_177 0 13).toInt = v_185.toInt := (congrArg Int32.toInt (show f_177 0 13 = v_185 from ev_185.symm)); omega) ⟨by omega, by omega⟩ (by have zz0_13 : (f_177 0 13).toInt = v_185.toInt := (congrArg Int32.toInt (show f_177 0 13 = v_185 from ev_185.symm)); omega) (by have zz0_16 : (f_177 0 16).toInt = v_188.toInt := (congrArg Int32.toInt (show f_177 0 16 = v_188 from ev_188.symm)); omega) (by have zz0_15 : (f_177 0 15).toInt = v_191.toInt := (congrArg Int32.toInt (show f_177 0 15 = v_191 from ev_191.symm)); have zz0_16 : (f_177 0 16).toInt = v_188.toInt := (congrArg Int32.toInt (show f_177 0 16 = v_188 from ev_188.symm)); omega) (by have zz0_13 : (f_177 0 13).toInt = v_185.toInt := (congrArg Int32.toInt (show f_177 0 13 = v_185 from ev_185.symm)); have zz0_14 : (f_177 0 14).toInt = v_7.toInt := (congrArg Int32.toInt (show f_177 0 14 = v_7 from ((hk_f_177 0 14 (by decide)).trans ev_7.symm))); omega) hI hF hP hS (lv_sub hl [2, 1, 0] rfl)

abbrev WkX12_sums_0 : List (Nat × Nat × Option Nat) := [(0, 0, some 13), (0, 0, some 15), (0, 0, some 16)]
set_option maxHeartbeats 4000000 in
set_option maxRecDepth 100000 in
theorem kX12_sums_0 (l : Launch) (D : va_G) (ca : Nat → ClassId) (za h : Nat → Nat) (hh : sgH 26 h) (f : sg_F) (L : sg_L) (Q : sg_Q) (hI : sgI loM hiM f) (p0 : 0 ≤ (f 0 16).toInt) (p1 : 0 ≤ (f 0 15).toInt ∨ (f 0 16).toInt = 0) (sz : Nat) : Met l yX12_sums gwX12_sums { frames := 39, cells := 0, slots := 0, locals := 889 } (sgP D vwCl (tyX ca) 26 h (eM ca h) zcM za f L Q sz [.ref (h 0)]) (sgQi D vwCl 26 h (eM ca h) sz (fun r f1 L1 Q1 => ((sgI loM hiM f1 ∧ sgK WkX12_sums_0 f f1 ∧ L1 = L ∧ Q1 = Q) ∧ True ∧ ((f 0 13).toInt ≤ (f1 0 13).toInt) ∧ (0 ≤ (f1 0 16).toInt) ∧ (0 ≤ (f1 0 15).toInt ∨ (f1 0 16).toInt = 0) ∧ (r, f1) = sX12_sums_0 f L))) 0 0 (sgA 26 h sz) := by
  refine sg_ofWi (cc := cX12_sums) (maxL := 4) RX12 (by decide) rfl rfl (Nat.le_of_ble_eq_true rfl) ?_
  intro p e s m below meth cd Qz ls hx hb hml hown hts hK hZ hP hS hl hret
  have hA := sgY.self (n := 26) (h := h) (sz := s.heap.size)
  have hl : lv_has ls 4 [(0, .ref (h 0))] := hl
  obtain ⟨H, hH⟩ : ∃ z : Heap, z = s.heap := ⟨_, rfl⟩
  obtain ⟨locs, hlo⟩ : ∃ z : List Loc, z = [] := ⟨_, rfl⟩
  have hP : va_P D vwCl (sgw 26 h (eM ca h) f L Q) H := by rw [hH]; exact hP
  have hS : va_S (sgA 26 h s.heap.size) s.heap H locs := by rw [hH, hlo]; exact hS
  suffices hgo : W p l e ({ frames := 39, cells := 0, slots := 0, locals := 889 }) s m ([.ref (h 0)] : List Value).toArray below meth cd H locs 0 0 Qz (F0 m 0 ls []) by rw [hH, hlo] at hgo; exact hgo
  clear hH hlo
  obtain ⟨sp, hsp⟩ : ∃ z : Int32 × sg_F, z = sX12_sums_0 f L := ⟨_, rfl⟩
  have hs : sp = sX12_sums_0 f L := hsp
  obtain ⟨v_1, ev_1⟩ : ∃ z : Int32, z = f 0 16 := ⟨_, rfl⟩
  have q_2 : 0 ≤ v_1.toInt ∧ v_1.toInt ≤ 6 := by rw [ev_1]; exact hI 0 16
  obtain ⟨v_3, ev_3⟩ : ∃ z : Int32, z = f 0 15 := ⟨_, rfl⟩
  have q_4 : (-1) ≤ v_3.toInt ∧ v_3.toInt ≤ 120 := by rw [ev_3]; exact hI 0 15
  obtain ⟨v_5, ev_5⟩ : ∃ z : Int32, z = f 0 13 := ⟨_, rfl⟩
  have q_6 : 0 ≤ v_5.toInt ∧ v_5.toInt ≤ 120 := by rw [ev_5]; exact hI 0 13
  have o_7 : (f 0 16).toInt = v_1.toInt := (congrArg Int32.toInt (show f 0 16 = v_1 from ev_1.symm))
  have o_8 : (f 0 15).toInt = v_3.toInt := (congrArg Int32.toInt (show f 0 15 = v_3 from ev_3.symm))
  have o_9 : (f 0 13).toInt = v_5.toInt := (congrArg Int32.toInt (show f 0 13 = v_5 from ev_5.symm))
  have hF : sgK WkX12_sums_0 f f := sgK.rf
  have loop_5 : ∀ (n_5 : Nat) (y1_5 : Int32) (fp_5 : sg_F) (H : Heap) (locs : List Loc) (ls : Array Slot), sp = sX12_sums_0_l5 n_5 y1_5 fp_5 L → 120 - (fp_5 0 13).toInt < (n_5 : Int) → (f 0 13).toInt ≤ (fp_5 0 13).toInt → 0 ≤ (fp_5 0 16).toInt → 0 ≤ (fp_5 0 15).toInt ∨ (fp_5 0 16).toInt = 0 → sgI loM hiM fp_5 → sgK WkX12_sums_0 f fp_5 → va_P D vwCl (sgw 26 h (eM ca h) fp_5 L Q) H → va_S (sgA 26 h s.heap.size) s.heap H locs → lv_has ls 4 [(0, .ref (h 0)), (1, .int y1_5)] → W p l e ({ frames := 39, cells := 0, slots := 0, locals := 889 }) s m ([.ref (h 0)] : List Value).toArray below meth cd H locs 0 0 Qz (F0 m 5 ls []) := by
    intro n_5
    induction n_5 with
    | zero => intro y1_5 fp_5 H locs ls hs hm_5 hg0_5 hg1_5 hg2_5 hI hF hP hS hl; have zb := (show 0 ≤ (fp_5 0 13).toInt ∧ (fp_5 0 13).toInt ≤ 120 from hI 0 13); exact absurd hm_5 (by omega)
    | succ n_5 ih_5 =>
      intro y1_5 fp_5 H locs ls hs hm_5 hg0_5 hg1_5 hg2_5 hI hF hP hS hl
      have hs : sp = sX12_sums_0_h5 (sX12_sums_0_l5 n_5) y1_5 fp_5 L := hs
      obtain ⟨v_10, ev_10⟩ : ∃ z : Int32, z = fp_5 0 13 := ⟨_, rfl⟩
      have q_11 : 0 ≤ v_10.toInt ∧ v_10.toInt ≤ 120 := by rw [ev_10]; exact hI 0 13
      have q_12 : (fp_5 0 13).toInt = v_10.toInt := by rw [ev_10]
      obtain ⟨v_13, ev_13⟩ : ∃ z : Int32, z = fp_5 0 16 := ⟨_, rfl⟩
      have q_14 : 0 ≤ v_13.toInt ∧ v_13.toInt ≤ 6 := by rw [ev_13]; exact hI 0 16
      have q_15 : (fp_5 0 16).toInt = v_13.toInt := by rw [ev_13]
      obtain ⟨v_16, ev_16⟩ : ∃ z : Int32, z = fp_5 0 15 := ⟨_, rfl⟩
      replace hs := hs.trans (spl_e ev_10 (spl_e ev_13 (spl_e ev_16 rfl)))
      have q_17 : (-1) ≤ v_16.toInt ∧ v_16.toInt ≤ 120 := by rw [ev_16]; exact hI 0 15
      have q_18 : (fp_5 0 15).toInt = v_16.toInt := by rw [ev_16]
      refine lv_aload_n hx hb dX12_sums_5 rfl (lv_at hl 0 rfl) ?_
      refine sl_gM_0_15_12 (v := v_16) hx hb hts hown hK hP (show fp_5 0 15 = v_16 from ev_16.symm) dX12_sums_6 ?_
      refine lv_if_ge (tgt := 77) hx hb dX12_sums_9 (by decide) (fun c => ?_) (fun c => ?_)
      · skip
        have c_19 : 0 ≤ v_16.toInt := (by first | exact (cm_le0 ti_0 c) | (have z := bn_le c; have k1 : (0 : Int32).toInt = 0 := ti_0; omega))
        refine lv_iload_n hx hb dX12_sums_77 rfl (lv_at hl 1 rfl) ?_
        exact hret _ _ _ _ (y1_5) fp_5 L Q dX12_sums_78 hP hS ⟨⟨hI, hF, rfl, rfl⟩, trivial, (by omega), (by omega), (by omega), (Eq.trans (Eq.symm (hs.trans ((if_neg (Int.not_lt.mpr c_19)).trans rfl))) hsp)⟩
      · skip
        have c_20 : v_16.toInt < 0 := (by first | exact (cm_nle0 ti_0 c) | (have z := bn_nle c; have k1 : (0 : Int32).toInt = 0 := ti_0; omega))
        refine lv_aload_n hx hb dX12_sums_12 rfl (lv_at hl 0 rfl) ?_
        obtain ⟨v_26, ev_26⟩ : ∃ z : Int32, z = fp_5 0 14 := ⟨_, rfl⟩
        have q_27 : 0 ≤ v_26.toInt ∧ v_26.toInt ≤ 120 := by rw [ev_26]; exact hI 0 14
        have q_28 : (fp_5 0 14).toInt = v_26.toInt := (congrArg Int32.toInt (show fp_5 0 14 = v_26 from ev_26.symm))
        refine sg_calli (va_runV (As := []) (rest := []) ⟨hx, hb, hml, hown, hts⟩ (kX12_byteAt l D ca za h hh fp_5 L Q hI H.size) (sl_c12_byteAt_0_0_0_0_12 hts ⟨Nat.le_of_ble_eq_true rfl, Nat.le_of_ble_eq_true rfl⟩) (sl_vM_0 hA hK hP hS hZ) rfl rfl hl.1 rfl (lv_room (Nat.le_of_ble_eq_true rfl)) dX12_sums_13 ⟨Nat.le_refl _, Nat.le_refl _⟩) hA hS (fun r_32 f_29 L_30 Q_31 H locs hq hP hS => ?_)
        obtain ⟨⟨ef9, eL9, eQ9⟩, hq, p_33, u_34⟩ := hq
        replace hs := hs.trans ((if_pos c_20).trans (spl_e ev_26 (spl_e u_34 rfl)))
        rw [ef9, eL9, eQ9] at hP; clear ef9 eL9 eQ9
        refine lv_bipush (v := 43) hx hb dX12_sums_16 bp_43 ?_
        refine lv_icmp_eq (tgt := 30) hx hb dX12_sums_18 (by decide) (fun c => ?_) (fun c => ?_)
        · skip
          have c_35 : r_32.toInt = 43 := (by first | exact (cm_eq1 ti_43 c) | (have z := Int32.toInt_inj.mpr c; have k1 : (43 : Int32).toInt = 43 := ti_43; omega))
          refine lv_aload_n hx hb dX12_sums_30 rfl (lv_at hl 0 rfl) ?_
          refine sg_calli (va_runV (As := []) (rest := []) ⟨hx, hb, hml, hown, hts⟩ (kX12_byteAt l D ca za h hh fp_5 L Q hI H.size) (sl_c12_byteAt_0_0_0_0_12 hts ⟨Nat.le_of_ble_eq_true rfl, Nat.le_of_ble_eq_true rfl⟩) (sl_vM_0 hA hK hP hS hZ) rfl rfl hl.1 rfl (lv_room (Nat.le_of_ble_eq_true rfl)) dX12_sums_31 ⟨Nat.le_refl _, Nat.le_refl _⟩) hA hS (fun r_42 f_39 L_40 Q_41 H locs hq hP hS => ?_)
          obtain ⟨⟨ef9, eL9, eQ9⟩, hq, p_43, u_44⟩ := hq
          rw [ef9, eL9, eQ9] at hP; clear ef9 eL9 eQ9
          rw [show r_42 = r_32 from u_44.trans u_34.symm]
          refine lv_bipush (v := 43) hx hb dX12_sums_34 bp_43 ?_
          refine lv_icmp_ne (tgt := 43) hx hb dX12_sums_36 (by decide) (fun c => ?_) (fun c => ?_)
          · skip
            exfalso; have c_45 : r_32.toInt ≠ 43 := (by first | exact (cm_ne1 ti_43 c) | (have z := bn_ne c; have k1 : (43 : Int32).toInt = 43 := ti_43; omega)); first | exact absurd (by assumption) c_45 | omega
          · skip
            have c_46 : r_32.toInt = 43 := (by first | exact (cm_eq1 ti_43 c) | (have z := Int32.toInt_inj.mpr c; have k1 : (43 : Int32).toInt = 43 := ti_43; omega))
            refine lv_iconst (v := 1) hx hb dX12_sums_39 ic_1 ?_
            refine lv_goto (tgt := 44) hx hb dX12_sums_40 (by decide) ?_
            refine lv_istore_n (lv' := [(2, .int 1), (0, .ref (h 0)), (1, .int y1_5)]) hx hb dX12_sums_44 rfl hl (by decide) rfl (fun ls hl => ?_)
            refine lv_aload_n hx hb dX12_sums_45 rfl (lv_at hl 1 rfl) ?_
            refine lv_dup hx hb dX12_sums_46 rfl ?_
            refine sl_gM_0_13_12 (v := v_10) hx hb hts hown hK hP (show fp_5 0 13 = v_10 from ev_10.symm) dX12_sums_47 ?_
            refine lv_iconst (v := 1) hx hb dX12_sums_50 ic_1 ?_
            refine lv_iadd hx hb dX12_sums_51 ?_
            refine lv_topi (fun v_47 ev_47 => ?_)
            have q_48 : v_47.toInt = v_10.toInt + 1 := by rw [ev_47]; first | exact cm_add ti_1 (by omega) (by omega) | (have k1 : (1 : Int32).toInt = 1 := ti_1; exact (bn_addI (by omega) (by omega)).trans (by omega))
            refine sl_pM_0_13_12 (x := v_47) hx hb hts hown hh hA hK hP hS dX12_sums_52 (fun f_49 H locs ef_49 hP hS => ?_)
            have hI : sgI loM hiM f_49 := by rw [ef_49]; exact sgI.put hI 0 13 (show 0 ≤ (v_47 : Int32).toInt ∧ (v_47 : Int32).toInt ≤ 120 from ⟨by omega, by omega⟩)
            have hF : sgK WkX12_sums_0 f f_49 := sgK.put hF ef_49 (by rfl)
            refine lv_aload_n hx hb dX12_sums_55 rfl (lv_at hl 1 rfl) ?_
            have q_50 : (f_49 0 16).toInt = v_13.toInt := (congrArg Int32.toInt (show f_49 0 16 = v_13 from (by rw [ef_49, sg_up_s, sgu_n (by decide)]; exact ev_13.symm)))
            have q_51 : (f_49 0 15).toInt = v_16.toInt := (congrArg Int32.toInt (show f_49 0 15 = v_16 from (by rw [ef_49, sg_up_s, sgu_n (by decide)]; exact ev_16.symm)))
            have q_53 : (f_49 0 13).toInt = v_47.toInt := (congrArg Int32.toInt (show f_49 0 13 = v_47 from (by rw [ef_49, sg_up_s, sgu_s])))
            refine sg_calli (va_runV (As := []) (rest := []) ⟨hx, hb, hml, hown, hts⟩ (kX12_product_0 l D ca za h hh f_49 L Q hI (by omega) (by omega) H.size) (sl_c12_product_38_0_0_866_12 hts ⟨Nat.le_of_ble_eq_true rfl, Nat.le_of_ble_eq_true rfl⟩) (sl_vM_0 hA hK hP hS hZ) rfl rfl hl.1 rfl (lv_room (Nat.le_of_ble_eq_true rfl)) dX12_sums_56 ⟨Nat.le_refl _, Nat.le_refl _⟩) hA hS (fun r_57 f_54 L_55 Q_56 H locs hq hP hS => ?_)
            obtain ⟨⟨hI, hk_f_54, eL9, eQ9⟩, hq, p_58, p_59, p_60, u_61⟩ := hq
            rw [eL9, eQ9] at hP; clear eL9 eQ9
            have hF : sgK WkX12_sums_0 f f_54 := sgK.tr hF hk_f_54 (by decide +kernel)
            obtain ⟨v_62, ev_62⟩ : ∃ z : Int32, z = f_54 0 13 := ⟨_, rfl⟩
            have q_63 : 0 ≤ v_62.toInt ∧ v_62.toInt ≤ 120 := by rw [ev_62]; exact hI 0 13
            have q_64 : (f_54 0 13).toInt = v_62.toInt := (congrArg Int32.toInt (show f_54 0 13 = v_62 from ev_62.symm))
            obtain ⟨v_65, ev_65⟩ : ∃ z : Int32, z = f_54 0 16 := ⟨_, rfl⟩
            have q_66 : 0 ≤ v_65.toInt ∧ v_65.toInt ≤ 6 := by rw [ev_65]; exact hI 0 16
            have q_67 : (f_54 0 16).toInt = v_65.toInt := (congrArg Int32.toInt (show f_54 0 16 = v_65 from ev_65.symm))
            obtain ⟨v_68, ev_68⟩ : ∃ z : Int32, z = f_54 0 15 := ⟨_, rfl⟩
            have q_69 : (-1) ≤ v_68.toInt ∧ v_68.toInt ≤ 120 := by rw [ev_68]; exact hI 0 15
            have q_70 : (f_54 0 15).toInt = v_68.toInt := (congrArg Int32.toInt (show f_54 0 15 = v_68 from ev_68.symm))
            refine lv_istore_n (lv' := [(3, .int r_57), (2, .int 1), (0, .ref (h 0)), (1, .int y1_5)]) hx hb dX12_sums_59 rfl hl (by decide) rfl (fun ls hl => ?_)
            refine lv_iload_n hx hb dX12_sums_60 rfl (lv_at hl 1 rfl) ?_
            refine lv_if_eq (tgt := 70) hx hb dX12_sums_61 (by decide) (fun c => absurd c (by decide)) (fun c => ?_)
            refine lv_iload_n hx hb dX12_sums_64 rfl (lv_at hl 3 rfl) ?_
            refine lv_iload_n hx hb dX12_sums_65 rfl (lv_at hl 0 rfl) ?_
            refine lv_iadd hx hb dX12_sums_66 ?_
            refine lv_topi (fun v_72 ev_72 => ?_)
            refine lv_goto (tgt := 73) hx hb dX12_sums_67 (by decide) ?_
            refine lv_istore_n (lv' := [(1, .int v_72), (3, .int r_57), (2, .int 1), (0, .ref (h 0))]) hx hb dX12_sums_73 rfl hl (by decide) rfl (fun ls hl => ?_)
            refine lv_goto (tgt := 5) hx hb dX12_sums_74 (by decide) ?_
            exact ih_5 v_72 f_54 _ _ _ (hs.trans ((if_pos c_35).trans (spl_e ev_47 (spl_e ef_49 (spl2_e u_61 (spl_e ev_62 (spl_e ev_65 (spl_e ev_68 (spl_e ev_72 rfl))))))))) (by have zz0_13 : (f_54 0 13).toInt = v_62.toInt := (congrArg Int32.toInt (show f_54 0 13 = v_62 from ev_62.symm)); omega) (by have zz0_13 : (f_54 0 13).toInt = v_62.toInt := (congrArg Int32.toInt (show f_54 0 13 = v_62 from ev_62.symm)); omega) (by have zz0_16 : (f_54 0 16).toInt = v_65.toInt := (congrArg Int32.toInt (show f_54 0 16 = v_65 from ev_65.symm)); omega) (by have zz0_15 : (f_54 0 15).toInt = v_68.toInt := (congrArg Int32.toInt (show f_54 0 15 = v_68 from ev_68.symm)); have zz0_16 : (f_54 0 16).toInt = v_65.toInt := (congrArg Int32.toInt (show f_54 0 16 = v_65 from ev_65.symm)); omega) hI hF hP hS (lv_sub hl [3, 0] rfl)
        · skip
          have c_36 : r_32.toInt ≠ 43 := (by first | exact (cm_ne1 ti_43 c) | (have z := bn_ne c; have k1 : (43 : Int32).toInt = 43 := ti_43; omega))
          replace hs := hs.trans ((if_neg c_36).trans rfl)
          refine lv_aload_n hx hb dX12_sums_21 rfl (lv_at hl 0 rfl) ?_
          refine sg_calli (va_runV (As := []) (rest := []) ⟨hx, hb, hml, hown, hts⟩ (kX12_byteAt l D ca za h hh fp_5 L Q hI H.size) (sl_c12_byteAt_0_0_0_0_12 hts ⟨Nat.le_of_ble_eq_true rfl, Nat.le_of_ble_eq_true rfl⟩) (sl_vM_0 hA hK hP hS hZ) rfl rfl hl.1 rfl (lv_room (Nat.le_of_ble_eq_true rfl)) dX12_sums_22 ⟨Nat.le_refl _, Nat.le_refl _⟩) hA hS (fun r_78 f_75 L_76 Q_77 H locs hq hP hS => ?_)
          obtain ⟨⟨ef9, eL9, eQ9⟩, hq, p_79, u_80⟩ := hq
          rw [ef9, eL9, eQ9] at hP; clear ef9 eL9 eQ9
          rw [show r_78 = r_32 from u_80.trans u_34.symm]
          refine lv_bipush (v := 45) hx hb dX12_sums_25 bp_45 ?_
          refine lv_icmp_ne (tgt := 77) hx hb dX12_sums_27 (by decide) (fun c => ?_) (fun c => ?_)
          · skip
            have c_81 : r_32.toInt ≠ 45 := (by first | exact (cm_ne1 ti_45 c) | (have z := bn_ne c; have k1 : (45 : Int32).toInt = 45 := ti_45; omega))
            refine lv_iload_n hx hb dX12_sums_77 rfl (lv_at hl 1 rfl) ?_
            exact hret _ _ _ _ (y1_5) fp_5 L Q dX12_sums_78 hP hS ⟨⟨hI, hF, rfl, rfl⟩, trivial, (by omega), (by omega), (by omega), (Eq.trans (Eq.symm (hs.trans ((if_neg c_81).trans rfl))) hsp)⟩
          · skip
            have c_82 : r_32.toInt = 45 := (by first | exact (cm_eq1 ti_45 c) | (have z := Int32.toInt_inj.mpr c; have k1 : (45 : Int32).toInt = 45 := ti_45; omega))
            refine lv_aload_n hx hb dX12_sums_30 rfl (lv_at hl 0 rfl) ?_
            refine sg_calli (va_runV (As := []) (rest := []) ⟨hx, hb, hml, hown, hts⟩ (kX12_byteAt l D ca za h hh fp_5 L Q hI H.size) (sl_c12_byteAt_0_0_0_0_12 hts ⟨Nat.le_of_ble_eq_true rfl, Nat.le_of_ble_eq_true rfl⟩) (sl_vM_0 hA hK hP hS hZ) rfl rfl hl.1 rfl (lv_room (Nat.le_of_ble_eq_true rfl)) dX12_sums_31 ⟨Nat.le_refl _, Nat.le_refl _⟩) hA hS (fun r_92 f_89 L_90 Q_91 H locs hq hP hS => ?_)
            obtain ⟨⟨ef9, eL9, eQ9⟩, hq, p_93, u_94⟩ := hq
            rw [ef9, eL9, eQ9] at hP; clear ef9 eL9 eQ9
            rw [show r_92 = r_32 from u_94.trans u_34.symm]
            refine lv_bipush (v := 43) hx hb dX12_sums_34 bp_43 ?_
            refine lv_icmp_ne (tgt := 43) hx hb dX12_sums_36 (by decide) (fun c => ?_) (fun c => ?_)
            · skip
              have c_95 : r_32.toInt ≠ 43 := (by first | exact (cm_ne1 ti_43 c) | (have z := bn_ne c; have k1 : (43 : Int32).toInt = 43 := ti_43; omega))
              refine lv_iconst (v := 0) hx hb dX12_sums_43 ic_0 ?_
              refine lv_istore_n (lv' := [(2, .int 0), (0, .ref (h 0)), (1, .int y1_5)]) hx hb dX12_sums_44 rfl hl (by decide) rfl (fun ls hl => ?_)
              refine lv_aload_n hx hb dX12_sums_45 rfl (lv_at hl 1 rfl) ?_
              refine lv_dup hx hb dX12_sums_46 rfl ?_
              refine sl_gM_0_13_12 (v := v_10) hx hb hts hown hK hP (show fp_5 0 13 = v_10 from ev_10.symm) dX12_sums_47 ?_
              refine lv_iconst (v := 1) hx hb dX12_sums_50 ic_1 ?_
              refine lv_iadd hx hb dX12_sums_51 ?_
              refine lv_topi (fun v_97 ev_97 => ?_)
              have q_98 : v_97.toInt = v_10.toInt + 1 := by rw [ev_97]; first | exact cm_add ti_1 (by omega) (by omega) | (have k1 : (1 : Int32).toInt = 1 := ti_1; exact (bn_addI (by omega) (by omega)).trans (by omega))
              refine sl_pM_0_13_12 (x := v_97) hx hb hts hown hh hA hK hP hS dX12_sums_52 (fun f_99 H locs ef_99 hP hS => ?_)
              have hI : sgI loM hiM f_99 := by rw [ef_99]; exact sgI.put hI 0 13 (show 0 ≤ (v_97 : Int32).toInt ∧ (v_97 : Int32).toInt ≤ 120 from ⟨by omega, by omega⟩)
              have hF : sgK WkX12_sums_0 f f_99 := sgK.put hF ef_99 (by rfl)
              refine lv_aload_n hx hb dX12_sums_55 rfl (lv_at hl 1 rfl) ?_
              have q_100 : (f_99 0 16).toInt = v_13.toInt := (congrArg Int32.toInt (show f_99 0 16 = v_13 from (by rw [ef_99, sg_up_s, sgu_n (by decide)]; exact ev_13.symm)))
              have q_101 : (f_99 0 15).toInt = v_16.toInt := (congrArg Int32.toInt (show f_99 0 15 = v_16 from (by rw [ef_99, sg_up_s, sgu_n (by decide)]; exact ev_16.symm)))
              have q_103 : (f_99 0 13).toInt = v_97.toInt := (congrArg Int32.toInt (show f_99 0 13 = v_97 from (by rw [ef_99, sg_up_s, sgu_s])))
              refine sg_calli (va_runV (As := []) (rest := []) ⟨hx, hb, hml, hown, hts⟩ (kX12_product_0 l D ca za h hh f_99 L Q hI (by omega) (by omega) H.size) (sl_c12_product_38_0_0_866_12 hts ⟨Nat.le_of_ble_eq_true rfl, Nat.le_of_ble_eq_true rfl⟩) (sl_vM_0 hA hK hP hS hZ) rfl rfl hl.1 rfl (lv_room (Nat.le_of_ble_eq_true rfl)) dX12_sums_56 ⟨Nat.le_refl _, Nat.le_refl _⟩) hA hS (fun r_107 f_104 L_105 Q_106 H locs hq hP hS => ?_)
              obtain ⟨⟨hI, hk_f_104, eL9, eQ9⟩, hq, p_108, p_109, p_110, u_111⟩ := hq
              rw [eL9, eQ9] at hP; clear eL9 eQ9
              have hF : sgK WkX12_sums_0 f f_104 := sgK.tr hF hk_f_104 (by decide +kernel)
              obtain ⟨v_112, ev_112⟩ : ∃ z : Int32, z = f_104 0 13 := ⟨_, rfl⟩
              have q_113 : 0 ≤ v_112.toInt ∧ v_112.toInt ≤ 120 := by rw [ev_112]; exact hI 0 13
              have q_114 : (f_104 0 13).toInt = v_112.toInt := (congrArg Int32.toInt (show f_104 0 13 = v_112 from ev_112.symm))
              obtain ⟨v_115, ev_115⟩ : ∃ z : Int32, z = f_104 0 16 := ⟨_, rfl⟩
              have q_116 : 0 ≤ v_115.toInt ∧ v_115.toInt ≤ 6 := by rw [ev_115]; exact hI 0 16
              have q_117 : (f_104 0 16).toInt = v_115.toInt := (congrArg Int32.toInt (show f_104 0 16 = v_115 from ev_115.symm))
              obtain ⟨v_118, ev_118⟩ : ∃ z : Int32, z = f_104 0 15 := ⟨_, rfl⟩
              have q_119 : (-1) ≤ v_118.toInt ∧ v_118.toInt ≤ 120 := by rw [ev_118]; exact hI 0 15
              have q_120 : (f_104 0 15).toInt = v_118.toInt := (congrArg Int32.toInt (show f_104 0 15 = v_118 from ev_118.symm))
              refine lv_istore_n (lv' := [(3, .int r_107), (2, .int 0), (0, .ref (h 0)), (1, .int y1_5)]) hx hb dX12_sums_59 rfl hl (by decide) rfl (fun ls hl => ?_)
              refine lv_iload_n hx hb dX12_sums_60 rfl (lv_at hl 1 rfl) ?_
              refine lv_if_eq (tgt := 70) hx hb dX12_sums_61 (by decide) (fun c => ?_) (fun c => absurd c (by decide))
              refine lv_iload_n hx hb dX12_sums_70 rfl (lv_at hl 3 rfl) ?_
              refine lv_iload_n hx hb dX12_sums_71 rfl (lv_at hl 0 rfl) ?_
              refine lv_isub hx hb dX12_sums_72 ?_
              refine lv_topi (fun v_122 ev_122 => ?_)
              refine lv_istore_n (lv' := [(1, .int v_122), (3, .int r_107), (2, .int 0), (0, .ref (h 0))]) hx hb dX12_sums_73 rfl hl (by decide) rfl (fun ls hl => ?_)
              refine lv_goto (tgt := 5) hx hb dX12_sums_74 (by decide) ?_
              exact ih_5 v_122 f_104 _ _ _ (hs.trans ((if_pos c_82).trans (spl_e ev_97 (spl_e ef_99 (spl2_e u_111 (spl_e ev_112 (spl_e ev_115 (spl_e ev_118 (spl_e ev_122 rfl))))))))) (by have zz0_13 : (f_104 0 13).toInt = v_112.toInt := (congrArg Int32.toInt (show f_104 0 13 = v_112 from ev_112.symm)); omega) (by have zz0_13 : (f_104 0 13).toInt = v_112.toInt := (congrArg Int32.toInt (show f_104 0 13 = v_112 from ev_112.symm)); omega) (by have zz0_16 : (f_104 0 16).toInt = v_115.toInt := (congrArg Int32.toInt (show f_104 0 16 = v_115 from ev_115.symm)); omega) (by have zz0_15 : (f_104 0 15).toInt = v_118.toInt := (congrArg Int32.toInt (show f_104 0 15 = v_118 from ev_118.symm)); have zz0_16 : (f_104 0 16).toInt = v_115.toInt := (congrArg Int32.toInt (show f_104 0 16 = v_115 from ev_115.symm)); omega) hI hF hP hS (lv_sub hl [3, 0] rfl)
            · skip
              exfalso; have c_96 : r_32.toInt = 43 := (by first | exact (cm_eq1 ti_43 c) | (have z := Int32.toInt_inj.mpr c; have k1 : (43 : Int32).toInt = 43 := ti_43; omega)); first | exact absurd c_96 (by assumption) | omega
  refine lv_aload_n hx hb dX12_sums_0 rfl (lv_at hl 0 rfl) ?_
  have q_123 : (f 0 16).toInt = v_1.toInt := (congrArg Int32.toInt (show f 0 16 = v_1 from ev_1.symm))
  have q_124 : (f 0 15).toInt = v_3.toInt := (congrArg Int32.toInt (show f 0 15 = v_3 from ev_3.symm))
  have q_126 : (f 0 13).toInt = v_5.toInt := (congrArg Int32.toInt (show f 0 13 = v_5 from ev_5.symm))
  refine sg_calli (va_runV (As := []) (rest := []) ⟨hx, hb, hml, hown, hts⟩ (kX12_product_0 l D ca za h hh f L Q hI (by omega) (by omega) H.size) (sl_c12_product_38_0_0_866_12 hts ⟨Nat.le_of_ble_eq_true rfl, Nat.le_of_ble_eq_true rfl⟩) (sl_vM_0 hA hK hP hS hZ) rfl rfl hl.1 rfl (lv_room (Nat.le_of_ble_eq_true rfl)) dX12_sums_1 ⟨Nat.le_refl _, Nat.le_refl _⟩) hA hS (fun r_130 f_127 L_128 Q_129 H locs hq hP hS => ?_)
  obtain ⟨⟨hI, hk_f_127, eL9, eQ9⟩, hq, p_131, p_132, p_133, u_134⟩ := hq
  rw [eL9, eQ9] at hP; clear eL9 eQ9
  have hF : sgK WkX12_sums_0 f f_127 := sgK.tr hF hk_f_127 (by decide +kernel)
  obtain ⟨v_135, ev_135⟩ : ∃ z : Int32, z = f_127 0 13 := ⟨_, rfl⟩
  have q_136 : 0 ≤ v_135.toInt ∧ v_135.toInt ≤ 120 := by rw [ev_135]; exact hI 0 13
  have q_137 : (f_127 0 13).toInt = v_135.toInt := (congrArg Int32.toInt (show f_127 0 13 = v_135 from ev_135.symm))
  obtain ⟨v_138, ev_138⟩ : ∃ z : Int32, z = f_127 0 16 := ⟨_, rfl⟩
  have q_139 : 0 ≤ v_138.toInt ∧ v_138.toInt ≤ 6 := by rw [ev_138]; exact hI 0 16
  have q_140 : (f_127 0 16).toInt = v_138.toInt := (congrArg Int32.toInt (show f_127 0 16 = v_138 from ev_138.symm))
  obtain ⟨v_141, ev_141⟩ : ∃ z : Int32, z = f_127 0 15 := ⟨_, rfl⟩
  have q_142 : (-1) ≤ v_141.toInt ∧ v_141.toInt ≤ 120 := by rw [ev_141]; exact hI 0 15
  have q_143 : (f_127 0 15).toInt = v_141.toInt := (congrArg Int32.toInt (show f_127 0 15 = v_141 from ev_141.symm))
  refine lv_istore_n (lv' := [(1, .int r_130), (0, .ref (h 0))]) hx hb dX12_sums_4 rfl hl (by decide) rfl (fun ls hl => ?_)
  exact loop_5 121 r_130 f_127 _ _ _ (hs.trans ((spl_e ev_1 (spl_e ev_3 (spl_e ev_5 (spl2_e u_134 (spl_e ev_135 (spl_e ev_138 (spl_e ev_141 rfl))))))))) (by have zz0_13 : (f_127 0 13).toInt = v_135.toInt := (congrArg Int32.toInt (show f_127 0 13 = v_135 from ev_135.symm)); omega) (by have zz0_13 : (f_127 0 13).toInt = v_135.toInt := (congrArg Int32.toInt (show f_127 0 13 = v_135 from ev_135.symm)); omega) (by have zz0_16 : (f_127 0 16).toInt = v_138.toInt := (congrArg Int32.toInt (show f_127 0 16 = v_138 from ev_138.symm)); omega) (by have zz0_15 : (f_127 0 15).toInt = v_141.toInt := (congrArg Int32.toInt (show f_127 0 15 = v_141 from ev_141.symm)); have zz0_16 : (f_127 0 16).toInt = v_138.toInt := (congrArg Int32.toInt (show f_127 0 16 = v_138 from ev_138.symm)); omega) hI hF hP hS (lv_sub hl [1, 0] rfl)

abbrev WkX12_compared_0 : List (Nat × Nat × Option Nat) := [(0, 0, some 13), (0, 0, some 15), (0, 0, some 16)]
set_option maxHeartbeats 4000000 in
set_option maxRecDepth 100000 in
theorem kX12_compared_0 (l : Launch) (D : va_G) (ca : Nat → ClassId) (za h : Nat → Nat) (hh : sgH 26 h) (f : sg_F) (L : sg_L) (Q : sg_Q) (hI : sgI loM hiM f) (p0 : 0 ≤ (f 0 16).toInt) (p1 : 0 ≤ (f 0 15).toInt ∨ (f 0 16).toInt = 0) (sz : Nat) : Met l yX12_compared gwX12_compared { frames := 40, cells := 0, slots := 0, locals := 912 } (sgP D vwCl (tyX ca) 26 h (eM ca h) zcM za f L Q sz [.ref (h 0)]) (sgQi D vwCl 26 h (eM ca h) sz (fun r f1 L1 Q1 => ((sgI loM hiM f1 ∧ sgK WkX12_compared_0 f f1 ∧ L1 = L ∧ Q1 = Q) ∧ True ∧ ((f 0 13).toInt ≤ (f1 0 13).toInt) ∧ (0 ≤ (f1 0 16).toInt) ∧ (0 ≤ (f1 0 15).toInt ∨ (f1 0 16).toInt = 0) ∧ (r, f1) = sX12_compared_0 f L))) 0 0 (sgA 26 h sz) := by
  refine sg_ofWi (cc := cX12_compared) (maxL := 4) RX12 (by decide) rfl rfl (Nat.le_of_ble_eq_true rfl) ?_
  intro p e s m below meth cd Qz ls hx hb hml hown hts hK hZ hP hS hl hret
  have hA := sgY.self (n := 26) (h := h) (sz := s.heap.size)
  have hl : lv_has ls 4 [(0, .ref (h 0))] := hl
  obtain ⟨H, hH⟩ : ∃ z : Heap, z = s.heap := ⟨_, rfl⟩
  obtain ⟨locs, hlo⟩ : ∃ z : List Loc, z = [] := ⟨_, rfl⟩
  have hP : va_P D vwCl (sgw 26 h (eM ca h) f L Q) H := by rw [hH]; exact hP
  have hS : va_S (sgA 26 h s.heap.size) s.heap H locs := by rw [hH, hlo]; exact hS
  suffices hgo : W p l e ({ frames := 40, cells := 0, slots := 0, locals := 912 }) s m ([.ref (h 0)] : List Value).toArray below meth cd H locs 0 0 Qz (F0 m 0 ls []) by rw [hH, hlo] at hgo; exact hgo
  clear hH hlo
  obtain ⟨sp, hsp⟩ : ∃ z : Int32 × sg_F, z = sX12_compared_0 f L := ⟨_, rfl⟩
  have hs : sp = sX12_compared_0 f L := hsp
  obtain ⟨v_1, ev_1⟩ : ∃ z : Int32, z = f 0 16 := ⟨_, rfl⟩
  have q_2 : 0 ≤ v_1.toInt ∧ v_1.toInt ≤ 6 := by rw [ev_1]; exact hI 0 16
  obtain ⟨v_3, ev_3⟩ : ∃ z : Int32, z = f 0 15 := ⟨_, rfl⟩
  have q_4 : (-1) ≤ v_3.toInt ∧ v_3.toInt ≤ 120 := by rw [ev_3]; exact hI 0 15
  obtain ⟨v_5, ev_5⟩ : ∃ z : Int32, z = f 0 13 := ⟨_, rfl⟩
  have q_6 : 0 ≤ v_5.toInt ∧ v_5.toInt ≤ 120 := by rw [ev_5]; exact hI 0 13
  have o_7 : (f 0 16).toInt = v_1.toInt := (congrArg Int32.toInt (show f 0 16 = v_1 from ev_1.symm))
  have o_8 : (f 0 15).toInt = v_3.toInt := (congrArg Int32.toInt (show f 0 15 = v_3 from ev_3.symm))
  have o_9 : (f 0 13).toInt = v_5.toInt := (congrArg Int32.toInt (show f 0 13 = v_5 from ev_5.symm))
  have hF : sgK WkX12_compared_0 f f := sgK.rf
  refine lv_aload_n hx hb dX12_compared_0 rfl (lv_at hl 0 rfl) ?_
  have q_10 : (f 0 16).toInt = v_1.toInt := (congrArg Int32.toInt (show f 0 16 = v_1 from ev_1.symm))
  have q_11 : (f 0 15).toInt = v_3.toInt := (congrArg Int32.toInt (show f 0 15 = v_3 from ev_3.symm))
  have q_13 : (f 0 13).toInt = v_5.toInt := (congrArg Int32.toInt (show f 0 13 = v_5 from ev_5.symm))
  refine sg_calli (va_runV (As := []) (rest := []) ⟨hx, hb, hml, hown, hts⟩ (kX12_sums_0 l D ca za h hh f L Q hI (by omega) (by omega) H.size) (sl_c12_sums_39_0_0_889_12 hts ⟨Nat.le_of_ble_eq_true rfl, Nat.le_of_ble_eq_true rfl⟩) (sl_vM_0 hA hK hP hS hZ) rfl rfl hl.1 rfl (lv_room (Nat.le_of_ble_eq_true rfl)) dX12_compared_1 ⟨Nat.le_refl _, Nat.le_refl _⟩) hA hS (fun r_17 f_14 L_15 Q_16 H locs hq hP hS => ?_)
  obtain ⟨⟨hI, hk_f_14, eL9, eQ9⟩, hq, p_18, p_19, p_20, u_21⟩ := hq
  rw [eL9, eQ9] at hP; clear eL9 eQ9
  have hF : sgK WkX12_compared_0 f f_14 := sgK.tr hF hk_f_14 (by decide +kernel)
  obtain ⟨v_22, ev_22⟩ : ∃ z : Int32, z = f_14 0 13 := ⟨_, rfl⟩
  have q_23 : 0 ≤ v_22.toInt ∧ v_22.toInt ≤ 120 := by rw [ev_22]; exact hI 0 13
  have q_24 : (f_14 0 13).toInt = v_22.toInt := (congrArg Int32.toInt (show f_14 0 13 = v_22 from ev_22.symm))
  obtain ⟨v_25, ev_25⟩ : ∃ z : Int32, z = f_14 0 16 := ⟨_, rfl⟩
  have q_26 : 0 ≤ v_25.toInt ∧ v_25.toInt ≤ 6 := by rw [ev_25]; exact hI 0 16
  have q_27 : (f_14 0 16).toInt = v_25.toInt := (congrArg Int32.toInt (show f_14 0 16 = v_25 from ev_25.symm))
  obtain ⟨v_28, ev_28⟩ : ∃ z : Int32, z = f_14 0 15 := ⟨_, rfl⟩
  have q_29 : (-1) ≤ v_28.toInt ∧ v_28.toInt ≤ 120 := by rw [ev_28]; exact hI 0 15
  have q_30 : (f_14 0 15).toInt = v_28.toInt := (congrArg Int32.toInt (show f_14 0 15 = v_28 from ev_28.symm))
  refine lv_istore_n (lv' := [(1, .int r_17), (0, .ref (h 0))]) hx hb dX12_compared_4 rfl hl (by decide) rfl (fun ls hl => ?_)
  refine lv_aload_n hx hb dX12_compared_5 rfl (lv_at hl 1 rfl) ?_
  obtain ⟨v_33, ev_33⟩ : ∃ z : Int32, z = f_14 0 14 := ⟨_, rfl⟩
  have q_34 : 0 ≤ v_33.toInt ∧ v_33.toInt ≤ 120 := by rw [ev_33]; exact hI 0 14
  have q_35 : (f_14 0 14).toInt = v_33.toInt := (congrArg Int32.toInt (show f_14 0 14 = v_33 from ev_33.symm))
  refine sg_calli (va_runV (As := []) (rest := []) ⟨hx, hb, hml, hown, hts⟩ (kX12_byteAt l D ca za h hh f_14 L Q hI H.size) (sl_c12_byteAt_0_0_0_0_12 hts ⟨Nat.le_of_ble_eq_true rfl, Nat.le_of_ble_eq_true rfl⟩) (sl_vM_0 hA hK hP hS hZ) rfl rfl hl.1 rfl (lv_room (Nat.le_of_ble_eq_true rfl)) dX12_compared_6 ⟨Nat.le_refl _, Nat.le_refl _⟩) hA hS (fun r_39 f_36 L_37 Q_38 H locs hq hP hS => ?_)
  obtain ⟨⟨ef9, eL9, eQ9⟩, hq, p_40, u_41⟩ := hq
  replace hs := hs.trans (spl_e ev_1 (spl_e ev_3 (spl_e ev_5 (spl2_e u_21 (spl_e ev_22 (spl_e ev_25 (spl_e ev_28 (spl_e ev_33 (spl_e u_41 rfl)))))))))
  rw [ef9, eL9, eQ9] at hP; clear ef9 eL9 eQ9
  refine lv_istore_n (lv' := [(2, .int r_39), (1, .int r_17), (0, .ref (h 0))]) hx hb dX12_compared_9 rfl hl (by decide) rfl (fun ls hl => ?_)
  refine lv_aload_n hx hb dX12_compared_10 rfl (lv_at hl 2 rfl) ?_
  refine sl_gM_0_15_12 (v := v_28) hx hb hts hown hK hP (show f_14 0 15 = v_28 from ev_28.symm) dX12_compared_11 ?_
  refine lv_if_ge (tgt := 35) hx hb dX12_compared_14 (by decide) (fun c => ?_) (fun c => ?_)
  · skip
    have c_42 : 0 ≤ v_28.toInt := (by first | exact (cm_le0 ti_0 c) | (have z := bn_le c; have k1 : (0 : Int32).toInt = 0 := ti_0; omega))
    refine lv_iload_n hx hb dX12_compared_35 rfl (lv_at hl 1 rfl) ?_
    exact hret _ _ _ _ (r_17) f_14 L Q dX12_compared_36 hP hS ⟨⟨hI, hF, rfl, rfl⟩, trivial, (by omega), (by omega), (by omega), (Eq.trans (Eq.symm (hs.trans ((if_neg (Int.not_lt.mpr c_42)).trans rfl))) hsp)⟩
  · skip
    have c_43 : v_28.toInt < 0 := (by first | exact (cm_nle0 ti_0 c) | (have z := bn_nle c; have k1 : (0 : Int32).toInt = 0 := ti_0; omega))
    replace hs := hs.trans ((if_pos c_43).trans rfl)
    refine lv_iload_n hx hb dX12_compared_17 rfl (lv_at hl 0 rfl) ?_
    refine lv_bipush (v := 60) hx hb dX12_compared_18 bp_60 ?_
    refine lv_icmp_eq (tgt := 37) hx hb dX12_compared_20 (by decide) (fun c => ?_) (fun c => ?_)
    · skip
      have c_48 : r_39.toInt = 60 := (by first | exact (cm_eq1 ti_60 c) | (have z := Int32.toInt_inj.mpr c; have k1 : (60 : Int32).toInt = 60 := ti_60; omega))
      refine lv_aload_n hx hb dX12_compared_37 rfl (lv_at hl 2 rfl) ?_
      refine lv_dup hx hb dX12_compared_38 rfl ?_
      refine sl_gM_0_13_12 (v := v_22) hx hb hts hown hK hP (show f_14 0 13 = v_22 from ev_22.symm) dX12_compared_39 ?_
      refine lv_iconst (v := 1) hx hb dX12_compared_42 ic_1 ?_
      refine lv_iadd hx hb dX12_compared_43 ?_
      refine lv_topi (fun v_50 ev_50 => ?_)
      have q_51 : v_50.toInt = v_22.toInt + 1 := by rw [ev_50]; first | exact cm_add ti_1 (by omega) (by omega) | (have k1 : (1 : Int32).toInt = 1 := ti_1; exact (bn_addI (by omega) (by omega)).trans (by omega))
      refine sl_pM_0_13_12 (x := v_50) hx hb hts hown hh hA hK hP hS dX12_compared_44 (fun f_52 H locs ef_52 hP hS => ?_)
      have hI : sgI loM hiM f_52 := by rw [ef_52]; exact sgI.put hI 0 13 (show 0 ≤ (v_50 : Int32).toInt ∧ (v_50 : Int32).toInt ≤ 120 from ⟨by omega, by omega⟩)
      have hF : sgK WkX12_compared_0 f f_52 := sgK.put hF ef_52 (by rfl)
      refine lv_aload_n hx hb dX12_compared_47 rfl (lv_at hl 2 rfl) ?_
      have q_53 : (f_52 0 16).toInt = v_25.toInt := (congrArg Int32.toInt (show f_52 0 16 = v_25 from (by rw [ef_52, sg_up_s, sgu_n (by decide)]; exact ev_25.symm)))
      have q_54 : (f_52 0 15).toInt = v_28.toInt := (congrArg Int32.toInt (show f_52 0 15 = v_28 from (by rw [ef_52, sg_up_s, sgu_n (by decide)]; exact ev_28.symm)))
      have q_56 : (f_52 0 13).toInt = v_50.toInt := (congrArg Int32.toInt (show f_52 0 13 = v_50 from (by rw [ef_52, sg_up_s, sgu_s])))
      refine sg_calli (va_runV (As := []) (rest := []) ⟨hx, hb, hml, hown, hts⟩ (kX12_sums_0 l D ca za h hh f_52 L Q hI (by omega) (by omega) H.size) (sl_c12_sums_39_0_0_889_12 hts ⟨Nat.le_of_ble_eq_true rfl, Nat.le_of_ble_eq_true rfl⟩) (sl_vM_0 hA hK hP hS hZ) rfl rfl hl.1 rfl (lv_room (Nat.le_of_ble_eq_true rfl)) dX12_compared_48 ⟨Nat.le_refl _, Nat.le_refl _⟩) hA hS (fun r_60 f_57 L_58 Q_59 H locs hq hP hS => ?_)
      obtain ⟨⟨hI, hk_f_57, eL9, eQ9⟩, hq, p_61, p_62, p_63, u_64⟩ := hq
      rw [eL9, eQ9] at hP; clear eL9 eQ9
      have hF : sgK WkX12_compared_0 f f_57 := sgK.tr hF hk_f_57 (by decide +kernel)
      obtain ⟨v_65, ev_65⟩ : ∃ z : Int32, z = f_57 0 13 := ⟨_, rfl⟩
      have q_66 : 0 ≤ v_65.toInt ∧ v_65.toInt ≤ 120 := by rw [ev_65]; exact hI 0 13
      have q_67 : (f_57 0 13).toInt = v_65.toInt := (congrArg Int32.toInt (show f_57 0 13 = v_65 from ev_65.symm))
      obtain ⟨v_68, ev_68⟩ : ∃ z : Int32, z = f_57 0 16 := ⟨_, rfl⟩
      have q_69 : 0 ≤ v_68.toInt ∧ v_68.toInt ≤ 6 := by rw [ev_68]; exact hI 0 16
      have q_70 : (f_57 0 16).toInt = v_68.toInt := (congrArg Int32.toInt (show f_57 0 16 = v_68 from ev_68.symm))
      obtain ⟨v_71, ev_71⟩ : ∃ z : Int32, z = f_57 0 15 := ⟨_, rfl⟩
      replace hs := hs.trans ((if_pos c_48).trans (spl_e ev_50 (spl_e ef_52 (spl2_e u_64 (spl_e ev_65 (spl_e ev_68 (spl_e ev_71 rfl)))))))
      have q_72 : (-1) ≤ v_71.toInt ∧ v_71.toInt ≤ 120 := by rw [ev_71]; exact hI 0 15
      have q_73 : (f_57 0 15).toInt = v_71.toInt := (congrArg Int32.toInt (show f_57 0 15 = v_71 from ev_71.symm))
      refine lv_istore_n (lv' := [(3, .int r_60), (2, .int r_39), (1, .int r_17), (0, .ref (h 0))]) hx hb dX12_compared_51 rfl hl (by decide) rfl (fun ls hl => ?_)
      refine lv_iload_n hx hb dX12_compared_52 rfl (lv_at hl 1 rfl) ?_
      refine lv_bipush (v := 60) hx hb dX12_compared_53 bp_60 ?_
      refine lv_icmp_ne (tgt := 66) hx hb dX12_compared_55 (by decide) (fun c => ?_) (fun c => ?_)
      · skip
        exfalso; have c_75 : r_39.toInt ≠ 60 := (by first | exact (cm_ne1 ti_60 c) | (have z := bn_ne c; have k1 : (60 : Int32).toInt = 60 := ti_60; omega)); first | exact absurd (by assumption) c_75 | omega
      · skip
        have c_76 : r_39.toInt = 60 := (by first | exact (cm_eq1 ti_60 c) | (have z := Int32.toInt_inj.mpr c; have k1 : (60 : Int32).toInt = 60 := ti_60; omega))
        refine lv_iload_n hx hb dX12_compared_58 rfl (lv_at hl 2 rfl) ?_
        refine lv_iload_n hx hb dX12_compared_59 rfl (lv_at hl 0 rfl) ?_
        refine lv_icmp_ge (tgt := 89) hx hb dX12_compared_60 (by decide) (fun c => ?_) (fun c => ?_)
        · skip
          have c_77 : r_60.toInt ≤ r_17.toInt := (by first | exact (bn_le c) | (have z := bn_le c; omega))
          refine lv_iconst (v := 0) hx hb dX12_compared_89 ic_0 ?_
          have k99 : (0 : Int32).toInt = 0 := ti_0
          exact hret _ _ _ _ (0) f_57 L Q dX12_compared_90 hP hS ⟨⟨hI, hF, rfl, rfl⟩, trivial, (by omega), (by omega), (by omega), (Eq.trans (Eq.symm (hs.trans ((if_neg (Int.not_lt.mpr c_77)).trans rfl))) hsp)⟩
        · skip
          have c_78 : r_17.toInt < r_60.toInt := (by first | exact (bn_nle c) | (have z := bn_nle c; omega))
          refine lv_goto (tgt := 85) hx hb dX12_compared_63 (by decide) ?_
          refine lv_iconst (v := 1) hx hb dX12_compared_85 ic_1 ?_
          refine lv_goto (tgt := 90) hx hb dX12_compared_86 (by decide) ?_
          have k99 : (1 : Int32).toInt = 1 := ti_1
          exact hret _ _ _ _ (1) f_57 L Q dX12_compared_90 hP hS ⟨⟨hI, hF, rfl, rfl⟩, trivial, (by omega), (by omega), (by omega), (Eq.trans (Eq.symm (hs.trans ((if_pos c_78).trans rfl))) hsp)⟩
    · skip
      have c_49 : r_39.toInt ≠ 60 := (by first | exact (cm_ne1 ti_60 c) | (have z := bn_ne c; have k1 : (60 : Int32).toInt = 60 := ti_60; omega))
      replace hs := hs.trans ((if_neg c_49).trans rfl)
      refine lv_iload_n hx hb dX12_compared_23 rfl (lv_at hl 0 rfl) ?_
      refine lv_bipush (v := 61) hx hb dX12_compared_24 bp_61 ?_
      refine lv_icmp_eq (tgt := 37) hx hb dX12_compared_26 (by decide) (fun c => ?_) (fun c => ?_)
      · skip
        have c_87 : r_39.toInt = 61 := (by first | exact (cm_eq1 ti_61 c) | (have z := Int32.toInt_inj.mpr c; have k1 : (61 : Int32).toInt = 61 := ti_61; omega))
        refine lv_aload_n hx hb dX12_compared_37 rfl (lv_at hl 2 rfl) ?_
        refine lv_dup hx hb dX12_compared_38 rfl ?_
        refine sl_gM_0_13_12 (v := v_22) hx hb hts hown hK hP (show f_14 0 13 = v_22 from ev_22.symm) dX12_compared_39 ?_
        refine lv_iconst (v := 1) hx hb dX12_compared_42 ic_1 ?_
        refine lv_iadd hx hb dX12_compared_43 ?_
        refine lv_topi (fun v_89 ev_89 => ?_)
        have q_90 : v_89.toInt = v_22.toInt + 1 := by rw [ev_89]; first | exact cm_add ti_1 (by omega) (by omega) | (have k1 : (1 : Int32).toInt = 1 := ti_1; exact (bn_addI (by omega) (by omega)).trans (by omega))
        refine sl_pM_0_13_12 (x := v_89) hx hb hts hown hh hA hK hP hS dX12_compared_44 (fun f_91 H locs ef_91 hP hS => ?_)
        have hI : sgI loM hiM f_91 := by rw [ef_91]; exact sgI.put hI 0 13 (show 0 ≤ (v_89 : Int32).toInt ∧ (v_89 : Int32).toInt ≤ 120 from ⟨by omega, by omega⟩)
        have hF : sgK WkX12_compared_0 f f_91 := sgK.put hF ef_91 (by rfl)
        refine lv_aload_n hx hb dX12_compared_47 rfl (lv_at hl 2 rfl) ?_
        have q_92 : (f_91 0 16).toInt = v_25.toInt := (congrArg Int32.toInt (show f_91 0 16 = v_25 from (by rw [ef_91, sg_up_s, sgu_n (by decide)]; exact ev_25.symm)))
        have q_93 : (f_91 0 15).toInt = v_28.toInt := (congrArg Int32.toInt (show f_91 0 15 = v_28 from (by rw [ef_91, sg_up_s, sgu_n (by decide)]; exact ev_28.symm)))
        have q_95 : (f_91 0 13).toInt = v_89.toInt := (congrArg Int32.toInt (show f_91 0 13 = v_89 from (by rw [ef_91, sg_up_s, sgu_s])))
        refine sg_calli (va_runV (As := []) (rest := []) ⟨hx, hb, hml, hown, hts⟩ (kX12_sums_0 l D ca za h hh f_91 L Q hI (by omega) (by omega) H.size) (sl_c12_sums_39_0_0_889_12 hts ⟨Nat.le_of_ble_eq_true rfl, Nat.le_of_ble_eq_true rfl⟩) (sl_vM_0 hA hK hP hS hZ) rfl rfl hl.1 rfl (lv_room (Nat.le_of_ble_eq_true rfl)) dX12_compared_48 ⟨Nat.le_refl _, Nat.le_refl _⟩) hA hS (fun r_99 f_96 L_97 Q_98 H locs hq hP hS => ?_)
        obtain ⟨⟨hI, hk_f_96, eL9, eQ9⟩, hq, p_100, p_101, p_102, u_103⟩ := hq
        rw [eL9, eQ9] at hP; clear eL9 eQ9
        have hF : sgK WkX12_compared_0 f f_96 := sgK.tr hF hk_f_96 (by decide +kernel)
        obtain ⟨v_104, ev_104⟩ : ∃ z : Int32, z = f_96 0 13 := ⟨_, rfl⟩
        have q_105 : 0 ≤ v_104.toInt ∧ v_104.toInt ≤ 120 := by rw [ev_104]; exact hI 0 13
        have q_106 : (f_96 0 13).toInt = v_104.toInt := (congrArg Int32.toInt (show f_96 0 13 = v_104 from ev_104.symm))
        obtain ⟨v_107, ev_107⟩ : ∃ z : Int32, z = f_96 0 16 := ⟨_, rfl⟩
        have q_108 : 0 ≤ v_107.toInt ∧ v_107.toInt ≤ 6 := by rw [ev_107]; exact hI 0 16
        have q_109 : (f_96 0 16).toInt = v_107.toInt := (congrArg Int32.toInt (show f_96 0 16 = v_107 from ev_107.symm))
        obtain ⟨v_110, ev_110⟩ : ∃ z : Int32, z = f_96 0 15 := ⟨_, rfl⟩
        replace hs := hs.trans ((if_pos c_87).trans (spl_e ev_89 (spl_e ef_91 (spl2_e u_103 (spl_e ev_104 (spl_e ev_107 (spl_e ev_110 rfl)))))))
        have q_111 : (-1) ≤ v_110.toInt ∧ v_110.toInt ≤ 120 := by rw [ev_110]; exact hI 0 15
        have q_112 : (f_96 0 15).toInt = v_110.toInt := (congrArg Int32.toInt (show f_96 0 15 = v_110 from ev_110.symm))
        refine lv_istore_n (lv' := [(3, .int r_99), (2, .int r_39), (1, .int r_17), (0, .ref (h 0))]) hx hb dX12_compared_51 rfl hl (by decide) rfl (fun ls hl => ?_)
        refine lv_iload_n hx hb dX12_compared_52 rfl (lv_at hl 1 rfl) ?_
        refine lv_bipush (v := 60) hx hb dX12_compared_53 bp_60 ?_
        refine lv_icmp_ne (tgt := 66) hx hb dX12_compared_55 (by decide) (fun c => ?_) (fun c => ?_)
        · skip
          have c_114 : r_39.toInt ≠ 60 := (by first | exact (cm_ne1 ti_60 c) | (have z := bn_ne c; have k1 : (60 : Int32).toInt = 60 := ti_60; omega))
          refine lv_iload_n hx hb dX12_compared_66 rfl (lv_at hl 1 rfl) ?_
          refine lv_bipush (v := 61) hx hb dX12_compared_67 bp_61 ?_
          refine lv_icmp_ne (tgt := 80) hx hb dX12_compared_69 (by decide) (fun c => ?_) (fun c => ?_)
          · skip
            exfalso; have c_116 : r_39.toInt ≠ 61 := (by first | exact (cm_ne1 ti_61 c) | (have z := bn_ne c; have k1 : (61 : Int32).toInt = 61 := ti_61; omega)); first | exact absurd (by assumption) c_116 | omega
          · skip
            have c_117 : r_39.toInt = 61 := (by first | exact (cm_eq1 ti_61 c) | (have z := Int32.toInt_inj.mpr c; have k1 : (61 : Int32).toInt = 61 := ti_61; omega))
            refine lv_iload_n hx hb dX12_compared_72 rfl (lv_at hl 2 rfl) ?_
            refine lv_iload_n hx hb dX12_compared_73 rfl (lv_at hl 0 rfl) ?_
            refine lv_icmp_ne (tgt := 89) hx hb dX12_compared_74 (by decide) (fun c => ?_) (fun c => ?_)
            · skip
              have c_118 : r_17.toInt ≠ r_99.toInt := (by first | exact (bn_ne c) | (have z := bn_ne c; omega))
              refine lv_iconst (v := 0) hx hb dX12_compared_89 ic_0 ?_
              have k99 : (0 : Int32).toInt = 0 := ti_0
              exact hret _ _ _ _ (0) f_96 L Q dX12_compared_90 hP hS ⟨⟨hI, hF, rfl, rfl⟩, trivial, (by omega), (by omega), (by omega), (Eq.trans (Eq.symm (hs.trans ((if_neg c_118).trans rfl))) hsp)⟩
            · skip
              have c_119 : r_17.toInt = r_99.toInt := (by first | exact (Int32.toInt_inj.mpr c) | (have z := Int32.toInt_inj.mpr c; omega))
              refine lv_goto (tgt := 85) hx hb dX12_compared_77 (by decide) ?_
              refine lv_iconst (v := 1) hx hb dX12_compared_85 ic_1 ?_
              refine lv_goto (tgt := 90) hx hb dX12_compared_86 (by decide) ?_
              have k99 : (1 : Int32).toInt = 1 := ti_1
              exact hret _ _ _ _ (1) f_96 L Q dX12_compared_90 hP hS ⟨⟨hI, hF, rfl, rfl⟩, trivial, (by omega), (by omega), (by omega), (Eq.trans (Eq.symm (hs.trans ((if_pos c_119).trans rfl))) hsp)⟩
        · skip
          exfalso; have c_115 : r_39.toInt = 60 := (by first | exact (cm_eq1 ti_60 c) | (have z := Int32.toInt_inj.mpr c; have k1 : (60 : Int32).toInt = 60 := ti_60; omega)); first | exact absurd c_115 (by assumption) | omega
      · skip
        have c_88 : r_39.toInt ≠ 61 := (by first | exact (cm_ne1 ti_61 c) | (have z := bn_ne c; have k1 : (61 : Int32).toInt = 61 := ti_61; omega))
        replace hs := hs.trans ((if_neg c_88).trans rfl)
        refine lv_iload_n hx hb dX12_compared_29 rfl (lv_at hl 0 rfl) ?_
        refine lv_bipush (v := 62) hx hb dX12_compared_30 bp_62 ?_
        refine lv_icmp_eq (tgt := 37) hx hb dX12_compared_32 (by decide) (fun c => ?_) (fun c => ?_)
        · skip
          have c_128 : r_39.toInt = 62 := (by first | exact (cm_eq1 ti_62 c) | (have z := Int32.toInt_inj.mpr c; have k1 : (62 : Int32).toInt = 62 := ti_62; omega))
          refine lv_aload_n hx hb dX12_compared_37 rfl (lv_at hl 2 rfl) ?_
          refine lv_dup hx hb dX12_compared_38 rfl ?_
          refine sl_gM_0_13_12 (v := v_22) hx hb hts hown hK hP (show f_14 0 13 = v_22 from ev_22.symm) dX12_compared_39 ?_
          refine lv_iconst (v := 1) hx hb dX12_compared_42 ic_1 ?_
          refine lv_iadd hx hb dX12_compared_43 ?_
          refine lv_topi (fun v_130 ev_130 => ?_)
          have q_131 : v_130.toInt = v_22.toInt + 1 := by rw [ev_130]; first | exact cm_add ti_1 (by omega) (by omega) | (have k1 : (1 : Int32).toInt = 1 := ti_1; exact (bn_addI (by omega) (by omega)).trans (by omega))
          refine sl_pM_0_13_12 (x := v_130) hx hb hts hown hh hA hK hP hS dX12_compared_44 (fun f_132 H locs ef_132 hP hS => ?_)
          have hI : sgI loM hiM f_132 := by rw [ef_132]; exact sgI.put hI 0 13 (show 0 ≤ (v_130 : Int32).toInt ∧ (v_130 : Int32).toInt ≤ 120 from ⟨by omega, by omega⟩)
          have hF : sgK WkX12_compared_0 f f_132 := sgK.put hF ef_132 (by rfl)
          refine lv_aload_n hx hb dX12_compared_47 rfl (lv_at hl 2 rfl) ?_
          have q_133 : (f_132 0 16).toInt = v_25.toInt := (congrArg Int32.toInt (show f_132 0 16 = v_25 from (by rw [ef_132, sg_up_s, sgu_n (by decide)]; exact ev_25.symm)))
          have q_134 : (f_132 0 15).toInt = v_28.toInt := (congrArg Int32.toInt (show f_132 0 15 = v_28 from (by rw [ef_132, sg_up_s, sgu_n (by decide)]; exact ev_28.symm)))
          have q_136 : (f_132 0 13).toInt = v_130.toInt := (congrArg Int32.toInt (show f_132 0 13 = v_130 from (by rw [ef_132, sg_up_s, sgu_s])))
          refine sg_calli (va_runV (As := []) (rest := []) ⟨hx, hb, hml, hown, hts⟩ (kX12_sums_0 l D ca za h hh f_132 L Q hI (by omega) (by omega) H.size) (sl_c12_sums_39_0_0_889_12 hts ⟨Nat.le_of_ble_eq_true rfl, Nat.le_of_ble_eq_true rfl⟩) (sl_vM_0 hA hK hP hS hZ) rfl rfl hl.1 rfl (lv_room (Nat.le_of_ble_eq_true rfl)) dX12_compared_48 ⟨Nat.le_refl _, Nat.le_refl _⟩) hA hS (fun r_140 f_137 L_138 Q_139 H locs hq hP hS => ?_)
          obtain ⟨⟨hI, hk_f_137, eL9, eQ9⟩, hq, p_141, p_142, p_143, u_144⟩ := hq
          rw [eL9, eQ9] at hP; clear eL9 eQ9
          have hF : sgK WkX12_compared_0 f f_137 := sgK.tr hF hk_f_137 (by decide +kernel)
          obtain ⟨v_145, ev_145⟩ : ∃ z : Int32, z = f_137 0 13 := ⟨_, rfl⟩
          have q_146 : 0 ≤ v_145.toInt ∧ v_145.toInt ≤ 120 := by rw [ev_145]; exact hI 0 13
          have q_147 : (f_137 0 13).toInt = v_145.toInt := (congrArg Int32.toInt (show f_137 0 13 = v_145 from ev_145.symm))
          obtain ⟨v_148, ev_148⟩ : ∃ z : Int32, z = f_137 0 16 := ⟨_, rfl⟩
          have q_149 : 0 ≤ v_148.toInt ∧ v_148.toInt ≤ 6 := by rw [ev_148]; exact hI 0 16
          have q_150 : (f_137 0 16).toInt = v_148.toInt := (congrArg Int32.toInt (show f_137 0 16 = v_148 from ev_148.symm))
          obtain ⟨v_151, ev_151⟩ : ∃ z : Int32, z = f_137 0 15 := ⟨_, rfl⟩
          replace hs := hs.trans ((if_pos c_128).trans (spl_e ev_130 (spl_e ef_132 (spl2_e u_144 (spl_e ev_145 (spl_e ev_148 (spl_e ev_151 rfl)))))))
          have q_152 : (-1) ≤ v_151.toInt ∧ v_151.toInt ≤ 120 := by rw [ev_151]; exact hI 0 15
          have q_153 : (f_137 0 15).toInt = v_151.toInt := (congrArg Int32.toInt (show f_137 0 15 = v_151 from ev_151.symm))
          refine lv_istore_n (lv' := [(3, .int r_140), (2, .int r_39), (1, .int r_17), (0, .ref (h 0))]) hx hb dX12_compared_51 rfl hl (by decide) rfl (fun ls hl => ?_)
          refine lv_iload_n hx hb dX12_compared_52 rfl (lv_at hl 1 rfl) ?_
          refine lv_bipush (v := 60) hx hb dX12_compared_53 bp_60 ?_
          refine lv_icmp_ne (tgt := 66) hx hb dX12_compared_55 (by decide) (fun c => ?_) (fun c => ?_)
          · skip
            have c_155 : r_39.toInt ≠ 60 := (by first | exact (cm_ne1 ti_60 c) | (have z := bn_ne c; have k1 : (60 : Int32).toInt = 60 := ti_60; omega))
            refine lv_iload_n hx hb dX12_compared_66 rfl (lv_at hl 1 rfl) ?_
            refine lv_bipush (v := 61) hx hb dX12_compared_67 bp_61 ?_
            refine lv_icmp_ne (tgt := 80) hx hb dX12_compared_69 (by decide) (fun c => ?_) (fun c => ?_)
            · skip
              have c_157 : r_39.toInt ≠ 61 := (by first | exact (cm_ne1 ti_61 c) | (have z := bn_ne c; have k1 : (61 : Int32).toInt = 61 := ti_61; omega))
              refine lv_iload_n hx hb dX12_compared_80 rfl (lv_at hl 2 rfl) ?_
              refine lv_iload_n hx hb dX12_compared_81 rfl (lv_at hl 0 rfl) ?_
              refine lv_icmp_le (tgt := 89) hx hb dX12_compared_82 (by decide) (fun c => ?_) (fun c => ?_)
              · skip
                have c_159 : r_17.toInt ≤ r_140.toInt := (by first | exact (bn_le c) | (have z := bn_le c; omega))
                refine lv_iconst (v := 0) hx hb dX12_compared_89 ic_0 ?_
                have k99 : (0 : Int32).toInt = 0 := ti_0
                exact hret _ _ _ _ (0) f_137 L Q dX12_compared_90 hP hS ⟨⟨hI, hF, rfl, rfl⟩, trivial, (by omega), (by omega), (by omega), (Eq.trans (Eq.symm (hs.trans ((if_neg (Int.not_lt.mpr c_159)).trans rfl))) hsp)⟩
              · skip
                have c_160 : r_140.toInt < r_17.toInt := (by first | exact (bn_nle c) | (have z := bn_nle c; omega))
                refine lv_iconst (v := 1) hx hb dX12_compared_85 ic_1 ?_
                refine lv_goto (tgt := 90) hx hb dX12_compared_86 (by decide) ?_
                have k99 : (1 : Int32).toInt = 1 := ti_1
                exact hret _ _ _ _ (1) f_137 L Q dX12_compared_90 hP hS ⟨⟨hI, hF, rfl, rfl⟩, trivial, (by omega), (by omega), (by omega), (Eq.trans (Eq.symm (hs.trans ((if_pos c_160).trans rfl))) hsp)⟩
            · skip
              exfalso; have c_158 : r_39.toInt = 61 := (by first | exact (cm_eq1 ti_61 c) | (have z := Int32.toInt_inj.mpr c; have k1 : (61 : Int32).toInt = 61 := ti_61; omega)); first | exact absurd c_158 (by assumption) | omega
          · skip
            exfalso; have c_156 : r_39.toInt = 60 := (by first | exact (cm_eq1 ti_60 c) | (have z := Int32.toInt_inj.mpr c; have k1 : (60 : Int32).toInt = 60 := ti_60; omega)); first | exact absurd c_156 (by assumption) | omega
        · skip
          have c_129 : r_39.toInt ≠ 62 := (by first | exact (cm_ne1 ti_62 c) | (have z := bn_ne c; have k1 : (62 : Int32).toInt = 62 := ti_62; omega))
          refine lv_iload_n hx hb dX12_compared_35 rfl (lv_at hl 1 rfl) ?_
          exact hret _ _ _ _ (r_17) f_14 L Q dX12_compared_36 hP hS ⟨⟨hI, hF, rfl, rfl⟩, trivial, (by omega), (by omega), (by omega), (Eq.trans (Eq.symm (hs.trans ((if_neg c_129).trans rfl))) hsp)⟩

abbrev WkX12_both_0 : List (Nat × Nat × Option Nat) := [(0, 0, some 13), (0, 0, some 15), (0, 0, some 16)]
set_option maxHeartbeats 4000000 in
set_option maxRecDepth 100000 in
theorem kX12_both_0 (l : Launch) (D : va_G) (ca : Nat → ClassId) (za h : Nat → Nat) (hh : sgH 26 h) (f : sg_F) (L : sg_L) (Q : sg_Q) (hI : sgI loM hiM f) (p0 : 0 ≤ (f 0 16).toInt) (p1 : 0 ≤ (f 0 15).toInt ∨ (f 0 16).toInt = 0) (sz : Nat) : Met l yX12_both gwX12_both { frames := 41, cells := 0, slots := 0, locals := 935 } (sgP D vwCl (tyX ca) 26 h (eM ca h) zcM za f L Q sz [.ref (h 0)]) (sgQi D vwCl 26 h (eM ca h) sz (fun r f1 L1 Q1 => ((sgI loM hiM f1 ∧ sgK WkX12_both_0 f f1 ∧ L1 = L ∧ Q1 = Q) ∧ True ∧ ((f 0 13).toInt ≤ (f1 0 13).toInt) ∧ (0 ≤ (f1 0 16).toInt) ∧ (0 ≤ (f1 0 15).toInt ∨ (f1 0 16).toInt = 0) ∧ (r, f1) = sX12_both_0 f L))) 0 0 (sgA 26 h sz) := by
  refine sg_ofWi (cc := cX12_both) (maxL := 3) RX12 (by decide) rfl rfl (Nat.le_of_ble_eq_true rfl) ?_
  intro p e s m below meth cd Qz ls hx hb hml hown hts hK hZ hP hS hl hret
  have hA := sgY.self (n := 26) (h := h) (sz := s.heap.size)
  have hl : lv_has ls 3 [(0, .ref (h 0))] := hl
  obtain ⟨H, hH⟩ : ∃ z : Heap, z = s.heap := ⟨_, rfl⟩
  obtain ⟨locs, hlo⟩ : ∃ z : List Loc, z = [] := ⟨_, rfl⟩
  have hP : va_P D vwCl (sgw 26 h (eM ca h) f L Q) H := by rw [hH]; exact hP
  have hS : va_S (sgA 26 h s.heap.size) s.heap H locs := by rw [hH, hlo]; exact hS
  suffices hgo : W p l e ({ frames := 41, cells := 0, slots := 0, locals := 935 }) s m ([.ref (h 0)] : List Value).toArray below meth cd H locs 0 0 Qz (F0 m 0 ls []) by rw [hH, hlo] at hgo; exact hgo
  clear hH hlo
  obtain ⟨sp, hsp⟩ : ∃ z : Int32 × sg_F, z = sX12_both_0 f L := ⟨_, rfl⟩
  have hs : sp = sX12_both_0 f L := hsp
  obtain ⟨v_1, ev_1⟩ : ∃ z : Int32, z = f 0 16 := ⟨_, rfl⟩
  have q_2 : 0 ≤ v_1.toInt ∧ v_1.toInt ≤ 6 := by rw [ev_1]; exact hI 0 16
  obtain ⟨v_3, ev_3⟩ : ∃ z : Int32, z = f 0 15 := ⟨_, rfl⟩
  have q_4 : (-1) ≤ v_3.toInt ∧ v_3.toInt ≤ 120 := by rw [ev_3]; exact hI 0 15
  obtain ⟨v_5, ev_5⟩ : ∃ z : Int32, z = f 0 13 := ⟨_, rfl⟩
  have q_6 : 0 ≤ v_5.toInt ∧ v_5.toInt ≤ 120 := by rw [ev_5]; exact hI 0 13
  have o_7 : (f 0 16).toInt = v_1.toInt := (congrArg Int32.toInt (show f 0 16 = v_1 from ev_1.symm))
  have o_8 : (f 0 15).toInt = v_3.toInt := (congrArg Int32.toInt (show f 0 15 = v_3 from ev_3.symm))
  have o_9 : (f 0 13).toInt = v_5.toInt := (congrArg Int32.toInt (show f 0 13 = v_5 from ev_5.symm))
  have hF : sgK WkX12_both_0 f f := sgK.rf
  have loop_5 : ∀ (n_5 : Nat) (y1_5 : Int32) (fp_5 : sg_F) (H : Heap) (locs : List Loc) (ls : Array Slot), sp = sX12_both_0_l5 n_5 y1_5 fp_5 L → 120 - (fp_5 0 13).toInt < (n_5 : Int) → (f 0 13).toInt ≤ (fp_5 0 13).toInt → 0 ≤ (fp_5 0 16).toInt → 0 ≤ (fp_5 0 15).toInt ∨ (fp_5 0 16).toInt = 0 → sgI loM hiM fp_5 → sgK WkX12_both_0 f fp_5 → va_P D vwCl (sgw 26 h (eM ca h) fp_5 L Q) H → va_S (sgA 26 h s.heap.size) s.heap H locs → lv_has ls 3 [(0, .ref (h 0)), (1, .int y1_5)] → W p l e ({ frames := 41, cells := 0, slots := 0, locals := 935 }) s m ([.ref (h 0)] : List Value).toArray below meth cd H locs 0 0 Qz (F0 m 5 ls []) := by
    intro n_5
    induction n_5 with
    | zero => intro y1_5 fp_5 H locs ls hs hm_5 hg0_5 hg1_5 hg2_5 hI hF hP hS hl; have zb := (show 0 ≤ (fp_5 0 13).toInt ∧ (fp_5 0 13).toInt ≤ 120 from hI 0 13); exact absurd hm_5 (by omega)
    | succ n_5 ih_5 =>
      intro y1_5 fp_5 H locs ls hs hm_5 hg0_5 hg1_5 hg2_5 hI hF hP hS hl
      have hs : sp = sX12_both_0_h5 (sX12_both_0_l5 n_5) y1_5 fp_5 L := hs
      obtain ⟨v_10, ev_10⟩ : ∃ z : Int32, z = fp_5 0 13 := ⟨_, rfl⟩
      have q_11 : 0 ≤ v_10.toInt ∧ v_10.toInt ≤ 120 := by rw [ev_10]; exact hI 0 13
      have q_12 : (fp_5 0 13).toInt = v_10.toInt := by rw [ev_10]
      obtain ⟨v_13, ev_13⟩ : ∃ z : Int32, z = fp_5 0 16 := ⟨_, rfl⟩
      have q_14 : 0 ≤ v_13.toInt ∧ v_13.toInt ≤ 6 := by rw [ev_13]; exact hI 0 16
      have q_15 : (fp_5 0 16).toInt = v_13.toInt := by rw [ev_13]
      obtain ⟨v_16, ev_16⟩ : ∃ z : Int32, z = fp_5 0 15 := ⟨_, rfl⟩
      have q_17 : (-1) ≤ v_16.toInt ∧ v_16.toInt ≤ 120 := by rw [ev_16]; exact hI 0 15
      have q_18 : (fp_5 0 15).toInt = v_16.toInt := by rw [ev_16]
      refine lv_aload_n hx hb dX12_both_5 rfl (lv_at hl 0 rfl) ?_
      refine lv_bipush (v := 38) hx hb dX12_both_6 bp_38 ?_
      obtain ⟨v_21, ev_21⟩ : ∃ z : Int32, z = fp_5 0 14 := ⟨_, rfl⟩
      have q_22 : 0 ≤ v_21.toInt ∧ v_21.toInt ≤ 120 := by rw [ev_21]; exact hI 0 14
      have q_23 : (fp_5 0 14).toInt = v_21.toInt := (congrArg Int32.toInt (show fp_5 0 14 = v_21 from ev_21.symm))
      refine sg_calli (va_runV (As := [.int 38]) (rest := []) ⟨hx, hb, hml, hown, hts⟩ (kX12_takes_38 l D ca za h hh fp_5 L Q hI H.size) (sl_c12_takes_1_0_0_20_12 hts ⟨Nat.le_of_ble_eq_true rfl, Nat.le_of_ble_eq_true rfl⟩) (sl_vM_0 hA hK hP hS hZ) rfl rfl hl.1 rfl (lv_room (Nat.le_of_ble_eq_true rfl)) dX12_both_8 ⟨Nat.le_refl _, Nat.le_refl _⟩) hA hS (fun r_29 f_26 L_27 Q_28 H locs hq hP hS => ?_)
      obtain ⟨⟨hI, hk_f_26, eL9, eQ9⟩, hq, u_30⟩ := hq
      rw [eL9, eQ9] at hP; clear eL9 eQ9
      have hF : sgK WkX12_both_0 f f_26 := sgK.tr hF hk_f_26 (by decide +kernel)
      obtain ⟨v_31, ev_31⟩ : ∃ z : Int32, z = f_26 0 13 := ⟨_, rfl⟩
      replace hs := hs.trans (spl_e ev_10 (spl_e ev_13 (spl_e ev_16 (spl_e ev_21 (spl2_e u_30 (spl_e ev_31 rfl))))))
      have q_32 : 0 ≤ v_31.toInt ∧ v_31.toInt ≤ 120 := by rw [ev_31]; exact hI 0 13
      have q_33 : (f_26 0 13).toInt = v_31.toInt := (congrArg Int32.toInt (show f_26 0 13 = v_31 from ev_31.symm))
      have k_35 : (38 : Int32).toInt = 38 := by decide
      rcases hq with ⟨rfl, hq⟩ | ⟨rfl, hq⟩
      · skip
        have hc_36 := hq
        refine lv_if_eq (tgt := 36) hx hb dX12_both_11 (by decide) (fun c => absurd c (by decide)) (fun c => ?_)
        refine lv_aload_n hx hb dX12_both_14 rfl (lv_at hl 0 rfl) ?_
        have q_37 : (f_26 0 16).toInt = v_13.toInt := (congrArg Int32.toInt (show f_26 0 16 = v_13 from ((hk_f_26 0 16 (by decide)).trans ev_13.symm)))
        have q_38 : (f_26 0 15).toInt = v_16.toInt := (congrArg Int32.toInt (show f_26 0 15 = v_16 from ((hk_f_26 0 15 (by decide)).trans ev_16.symm)))
        refine sg_calli (va_runV (As := []) (rest := []) ⟨hx, hb, hml, hown, hts⟩ (kX12_compared_0 l D ca za h hh f_26 L Q hI (by omega) (by omega) H.size) (sl_c12_compared_40_0_0_912_12 hts ⟨Nat.le_of_ble_eq_true rfl, Nat.le_of_ble_eq_true rfl⟩) (sl_vM_0 hA hK hP hS hZ) rfl rfl hl.1 rfl (lv_room (Nat.le_of_ble_eq_true rfl)) dX12_both_15 ⟨Nat.le_refl _, Nat.le_refl _⟩) hA hS (fun r_44 f_41 L_42 Q_43 H locs hq hP hS => ?_)
        obtain ⟨⟨hI, hk_f_41, eL9, eQ9⟩, hq, p_45, p_46, p_47, u_48⟩ := hq
        rw [eL9, eQ9] at hP; clear eL9 eQ9
        have hF : sgK WkX12_both_0 f f_41 := sgK.tr hF hk_f_41 (by decide +kernel)
        obtain ⟨v_49, ev_49⟩ : ∃ z : Int32, z = f_41 0 13 := ⟨_, rfl⟩
        have q_50 : 0 ≤ v_49.toInt ∧ v_49.toInt ≤ 120 := by rw [ev_49]; exact hI 0 13
        have q_51 : (f_41 0 13).toInt = v_49.toInt := (congrArg Int32.toInt (show f_41 0 13 = v_49 from ev_49.symm))
        obtain ⟨v_52, ev_52⟩ : ∃ z : Int32, z = f_41 0 16 := ⟨_, rfl⟩
        have q_53 : 0 ≤ v_52.toInt ∧ v_52.toInt ≤ 6 := by rw [ev_52]; exact hI 0 16
        have q_54 : (f_41 0 16).toInt = v_52.toInt := (congrArg Int32.toInt (show f_41 0 16 = v_52 from ev_52.symm))
        obtain ⟨v_55, ev_55⟩ : ∃ z : Int32, z = f_41 0 15 := ⟨_, rfl⟩
        replace hs := hs.trans ((if_pos rfl).trans (spl2_e u_48 (spl_e ev_49 (spl_e ev_52 (spl_e ev_55 rfl)))))
        have q_56 : (-1) ≤ v_55.toInt ∧ v_55.toInt ≤ 120 := by rw [ev_55]; exact hI 0 15
        have q_57 : (f_41 0 15).toInt = v_55.toInt := (congrArg Int32.toInt (show f_41 0 15 = v_55 from ev_55.symm))
        refine lv_istore_n (lv' := [(2, .int r_44), (0, .ref (h 0)), (1, .int y1_5)]) hx hb dX12_both_18 rfl hl (by decide) rfl (fun ls hl => ?_)
        refine lv_iload_n hx hb dX12_both_19 rfl (lv_at hl 2 rfl) ?_
        refine lv_if_eq (tgt := 31) hx hb dX12_both_20 (by decide) (fun c => ?_) (fun c => ?_)
        · skip
          have c_59 : y1_5.toInt = 0 := (by first | exact (cm_eq1 ti_0 c) | (have z := Int32.toInt_inj.mpr c; have k1 : (0 : Int32).toInt = 0 := ti_0; omega))
          refine lv_iconst (v := 0) hx hb dX12_both_31 ic_0 ?_
          refine lv_istore_n (lv' := [(1, .int 0), (2, .int r_44), (0, .ref (h 0))]) hx hb dX12_both_32 rfl hl (by decide) rfl (fun ls hl => ?_)
          refine lv_goto (tgt := 5) hx hb dX12_both_33 (by decide) ?_
          exact ih_5 0 f_41 _ _ _ (hs.trans ((if_pos c_59).trans rfl)) (by have kc0 : (0 : Int32).toInt = 0 := ti_0; have zz0_13 : (f_41 0 13).toInt = v_49.toInt := (congrArg Int32.toInt (show f_41 0 13 = v_49 from ev_49.symm)); omega) (by have kc0 : (0 : Int32).toInt = 0 := ti_0; have zz0_13 : (f_41 0 13).toInt = v_49.toInt := (congrArg Int32.toInt (show f_41 0 13 = v_49 from ev_49.symm)); omega) (by have kc0 : (0 : Int32).toInt = 0 := ti_0; have zz0_16 : (f_41 0 16).toInt = v_52.toInt := (congrArg Int32.toInt (show f_41 0 16 = v_52 from ev_52.symm)); omega) (by have kc0 : (0 : Int32).toInt = 0 := ti_0; have zz0_15 : (f_41 0 15).toInt = v_55.toInt := (congrArg Int32.toInt (show f_41 0 15 = v_55 from ev_55.symm)); have zz0_16 : (f_41 0 16).toInt = v_52.toInt := (congrArg Int32.toInt (show f_41 0 16 = v_52 from ev_52.symm)); omega) hI hF hP hS (lv_sub hl [2, 0] rfl)
        · skip
          have c_60 : y1_5.toInt ≠ 0 := (by first | exact (cm_ne1 ti_0 c) | (have z := bn_ne c; have k1 : (0 : Int32).toInt = 0 := ti_0; omega))
          replace hs := hs.trans ((if_neg c_60).trans rfl)
          refine lv_iload_n hx hb dX12_both_23 rfl (lv_at hl 0 rfl) ?_
          refine lv_if_eq (tgt := 31) hx hb dX12_both_24 (by decide) (fun c => ?_) (fun c => ?_)
          · skip
            have c_61 : r_44.toInt = 0 := (by first | exact (cm_eq1 ti_0 c) | (have z := Int32.toInt_inj.mpr c; have k1 : (0 : Int32).toInt = 0 := ti_0; omega))
            refine lv_iconst (v := 0) hx hb dX12_both_31 ic_0 ?_
            refine lv_istore_n (lv' := [(1, .int 0), (2, .int r_44), (0, .ref (h 0))]) hx hb dX12_both_32 rfl hl (by decide) rfl (fun ls hl => ?_)
            refine lv_goto (tgt := 5) hx hb dX12_both_33 (by decide) ?_
            exact ih_5 0 f_41 _ _ _ (hs.trans ((if_pos c_61).trans rfl)) (by have kc0 : (0 : Int32).toInt = 0 := ti_0; have zz0_13 : (f_41 0 13).toInt = v_49.toInt := (congrArg Int32.toInt (show f_41 0 13 = v_49 from ev_49.symm)); omega) (by have kc0 : (0 : Int32).toInt = 0 := ti_0; have zz0_13 : (f_41 0 13).toInt = v_49.toInt := (congrArg Int32.toInt (show f_41 0 13 = v_49 from ev_49.symm)); omega) (by have kc0 : (0 : Int32).toInt = 0 := ti_0; have zz0_16 : (f_41 0 16).toInt = v_52.toInt := (congrArg Int32.toInt (show f_41 0 16 = v_52 from ev_52.symm)); omega) (by have kc0 : (0 : Int32).toInt = 0 := ti_0; have zz0_15 : (f_41 0 15).toInt = v_55.toInt := (congrArg Int32.toInt (show f_41 0 15 = v_55 from ev_55.symm)); have zz0_16 : (f_41 0 16).toInt = v_52.toInt := (congrArg Int32.toInt (show f_41 0 16 = v_52 from ev_52.symm)); omega) hI hF hP hS (lv_sub hl [2, 0] rfl)
          · skip
            have c_62 : r_44.toInt ≠ 0 := (by first | exact (cm_ne1 ti_0 c) | (have z := bn_ne c; have k1 : (0 : Int32).toInt = 0 := ti_0; omega))
            refine lv_iconst (v := 1) hx hb dX12_both_27 ic_1 ?_
            refine lv_goto (tgt := 32) hx hb dX12_both_28 (by decide) ?_
            refine lv_istore_n (lv' := [(1, .int 1), (2, .int r_44), (0, .ref (h 0))]) hx hb dX12_both_32 rfl hl (by decide) rfl (fun ls hl => ?_)
            refine lv_goto (tgt := 5) hx hb dX12_both_33 (by decide) ?_
            exact ih_5 1 f_41 _ _ _ (hs.trans ((if_neg c_62).trans rfl)) (by have kc0 : (1 : Int32).toInt = 1 := ti_1; have zz0_13 : (f_41 0 13).toInt = v_49.toInt := (congrArg Int32.toInt (show f_41 0 13 = v_49 from ev_49.symm)); omega) (by have kc0 : (1 : Int32).toInt = 1 := ti_1; have zz0_13 : (f_41 0 13).toInt = v_49.toInt := (congrArg Int32.toInt (show f_41 0 13 = v_49 from ev_49.symm)); omega) (by have kc0 : (1 : Int32).toInt = 1 := ti_1; have zz0_16 : (f_41 0 16).toInt = v_52.toInt := (congrArg Int32.toInt (show f_41 0 16 = v_52 from ev_52.symm)); omega) (by have kc0 : (1 : Int32).toInt = 1 := ti_1; have zz0_15 : (f_41 0 15).toInt = v_55.toInt := (congrArg Int32.toInt (show f_41 0 15 = v_55 from ev_55.symm)); have zz0_16 : (f_41 0 16).toInt = v_52.toInt := (congrArg Int32.toInt (show f_41 0 16 = v_52 from ev_52.symm)); omega) hI hF hP hS (lv_sub hl [2, 0] rfl)
      · skip
        have hc_36 := hq
        refine lv_if_eq (tgt := 36) hx hb dX12_both_11 (by decide) (fun c => ?_) (fun c => absurd c (by decide))
        refine lv_iload_n hx hb dX12_both_36 rfl (lv_at hl 1 rfl) ?_
        have q_64 : (f_26 0 16).toInt = v_13.toInt := (congrArg Int32.toInt (show f_26 0 16 = v_13 from ((hk_f_26 0 16 (by decide)).trans ev_13.symm)))
        have q_65 : (f_26 0 15).toInt = v_16.toInt := (congrArg Int32.toInt (show f_26 0 15 = v_16 from ((hk_f_26 0 15 (by decide)).trans ev_16.symm)))
        exact hret _ _ _ _ (y1_5) f_26 L Q dX12_both_37 hP hS ⟨⟨hI, hF, rfl, rfl⟩, trivial, (by omega), (by omega), (by omega), (Eq.trans (Eq.symm (hs.trans ((if_neg (by decide)).trans rfl))) hsp)⟩
  refine lv_aload_n hx hb dX12_both_0 rfl (lv_at hl 0 rfl) ?_
  have q_67 : (f 0 16).toInt = v_1.toInt := (congrArg Int32.toInt (show f 0 16 = v_1 from ev_1.symm))
  have q_68 : (f 0 15).toInt = v_3.toInt := (congrArg Int32.toInt (show f 0 15 = v_3 from ev_3.symm))
  have q_70 : (f 0 13).toInt = v_5.toInt := (congrArg Int32.toInt (show f 0 13 = v_5 from ev_5.symm))
  refine sg_calli (va_runV (As := []) (rest := []) ⟨hx, hb, hml, hown, hts⟩ (kX12_compared_0 l D ca za h hh f L Q hI (by omega) (by omega) H.size) (sl_c12_compared_40_0_0_912_12 hts ⟨Nat.le_of_ble_eq_true rfl, Nat.le_of_ble_eq_true rfl⟩) (sl_vM_0 hA hK hP hS hZ) rfl rfl hl.1 rfl (lv_room (Nat.le_of_ble_eq_true rfl)) dX12_both_1 ⟨Nat.le_refl _, Nat.le_refl _⟩) hA hS (fun r_74 f_71 L_72 Q_73 H locs hq hP hS => ?_)
  obtain ⟨⟨hI, hk_f_71, eL9, eQ9⟩, hq, p_75, p_76, p_77, u_78⟩ := hq
  rw [eL9, eQ9] at hP; clear eL9 eQ9
  have hF : sgK WkX12_both_0 f f_71 := sgK.tr hF hk_f_71 (by decide +kernel)
  obtain ⟨v_79, ev_79⟩ : ∃ z : Int32, z = f_71 0 13 := ⟨_, rfl⟩
  have q_80 : 0 ≤ v_79.toInt ∧ v_79.toInt ≤ 120 := by rw [ev_79]; exact hI 0 13
  have q_81 : (f_71 0 13).toInt = v_79.toInt := (congrArg Int32.toInt (show f_71 0 13 = v_79 from ev_79.symm))
  obtain ⟨v_82, ev_82⟩ : ∃ z : Int32, z = f_71 0 16 := ⟨_, rfl⟩
  have q_83 : 0 ≤ v_82.toInt ∧ v_82.toInt ≤ 6 := by rw [ev_82]; exact hI 0 16
  have q_84 : (f_71 0 16).toInt = v_82.toInt := (congrArg Int32.toInt (show f_71 0 16 = v_82 from ev_82.symm))
  obtain ⟨v_85, ev_85⟩ : ∃ z : Int32, z = f_71 0 15 := ⟨_, rfl⟩
  have q_86 : (-1) ≤ v_85.toInt ∧ v_85.toInt ≤ 120 := by rw [ev_85]; exact hI 0 15
  have q_87 : (f_71 0 15).toInt = v_85.toInt := (congrArg Int32.toInt (show f_71 0 15 = v_85 from ev_85.symm))
  refine lv_istore_n (lv' := [(1, .int r_74), (0, .ref (h 0))]) hx hb dX12_both_4 rfl hl (by decide) rfl (fun ls hl => ?_)
  exact loop_5 121 r_74 f_71 _ _ _ (hs.trans ((spl_e ev_1 (spl_e ev_3 (spl_e ev_5 (spl2_e u_78 (spl_e ev_79 (spl_e ev_82 (spl_e ev_85 rfl))))))))) (by have zz0_13 : (f_71 0 13).toInt = v_79.toInt := (congrArg Int32.toInt (show f_71 0 13 = v_79 from ev_79.symm)); omega) (by have zz0_13 : (f_71 0 13).toInt = v_79.toInt := (congrArg Int32.toInt (show f_71 0 13 = v_79 from ev_79.symm)); omega) (by have zz0_16 : (f_71 0 16).toInt = v_82.toInt := (congrArg Int32.toInt (show f_71 0 16 = v_82 from ev_82.symm)); omega) (by have zz0_15 : (f_71 0 15).toInt = v_85.toInt := (congrArg Int32.toInt (show f_71 0 15 = v_85 from ev_85.symm)); have zz0_16 : (f_71 0 16).toInt = v_82.toInt := (congrArg Int32.toInt (show f_71 0 16 = v_82 from ev_82.symm)); omega) hI hF hP hS (lv_sub hl [1, 0] rfl)

abbrev WkX12_either_0 : List (Nat × Nat × Option Nat) := [(0, 0, some 13), (0, 0, some 15), (0, 0, some 16)]
set_option maxHeartbeats 4000000 in
set_option maxRecDepth 100000 in
theorem kX12_either_0 (l : Launch) (D : va_G) (ca : Nat → ClassId) (za h : Nat → Nat) (hh : sgH 26 h) (f : sg_F) (L : sg_L) (Q : sg_Q) (hI : sgI loM hiM f) (p0 : 0 ≤ (f 0 16).toInt) (p1 : 0 ≤ (f 0 15).toInt ∨ (f 0 16).toInt = 0) (sz : Nat) : Met l yX12_either gwX12_either { frames := 42, cells := 0, slots := 0, locals := 957 } (sgP D vwCl (tyX ca) 26 h (eM ca h) zcM za f L Q sz [.ref (h 0)]) (sgQi D vwCl 26 h (eM ca h) sz (fun r f1 L1 Q1 => ((sgI loM hiM f1 ∧ sgK WkX12_either_0 f f1 ∧ L1 = L ∧ Q1 = Q) ∧ True ∧ ((f 0 13).toInt ≤ (f1 0 13).toInt) ∧ (0 ≤ (f1 0 16).toInt) ∧ (0 ≤ (f1 0 15).toInt ∨ (f1 0 16).toInt = 0) ∧ (r, f1) = sX12_either_0 f L))) 0 0 (sgA 26 h sz) := by
  refine sg_ofWi (cc := cX12_either) (maxL := 3) RX12 (by decide) rfl rfl (Nat.le_of_ble_eq_true rfl) ?_
  intro p e s m below meth cd Qz ls hx hb hml hown hts hK hZ hP hS hl hret
  have hA := sgY.self (n := 26) (h := h) (sz := s.heap.size)
  have hl : lv_has ls 3 [(0, .ref (h 0))] := hl
  obtain ⟨H, hH⟩ : ∃ z : Heap, z = s.heap := ⟨_, rfl⟩
  obtain ⟨locs, hlo⟩ : ∃ z : List Loc, z = [] := ⟨_, rfl⟩
  have hP : va_P D vwCl (sgw 26 h (eM ca h) f L Q) H := by rw [hH]; exact hP
  have hS : va_S (sgA 26 h s.heap.size) s.heap H locs := by rw [hH, hlo]; exact hS
  suffices hgo : W p l e ({ frames := 42, cells := 0, slots := 0, locals := 957 }) s m ([.ref (h 0)] : List Value).toArray below meth cd H locs 0 0 Qz (F0 m 0 ls []) by rw [hH, hlo] at hgo; exact hgo
  clear hH hlo
  obtain ⟨sp, hsp⟩ : ∃ z : Int32 × sg_F, z = sX12_either_0 f L := ⟨_, rfl⟩
  have hs : sp = sX12_either_0 f L := hsp
  obtain ⟨v_1, ev_1⟩ : ∃ z : Int32, z = f 0 16 := ⟨_, rfl⟩
  have q_2 : 0 ≤ v_1.toInt ∧ v_1.toInt ≤ 6 := by rw [ev_1]; exact hI 0 16
  obtain ⟨v_3, ev_3⟩ : ∃ z : Int32, z = f 0 15 := ⟨_, rfl⟩
  have q_4 : (-1) ≤ v_3.toInt ∧ v_3.toInt ≤ 120 := by rw [ev_3]; exact hI 0 15
  obtain ⟨v_5, ev_5⟩ : ∃ z : Int32, z = f 0 13 := ⟨_, rfl⟩
  have q_6 : 0 ≤ v_5.toInt ∧ v_5.toInt ≤ 120 := by rw [ev_5]; exact hI 0 13
  have o_7 : (f 0 16).toInt = v_1.toInt := (congrArg Int32.toInt (show f 0 16 = v_1 from ev_1.symm))
  have o_8 : (f 0 15).toInt = v_3.toInt := (congrArg Int32.toInt (show f 0 15 = v_3 from ev_3.symm))
  have o_9 : (f 0 13).toInt = v_5.toInt := (congrArg Int32.toInt (show f 0 13 = v_5 from ev_5.symm))
  have hF : sgK WkX12_either_0 f f := sgK.rf
  have loop_5 : ∀ (n_5 : Nat) (y1_5 : Int32) (fp_5 : sg_F) (H : Heap) (locs : List Loc) (ls : Array Slot), sp = sX12_either_0_l5 n_5 y1_5 fp_5 L → 120 - (fp_5 0 13).toInt < (n_5 : Int) → (f 0 13).toInt ≤ (fp_5 0 13).toInt → 0 ≤ (fp_5 0 16).toInt → 0 ≤ (fp_5 0 15).toInt ∨ (fp_5 0 16).toInt = 0 → sgI loM hiM fp_5 → sgK WkX12_either_0 f fp_5 → va_P D vwCl (sgw 26 h (eM ca h) fp_5 L Q) H → va_S (sgA 26 h s.heap.size) s.heap H locs → lv_has ls 3 [(0, .ref (h 0)), (1, .int y1_5)] → W p l e ({ frames := 42, cells := 0, slots := 0, locals := 957 }) s m ([.ref (h 0)] : List Value).toArray below meth cd H locs 0 0 Qz (F0 m 5 ls []) := by
    intro n_5
    induction n_5 with
    | zero => intro y1_5 fp_5 H locs ls hs hm_5 hg0_5 hg1_5 hg2_5 hI hF hP hS hl; have zb := (show 0 ≤ (fp_5 0 13).toInt ∧ (fp_5 0 13).toInt ≤ 120 from hI 0 13); exact absurd hm_5 (by omega)
    | succ n_5 ih_5 =>
      intro y1_5 fp_5 H locs ls hs hm_5 hg0_5 hg1_5 hg2_5 hI hF hP hS hl
      have hs : sp = sX12_either_0_h5 (sX12_either_0_l5 n_5) y1_5 fp_5 L := hs
      obtain ⟨v_10, ev_10⟩ : ∃ z : Int32, z = fp_5 0 13 := ⟨_, rfl⟩
      have q_11 : 0 ≤ v_10.toInt ∧ v_10.toInt ≤ 120 := by rw [ev_10]; exact hI 0 13
      have q_12 : (fp_5 0 13).toInt = v_10.toInt := by rw [ev_10]
      obtain ⟨v_13, ev_13⟩ : ∃ z : Int32, z = fp_5 0 16 := ⟨_, rfl⟩
      have q_14 : 0 ≤ v_13.toInt ∧ v_13.toInt ≤ 6 := by rw [ev_13]; exact hI 0 16
      have q_15 : (fp_5 0 16).toInt = v_13.toInt := by rw [ev_13]
      obtain ⟨v_16, ev_16⟩ : ∃ z : Int32, z = fp_5 0 15 := ⟨_, rfl⟩
      have q_17 : (-1) ≤ v_16.toInt ∧ v_16.toInt ≤ 120 := by rw [ev_16]; exact hI 0 15
      have q_18 : (fp_5 0 15).toInt = v_16.toInt := by rw [ev_16]
      refine lv_aload_n hx hb dX12_either_5 rfl (lv_at hl 0 rfl) ?_
      refine lv_bipush (v := 124) hx hb dX12_either_6 bp_124 ?_
      obtain ⟨v_21, ev_21⟩ : ∃ z : Int32, z = fp_5 0 14 := ⟨_, rfl⟩
      have q_22 : 0 ≤ v_21.toInt ∧ v_21.toInt ≤ 120 := by rw [ev_21]; exact hI 0 14
      have q_23 : (fp_5 0 14).toInt = v_21.toInt := (congrArg Int32.toInt (show fp_5 0 14 = v_21 from ev_21.symm))
      refine sg_calli (va_runV (As := [.int 124]) (rest := []) ⟨hx, hb, hml, hown, hts⟩ (kX12_takes_124 l D ca za h hh fp_5 L Q hI H.size) (sl_c12_takes_1_0_0_20_12 hts ⟨Nat.le_of_ble_eq_true rfl, Nat.le_of_ble_eq_true rfl⟩) (sl_vM_0 hA hK hP hS hZ) rfl rfl hl.1 rfl (lv_room (Nat.le_of_ble_eq_true rfl)) dX12_either_8 ⟨Nat.le_refl _, Nat.le_refl _⟩) hA hS (fun r_29 f_26 L_27 Q_28 H locs hq hP hS => ?_)
      obtain ⟨⟨hI, hk_f_26, eL9, eQ9⟩, hq, u_30⟩ := hq
      rw [eL9, eQ9] at hP; clear eL9 eQ9
      have hF : sgK WkX12_either_0 f f_26 := sgK.tr hF hk_f_26 (by decide +kernel)
      obtain ⟨v_31, ev_31⟩ : ∃ z : Int32, z = f_26 0 13 := ⟨_, rfl⟩
      replace hs := hs.trans (spl_e ev_10 (spl_e ev_13 (spl_e ev_16 (spl_e ev_21 (spl2_e u_30 (spl_e ev_31 rfl))))))
      have q_32 : 0 ≤ v_31.toInt ∧ v_31.toInt ≤ 120 := by rw [ev_31]; exact hI 0 13
      have q_33 : (f_26 0 13).toInt = v_31.toInt := (congrArg Int32.toInt (show f_26 0 13 = v_31 from ev_31.symm))
      have k_35 : (124 : Int32).toInt = 124 := by decide
      rcases hq with ⟨rfl, hq⟩ | ⟨rfl, hq⟩
      · skip
        have hc_36 := hq
        refine lv_if_eq (tgt := 36) hx hb dX12_either_11 (by decide) (fun c => absurd c (by decide)) (fun c => ?_)
        refine lv_aload_n hx hb dX12_either_14 rfl (lv_at hl 0 rfl) ?_
        have q_37 : (f_26 0 16).toInt = v_13.toInt := (congrArg Int32.toInt (show f_26 0 16 = v_13 from ((hk_f_26 0 16 (by decide)).trans ev_13.symm)))
        have q_38 : (f_26 0 15).toInt = v_16.toInt := (congrArg Int32.toInt (show f_26 0 15 = v_16 from ((hk_f_26 0 15 (by decide)).trans ev_16.symm)))
        refine sg_calli (va_runV (As := []) (rest := []) ⟨hx, hb, hml, hown, hts⟩ (kX12_both_0 l D ca za h hh f_26 L Q hI (by omega) (by omega) H.size) (sl_c12_both_41_0_0_935_12 hts ⟨Nat.le_of_ble_eq_true rfl, Nat.le_of_ble_eq_true rfl⟩) (sl_vM_0 hA hK hP hS hZ) rfl rfl hl.1 rfl (lv_room (Nat.le_of_ble_eq_true rfl)) dX12_either_15 ⟨Nat.le_refl _, Nat.le_refl _⟩) hA hS (fun r_44 f_41 L_42 Q_43 H locs hq hP hS => ?_)
        obtain ⟨⟨hI, hk_f_41, eL9, eQ9⟩, hq, p_45, p_46, p_47, u_48⟩ := hq
        rw [eL9, eQ9] at hP; clear eL9 eQ9
        have hF : sgK WkX12_either_0 f f_41 := sgK.tr hF hk_f_41 (by decide +kernel)
        obtain ⟨v_49, ev_49⟩ : ∃ z : Int32, z = f_41 0 13 := ⟨_, rfl⟩
        have q_50 : 0 ≤ v_49.toInt ∧ v_49.toInt ≤ 120 := by rw [ev_49]; exact hI 0 13
        have q_51 : (f_41 0 13).toInt = v_49.toInt := (congrArg Int32.toInt (show f_41 0 13 = v_49 from ev_49.symm))
        obtain ⟨v_52, ev_52⟩ : ∃ z : Int32, z = f_41 0 16 := ⟨_, rfl⟩
        have q_53 : 0 ≤ v_52.toInt ∧ v_52.toInt ≤ 6 := by rw [ev_52]; exact hI 0 16
        have q_54 : (f_41 0 16).toInt = v_52.toInt := (congrArg Int32.toInt (show f_41 0 16 = v_52 from ev_52.symm))
        obtain ⟨v_55, ev_55⟩ : ∃ z : Int32, z = f_41 0 15 := ⟨_, rfl⟩
        replace hs := hs.trans ((if_pos rfl).trans (spl2_e u_48 (spl_e ev_49 (spl_e ev_52 (spl_e ev_55 rfl)))))
        have q_56 : (-1) ≤ v_55.toInt ∧ v_55.toInt ≤ 120 := by rw [ev_55]; exact hI 0 15
        have q_57 : (f_41 0 15).toInt = v_55.toInt := (congrArg Int32.toInt (show f_41 0 15 = v_55 from ev_55.symm))
        refine lv_istore_n (lv' := [(2, .int r_44), (0, .ref (h 0)), (1, .int y1_5)]) hx hb dX12_either_18 rfl hl (by decide) rfl (fun ls hl => ?_)
        refine lv_iload_n hx hb dX12_either_19 rfl (lv_at hl 2 rfl) ?_
        refine lv_if_ne (tgt := 27) hx hb dX12_either_20 (by decide) (fun c => ?_) (fun c => ?_)
        · skip
          have c_59 : y1_5.toInt ≠ 0 := (by first | exact (cm_ne1 ti_0 c) | (have z := bn_ne c; have k1 : (0 : Int32).toInt = 0 := ti_0; omega))
          refine lv_iconst (v := 1) hx hb dX12_either_27 ic_1 ?_
          refine lv_goto (tgt := 32) hx hb dX12_either_28 (by decide) ?_
          refine lv_istore_n (lv' := [(1, .int 1), (2, .int r_44), (0, .ref (h 0))]) hx hb dX12_either_32 rfl hl (by decide) rfl (fun ls hl => ?_)
          refine lv_goto (tgt := 5) hx hb dX12_either_33 (by decide) ?_
          exact ih_5 1 f_41 _ _ _ (hs.trans ((if_neg c_59).trans rfl)) (by have kc0 : (1 : Int32).toInt = 1 := ti_1; have zz0_13 : (f_41 0 13).toInt = v_49.toInt := (congrArg Int32.toInt (show f_41 0 13 = v_49 from ev_49.symm)); omega) (by have kc0 : (1 : Int32).toInt = 1 := ti_1; have zz0_13 : (f_41 0 13).toInt = v_49.toInt := (congrArg Int32.toInt (show f_41 0 13 = v_49 from ev_49.symm)); omega) (by have kc0 : (1 : Int32).toInt = 1 := ti_1; have zz0_16 : (f_41 0 16).toInt = v_52.toInt := (congrArg Int32.toInt (show f_41 0 16 = v_52 from ev_52.symm)); omega) (by have kc0 : (1 : Int32).toInt = 1 := ti_1; have zz0_15 : (f_41 0 15).toInt = v_55.toInt := (congrArg Int32.toInt (show f_41 0 15 = v_55 from ev_55.symm)); have zz0_16 : (f_41 0 16).toInt = v_52.toInt := (congrArg Int32.toInt (show f_41 0 16 = v_52 from ev_52.symm)); omega) hI hF hP hS (lv_sub hl [2, 0] rfl)
        · skip
          have c_60 : y1_5.toInt = 0 := (by first | exact (cm_eq1 ti_0 c) | (have z := Int32.toInt_inj.mpr c; have k1 : (0 : Int32).toInt = 0 := ti_0; omega))
          replace hs := hs.trans ((if_pos c_60).trans rfl)
          refine lv_iload_n hx hb dX12_either_23 rfl (lv_at hl 0 rfl) ?_
          refine lv_if_eq (tgt := 31) hx hb dX12_either_24 (by decide) (fun c => ?_) (fun c => ?_)
          · skip
            have c_61 : r_44.toInt = 0 := (by first | exact (cm_eq1 ti_0 c) | (have z := Int32.toInt_inj.mpr c; have k1 : (0 : Int32).toInt = 0 := ti_0; omega))
            refine lv_iconst (v := 0) hx hb dX12_either_31 ic_0 ?_
            refine lv_istore_n (lv' := [(1, .int 0), (2, .int r_44), (0, .ref (h 0))]) hx hb dX12_either_32 rfl hl (by decide) rfl (fun ls hl => ?_)
            refine lv_goto (tgt := 5) hx hb dX12_either_33 (by decide) ?_
            exact ih_5 0 f_41 _ _ _ (hs.trans ((if_pos c_61).trans rfl)) (by have kc0 : (0 : Int32).toInt = 0 := ti_0; have zz0_13 : (f_41 0 13).toInt = v_49.toInt := (congrArg Int32.toInt (show f_41 0 13 = v_49 from ev_49.symm)); omega) (by have kc0 : (0 : Int32).toInt = 0 := ti_0; have zz0_13 : (f_41 0 13).toInt = v_49.toInt := (congrArg Int32.toInt (show f_41 0 13 = v_49 from ev_49.symm)); omega) (by have kc0 : (0 : Int32).toInt = 0 := ti_0; have zz0_16 : (f_41 0 16).toInt = v_52.toInt := (congrArg Int32.toInt (show f_41 0 16 = v_52 from ev_52.symm)); omega) (by have kc0 : (0 : Int32).toInt = 0 := ti_0; have zz0_15 : (f_41 0 15).toInt = v_55.toInt := (congrArg Int32.toInt (show f_41 0 15 = v_55 from ev_55.symm)); have zz0_16 : (f_41 0 16).toInt = v_52.toInt := (congrArg Int32.toInt (show f_41 0 16 = v_52 from ev_52.symm)); omega) hI hF hP hS (lv_sub hl [2, 0] rfl)
          · skip
            have c_62 : r_44.toInt ≠ 0 := (by first | exact (cm_ne1 ti_0 c) | (have z := bn_ne c; have k1 : (0 : Int32).toInt = 0 := ti_0; omega))
            refine lv_iconst (v := 1) hx hb dX12_either_27 ic_1 ?_
            refine lv_goto (tgt := 32) hx hb dX12_either_28 (by decide) ?_
            refine lv_istore_n (lv' := [(1, .int 1), (2, .int r_44), (0, .ref (h 0))]) hx hb dX12_either_32 rfl hl (by decide) rfl (fun ls hl => ?_)
            refine lv_goto (tgt := 5) hx hb dX12_either_33 (by decide) ?_
            exact ih_5 1 f_41 _ _ _ (hs.trans ((if_neg c_62).trans rfl)) (by have kc0 : (1 : Int32).toInt = 1 := ti_1; have zz0_13 : (f_41 0 13).toInt = v_49.toInt := (congrArg Int32.toInt (show f_41 0 13 = v_49 from ev_49.symm)); omega) (by have kc0 : (1 : Int32).toInt = 1 := ti_1; have zz0_13 : (f_41 0 13).toInt = v_49.toInt := (congrArg Int32.toInt (show f_41 0 13 = v_49 from ev_49.symm)); omega) (by have kc0 : (1 : Int32).toInt = 1 := ti_1; have zz0_16 : (f_41 0 16).toInt = v_52.toInt := (congrArg Int32.toInt (show f_41 0 16 = v_52 from ev_52.symm)); omega) (by have kc0 : (1 : Int32).toInt = 1 := ti_1; have zz0_15 : (f_41 0 15).toInt = v_55.toInt := (congrArg Int32.toInt (show f_41 0 15 = v_55 from ev_55.symm)); have zz0_16 : (f_41 0 16).toInt = v_52.toInt := (congrArg Int32.toInt (show f_41 0 16 = v_52 from ev_52.symm)); omega) hI hF hP hS (lv_sub hl [2, 0] rfl)
      · skip
        have hc_36 := hq
        refine lv_if_eq (tgt := 36) hx hb dX12_either_11 (by decide) (fun c => ?_) (fun c => absurd c (by decide))
        refine lv_iload_n hx hb dX12_either_36 rfl (lv_at hl 1 rfl) ?_
        have q_64 : (f_26 0 16).toInt = v_13.toInt := (congrArg Int32.toInt (show f_26 0 16 = v_13 from ((hk_f_26 0 16 (by decide)).trans ev_13.symm)))
        have q_65 : (f_26 0 15).toInt = v_16.toInt := (congrArg Int32.toInt (show f_26 0 15 = v_16 from ((hk_f_26 0 15 (by decide)).trans ev_16.symm)))
        exact hret _ _ _ _ (y1_5) f_26 L Q dX12_either_37 hP hS ⟨⟨hI, hF, rfl, rfl⟩, trivial, (by omega), (by omega), (by omega), (Eq.trans (Eq.symm (hs.trans ((if_neg (by decide)).trans rfl))) hsp)⟩
  refine lv_aload_n hx hb dX12_either_0 rfl (lv_at hl 0 rfl) ?_
  have q_67 : (f 0 16).toInt = v_1.toInt := (congrArg Int32.toInt (show f 0 16 = v_1 from ev_1.symm))
  have q_68 : (f 0 15).toInt = v_3.toInt := (congrArg Int32.toInt (show f 0 15 = v_3 from ev_3.symm))
  have q_70 : (f 0 13).toInt = v_5.toInt := (congrArg Int32.toInt (show f 0 13 = v_5 from ev_5.symm))
  refine sg_calli (va_runV (As := []) (rest := []) ⟨hx, hb, hml, hown, hts⟩ (kX12_both_0 l D ca za h hh f L Q hI (by omega) (by omega) H.size) (sl_c12_both_41_0_0_935_12 hts ⟨Nat.le_of_ble_eq_true rfl, Nat.le_of_ble_eq_true rfl⟩) (sl_vM_0 hA hK hP hS hZ) rfl rfl hl.1 rfl (lv_room (Nat.le_of_ble_eq_true rfl)) dX12_either_1 ⟨Nat.le_refl _, Nat.le_refl _⟩) hA hS (fun r_74 f_71 L_72 Q_73 H locs hq hP hS => ?_)
  obtain ⟨⟨hI, hk_f_71, eL9, eQ9⟩, hq, p_75, p_76, p_77, u_78⟩ := hq
  rw [eL9, eQ9] at hP; clear eL9 eQ9
  have hF : sgK WkX12_either_0 f f_71 := sgK.tr hF hk_f_71 (by decide +kernel)
  obtain ⟨v_79, ev_79⟩ : ∃ z : Int32, z = f_71 0 13 := ⟨_, rfl⟩
  have q_80 : 0 ≤ v_79.toInt ∧ v_79.toInt ≤ 120 := by rw [ev_79]; exact hI 0 13
  have q_81 : (f_71 0 13).toInt = v_79.toInt := (congrArg Int32.toInt (show f_71 0 13 = v_79 from ev_79.symm))
  obtain ⟨v_82, ev_82⟩ : ∃ z : Int32, z = f_71 0 16 := ⟨_, rfl⟩
  have q_83 : 0 ≤ v_82.toInt ∧ v_82.toInt ≤ 6 := by rw [ev_82]; exact hI 0 16
  have q_84 : (f_71 0 16).toInt = v_82.toInt := (congrArg Int32.toInt (show f_71 0 16 = v_82 from ev_82.symm))
  obtain ⟨v_85, ev_85⟩ : ∃ z : Int32, z = f_71 0 15 := ⟨_, rfl⟩
  have q_86 : (-1) ≤ v_85.toInt ∧ v_85.toInt ≤ 120 := by rw [ev_85]; exact hI 0 15
  have q_87 : (f_71 0 15).toInt = v_85.toInt := (congrArg Int32.toInt (show f_71 0 15 = v_85 from ev_85.symm))
  refine lv_istore_n (lv' := [(1, .int r_74), (0, .ref (h 0))]) hx hb dX12_either_4 rfl hl (by decide) rfl (fun ls hl => ?_)
  exact loop_5 121 r_74 f_71 _ _ _ (hs.trans ((spl_e ev_1 (spl_e ev_3 (spl_e ev_5 (spl2_e u_78 (spl_e ev_79 (spl_e ev_82 (spl_e ev_85 rfl))))))))) (by have zz0_13 : (f_71 0 13).toInt = v_79.toInt := (congrArg Int32.toInt (show f_71 0 13 = v_79 from ev_79.symm)); omega) (by have zz0_13 : (f_71 0 13).toInt = v_79.toInt := (congrArg Int32.toInt (show f_71 0 13 = v_79 from ev_79.symm)); omega) (by have zz0_16 : (f_71 0 16).toInt = v_82.toInt := (congrArg Int32.toInt (show f_71 0 16 = v_82 from ev_82.symm)); omega) (by have zz0_15 : (f_71 0 15).toInt = v_85.toInt := (congrArg Int32.toInt (show f_71 0 15 = v_85 from ev_85.symm)); have zz0_16 : (f_71 0 16).toInt = v_82.toInt := (congrArg Int32.toInt (show f_71 0 16 = v_82 from ev_82.symm)); omega) hI hF hP hS (lv_sub hl [1, 0] rfl)

abbrev WkX12_takes_63 : List (Nat × Nat × Option Nat) := [(0, 0, some 13)]
set_option maxHeartbeats 4000000 in
set_option maxRecDepth 100000 in
theorem kX12_takes_63 (l : Launch) (D : va_G) (ca : Nat → ClassId) (za h : Nat → Nat) (hh : sgH 26 h) (f : sg_F) (L : sg_L) (Q : sg_Q) (hI : sgI loM hiM f) (sz : Nat) : Met l yX12_takes gwX12_takes { frames := 1, cells := 0, slots := 0, locals := 20 } (sgP D vwCl (tyX ca) 26 h (eM ca h) zcM za f L Q sz [.ref (h 0), .int 63]) (sgQi D vwCl 26 h (eM ca h) sz (fun r f1 L1 Q1 => ((sgI loM hiM f1 ∧ sgK WkX12_takes_63 f f1 ∧ L1 = L ∧ Q1 = Q) ∧ ((r = 1 ∧ ((f 0 15).toInt < 0 ∧ (f 0 13).toInt < (f 0 14).toInt ∧ (f1 0 13).toInt = (f 0 13).toInt + 1)) ∨ (r = 0 ∧ ((f1 0 13).toInt = (f 0 13).toInt))) ∧ (r, f1) = sX12_takes_63 f L))) 0 0 (sgA 26 h sz) := by
  refine sg_ofWz (cc := cX12_takes) (maxL := 2) RX12 (by decide) rfl rfl (Nat.le_of_ble_eq_true rfl) ?_
  intro p e s m below meth cd Qz ls hx hb hml hown hts hK hZ hP hS hl hret
  have hA := sgY.self (n := 26) (h := h) (sz := s.heap.size)
  have hl : lv_has ls 2 [(0, .ref (h 0)), (1, .int 63)] := hl
  obtain ⟨H, hH⟩ : ∃ z : Heap, z = s.heap := ⟨_, rfl⟩
  obtain ⟨locs, hlo⟩ : ∃ z : List Loc, z = [] := ⟨_, rfl⟩
  have hP : va_P D vwCl (sgw 26 h (eM ca h) f L Q) H := by rw [hH]; exact hP
  have hS : va_S (sgA 26 h s.heap.size) s.heap H locs := by rw [hH, hlo]; exact hS
  suffices hgo : W p l e ({ frames := 1, cells := 0, slots := 0, locals := 20 }) s m ([.ref (h 0), .int 63] : List Value).toArray below meth cd H locs 0 0 Qz (F0 m 0 ls []) by rw [hH, hlo] at hgo; exact hgo
  clear hH hlo
  obtain ⟨sp, hsp⟩ : ∃ z : Int32 × sg_F, z = sX12_takes_63 f L := ⟨_, rfl⟩
  have hs : sp = sX12_takes_63 f L := hsp
  obtain ⟨v_1, ev_1⟩ : ∃ z : Int32, z = f 0 15 := ⟨_, rfl⟩
  have q_2 : (-1) ≤ v_1.toInt ∧ v_1.toInt ≤ 120 := by rw [ev_1]; exact hI 0 15
  obtain ⟨v_3, ev_3⟩ : ∃ z : Int32, z = f 0 13 := ⟨_, rfl⟩
  have q_4 : 0 ≤ v_3.toInt ∧ v_3.toInt ≤ 120 := by rw [ev_3]; exact hI 0 13
  obtain ⟨v_5, ev_5⟩ : ∃ z : Int32, z = f 0 14 := ⟨_, rfl⟩
  replace hs := hs.trans (spl_e ev_1 (spl_e ev_3 (spl_e ev_5 rfl)))
  have q_6 : 0 ≤ v_5.toInt ∧ v_5.toInt ≤ 120 := by rw [ev_5]; exact hI 0 14
  have o_7 : (f 0 15).toInt = v_1.toInt := (congrArg Int32.toInt (show f 0 15 = v_1 from ev_1.symm))
  have o_8 : (f 0 13).toInt = v_3.toInt := (congrArg Int32.toInt (show f 0 13 = v_3 from ev_3.symm))
  have o_9 : (f 0 14).toInt = v_5.toInt := (congrArg Int32.toInt (show f 0 14 = v_5 from ev_5.symm))
  have hF : sgK WkX12_takes_63 f f := sgK.rf
  refine lv_aload_n hx hb dX12_takes_0 rfl (lv_at hl 0 rfl) ?_
  refine sl_gM_0_15_12 (v := v_1) hx hb hts hown hK hP (show f 0 15 = v_1 from ev_1.symm) dX12_takes_1 ?_
  refine lv_if_ge (tgt := 15) hx hb dX12_takes_4 (by decide) (fun c => ?_) (fun c => ?_)
  · skip
    have c_10 : 0 ≤ v_1.toInt := (by first | exact (cm_le0 ti_0 c) | (have z := bn_le c; have k1 : (0 : Int32).toInt = 0 := ti_0; omega))
    refine lv_iconst (v := 0) hx hb dX12_takes_15 ic_0 ?_
    have q_12 : (f 0 13).toInt = v_3.toInt := (congrArg Int32.toInt (show f 0 13 = v_3 from ev_3.symm))
    have k99 : (0 : Int32).toInt = 0 := ti_0
    exact hret _ _ _ _ (0) f L Q dX12_takes_16 (by decide) hP hS ⟨⟨hI, hF, rfl, rfl⟩, Or.inr (⟨rfl, by omega⟩), (Eq.trans (Eq.symm (hs.trans ((if_neg (Int.not_lt.mpr c_10)).trans rfl))) hsp)⟩
  · skip
    have c_11 : v_1.toInt < 0 := (by first | exact (cm_nle0 ti_0 c) | (have z := bn_nle c; have k1 : (0 : Int32).toInt = 0 := ti_0; omega))
    refine lv_aload_n hx hb dX12_takes_7 rfl (lv_at hl 0 rfl) ?_
    have q_14 : (f 0 13).toInt = v_3.toInt := (congrArg Int32.toInt (show f 0 13 = v_3 from ev_3.symm))
    have q_15 : (f 0 14).toInt = v_5.toInt := (congrArg Int32.toInt (show f 0 14 = v_5 from ev_5.symm))
    refine sg_calli (va_runV (As := []) (rest := []) ⟨hx, hb, hml, hown, hts⟩ (kX12_byteAt l D ca za h hh f L Q hI H.size) (sl_c12_byteAt_0_0_0_0_12 hts ⟨Nat.le_of_ble_eq_true rfl, Nat.le_of_ble_eq_true rfl⟩) (sl_vM_0 hA hK hP hS hZ) rfl rfl hl.1 rfl (lv_room (Nat.le_of_ble_eq_true rfl)) dX12_takes_8 ⟨Nat.le_refl _, Nat.le_refl _⟩) hA hS (fun r_19 f_16 L_17 Q_18 H locs hq hP hS => ?_)
    obtain ⟨⟨ef9, eL9, eQ9⟩, hq, p_20, u_21⟩ := hq
    replace hs := hs.trans ((if_pos c_11).trans (spl_e u_21 rfl))
    rw [ef9, eL9, eQ9] at hP; clear ef9 eL9 eQ9
    refine lv_iload_n hx hb dX12_takes_11 rfl (lv_at hl 1 rfl) ?_
    refine lv_icmp_eq (tgt := 17) hx hb dX12_takes_12 (by decide) (fun c => ?_) (fun c => ?_)
    · skip
      have c_22 : r_19.toInt = 63 := (by first | exact (cm_eq1 ti_63 c) | (have z := Int32.toInt_inj.mpr c; have k1 : (63 : Int32).toInt = 63 := ti_63; omega))
      refine lv_aload_n hx hb dX12_takes_17 rfl (lv_at hl 0 rfl) ?_
      refine lv_dup hx hb dX12_takes_18 rfl ?_
      refine sl_gM_0_13_12 (v := v_3) hx hb hts hown hK hP (show f 0 13 = v_3 from ev_3.symm) dX12_takes_19 ?_
      refine lv_iconst (v := 1) hx hb dX12_takes_22 ic_1 ?_
      refine lv_iadd hx hb dX12_takes_23 ?_
      refine lv_topi (fun v_24 ev_24 => ?_)
      have q_25 : v_24.toInt = v_3.toInt + 1 := by rw [ev_24]; first | exact cm_add ti_1 (by omega) (by omega) | (have k1 : (1 : Int32).toInt = 1 := ti_1; exact (bn_addI (by omega) (by omega)).trans (by omega))
      refine sl_pM_0_13_12 (x := v_24) hx hb hts hown hh hA hK hP hS dX12_takes_24 (fun f_26 H locs ef_26 hP hS => ?_)
      have hI : sgI loM hiM f_26 := by rw [ef_26]; exact sgI.put hI 0 13 (show 0 ≤ (v_24 : Int32).toInt ∧ (v_24 : Int32).toInt ≤ 120 from ⟨by omega, by omega⟩)
      have hF : sgK WkX12_takes_63 f f_26 := sgK.put hF ef_26 (by rfl)
      refine lv_iconst (v := 1) hx hb dX12_takes_27 ic_1 ?_
      have q_27 : (f_26 0 13).toInt = v_24.toInt := (congrArg Int32.toInt (show f_26 0 13 = v_24 from (by rw [ef_26, sg_up_s, sgu_s])))
      have k99 : (1 : Int32).toInt = 1 := ti_1
      exact hret _ _ _ _ (1) f_26 L Q dX12_takes_28 (by decide) hP hS ⟨⟨hI, hF, rfl, rfl⟩, Or.inl ⟨rfl, by omega⟩, (Eq.trans (Eq.symm (hs.trans ((if_pos c_22).trans (spl_e ev_24 (spl_e ef_26 rfl))))) hsp)⟩
    · skip
      have c_23 : r_19.toInt ≠ 63 := (by first | exact (cm_ne1 ti_63 c) | (have z := bn_ne c; have k1 : (63 : Int32).toInt = 63 := ti_63; omega))
      refine lv_iconst (v := 0) hx hb dX12_takes_15 ic_0 ?_
      have k99 : (0 : Int32).toInt = 0 := ti_0
      exact hret _ _ _ _ (0) f L Q dX12_takes_16 (by decide) hP hS ⟨⟨hI, hF, rfl, rfl⟩, Or.inr (⟨rfl, by omega⟩), (Eq.trans (Eq.symm (hs.trans ((if_neg c_23).trans rfl))) hsp)⟩

abbrev WkX12_takes_59 : List (Nat × Nat × Option Nat) := [(0, 0, some 13)]
set_option maxHeartbeats 4000000 in
set_option maxRecDepth 100000 in
theorem kX12_takes_59 (l : Launch) (D : va_G) (ca : Nat → ClassId) (za h : Nat → Nat) (hh : sgH 26 h) (f : sg_F) (L : sg_L) (Q : sg_Q) (hI : sgI loM hiM f) (sz : Nat) : Met l yX12_takes gwX12_takes { frames := 1, cells := 0, slots := 0, locals := 20 } (sgP D vwCl (tyX ca) 26 h (eM ca h) zcM za f L Q sz [.ref (h 0), .int 59]) (sgQi D vwCl 26 h (eM ca h) sz (fun r f1 L1 Q1 => ((sgI loM hiM f1 ∧ sgK WkX12_takes_59 f f1 ∧ L1 = L ∧ Q1 = Q) ∧ ((r = 1 ∧ ((f 0 15).toInt < 0 ∧ (f 0 13).toInt < (f 0 14).toInt ∧ (f1 0 13).toInt = (f 0 13).toInt + 1)) ∨ (r = 0 ∧ ((f1 0 13).toInt = (f 0 13).toInt))) ∧ (r, f1) = sX12_takes_59 f L))) 0 0 (sgA 26 h sz) := by
  refine sg_ofWz (cc := cX12_takes) (maxL := 2) RX12 (by decide) rfl rfl (Nat.le_of_ble_eq_true rfl) ?_
  intro p e s m below meth cd Qz ls hx hb hml hown hts hK hZ hP hS hl hret
  have hA := sgY.self (n := 26) (h := h) (sz := s.heap.size)
  have hl : lv_has ls 2 [(0, .ref (h 0)), (1, .int 59)] := hl
  obtain ⟨H, hH⟩ : ∃ z : Heap, z = s.heap := ⟨_, rfl⟩
  obtain ⟨locs, hlo⟩ : ∃ z : List Loc, z = [] := ⟨_, rfl⟩
  have hP : va_P D vwCl (sgw 26 h (eM ca h) f L Q) H := by rw [hH]; exact hP
  have hS : va_S (sgA 26 h s.heap.size) s.heap H locs := by rw [hH, hlo]; exact hS
  suffices hgo : W p l e ({ frames := 1, cells := 0, slots := 0, locals := 20 }) s m ([.ref (h 0), .int 59] : List Value).toArray below meth cd H locs 0 0 Qz (F0 m 0 ls []) by rw [hH, hlo] at hgo; exact hgo
  clear hH hlo
  obtain ⟨sp, hsp⟩ : ∃ z : Int32 × sg_F, z = sX12_takes_59 f L := ⟨_, rfl⟩
  have hs : sp = sX12_takes_59 f L := hsp
  obtain ⟨v_1, ev_1⟩ : ∃ z : Int32, z = f 0 15 := ⟨_, rfl⟩
  have q_2 : (-1) ≤ v_1.toInt ∧ v_1.toInt ≤ 120 := by rw [ev_1]; exact hI 0 15
  obtain ⟨v_3, ev_3⟩ : ∃ z : Int32, z = f 0 13 := ⟨_, rfl⟩
  have q_4 : 0 ≤ v_3.toInt ∧ v_3.toInt ≤ 120 := by rw [ev_3]; exact hI 0 13
  obtain ⟨v_5, ev_5⟩ : ∃ z : Int32, z = f 0 14 := ⟨_, rfl⟩
  replace hs := hs.trans (spl_e ev_1 (spl_e ev_3 (spl_e ev_5 rfl)))
  have q_6 : 0 ≤ v_5.toInt ∧ v_5.toInt ≤ 120 := by rw [ev_5]; exact hI 0 14
  have o_7 : (f 0 15).toInt = v_1.toInt := (congrArg Int32.toInt (show f 0 15 = v_1 from ev_1.symm))
  have o_8 : (f 0 13).toInt = v_3.toInt := (congrArg Int32.toInt (show f 0 13 = v_3 from ev_3.symm))
  have o_9 : (f 0 14).toInt = v_5.toInt := (congrArg Int32.toInt (show f 0 14 = v_5 from ev_5.symm))
  have hF : sgK WkX12_takes_59 f f := sgK.rf
  refine lv_aload_n hx hb dX12_takes_0 rfl (lv_at hl 0 rfl) ?_
  refine sl_gM_0_15_12 (v := v_1) hx hb hts hown hK hP (show f 0 15 = v_1 from ev_1.symm) dX12_takes_1 ?_
  refine lv_if_ge (tgt := 15) hx hb dX12_takes_4 (by decide) (fun c => ?_) (fun c => ?_)
  · skip
    have c_10 : 0 ≤ v_1.toInt := (by first | exact (cm_le0 ti_0 c) | (have z := bn_le c; have k1 : (0 : Int32).toInt = 0 := ti_0; omega))
    refine lv_iconst (v := 0) hx hb dX12_takes_15 ic_0 ?_
    have q_12 : (f 0 13).toInt = v_3.toInt := (congrArg Int32.toInt (show f 0 13 = v_3 from ev_3.symm))
    have k99 : (0 : Int32).toInt = 0 := ti_0
    exact hret _ _ _ _ (0) f L Q dX12_takes_16 (by decide) hP hS ⟨⟨hI, hF, rfl, rfl⟩, Or.inr (⟨rfl, by omega⟩), (Eq.trans (Eq.symm (hs.trans ((if_neg (Int.not_lt.mpr c_10)).trans rfl))) hsp)⟩
  · skip
    have c_11 : v_1.toInt < 0 := (by first | exact (cm_nle0 ti_0 c) | (have z := bn_nle c; have k1 : (0 : Int32).toInt = 0 := ti_0; omega))
    refine lv_aload_n hx hb dX12_takes_7 rfl (lv_at hl 0 rfl) ?_
    have q_14 : (f 0 13).toInt = v_3.toInt := (congrArg Int32.toInt (show f 0 13 = v_3 from ev_3.symm))
    have q_15 : (f 0 14).toInt = v_5.toInt := (congrArg Int32.toInt (show f 0 14 = v_5 from ev_5.symm))
    refine sg_calli (va_runV (As := []) (rest := []) ⟨hx, hb, hml, hown, hts⟩ (kX12_byteAt l D ca za h hh f L Q hI H.size) (sl_c12_byteAt_0_0_0_0_12 hts ⟨Nat.le_of_ble_eq_true rfl, Nat.le_of_ble_eq_true rfl⟩) (sl_vM_0 hA hK hP hS hZ) rfl rfl hl.1 rfl (lv_room (Nat.le_of_ble_eq_true rfl)) dX12_takes_8 ⟨Nat.le_refl _, Nat.le_refl _⟩) hA hS (fun r_19 f_16 L_17 Q_18 H locs hq hP hS => ?_)
    obtain ⟨⟨ef9, eL9, eQ9⟩, hq, p_20, u_21⟩ := hq
    replace hs := hs.trans ((if_pos c_11).trans (spl_e u_21 rfl))
    rw [ef9, eL9, eQ9] at hP; clear ef9 eL9 eQ9
    refine lv_iload_n hx hb dX12_takes_11 rfl (lv_at hl 1 rfl) ?_
    refine lv_icmp_eq (tgt := 17) hx hb dX12_takes_12 (by decide) (fun c => ?_) (fun c => ?_)
    · skip
      have c_22 : r_19.toInt = 59 := (by first | exact (cm_eq1 ti_59 c) | (have z := Int32.toInt_inj.mpr c; have k1 : (59 : Int32).toInt = 59 := ti_59; omega))
      refine lv_aload_n hx hb dX12_takes_17 rfl (lv_at hl 0 rfl) ?_
      refine lv_dup hx hb dX12_takes_18 rfl ?_
      refine sl_gM_0_13_12 (v := v_3) hx hb hts hown hK hP (show f 0 13 = v_3 from ev_3.symm) dX12_takes_19 ?_
      refine lv_iconst (v := 1) hx hb dX12_takes_22 ic_1 ?_
      refine lv_iadd hx hb dX12_takes_23 ?_
      refine lv_topi (fun v_24 ev_24 => ?_)
      have q_25 : v_24.toInt = v_3.toInt + 1 := by rw [ev_24]; first | exact cm_add ti_1 (by omega) (by omega) | (have k1 : (1 : Int32).toInt = 1 := ti_1; exact (bn_addI (by omega) (by omega)).trans (by omega))
      refine sl_pM_0_13_12 (x := v_24) hx hb hts hown hh hA hK hP hS dX12_takes_24 (fun f_26 H locs ef_26 hP hS => ?_)
      have hI : sgI loM hiM f_26 := by rw [ef_26]; exact sgI.put hI 0 13 (show 0 ≤ (v_24 : Int32).toInt ∧ (v_24 : Int32).toInt ≤ 120 from ⟨by omega, by omega⟩)
      have hF : sgK WkX12_takes_59 f f_26 := sgK.put hF ef_26 (by rfl)
      refine lv_iconst (v := 1) hx hb dX12_takes_27 ic_1 ?_
      have q_27 : (f_26 0 13).toInt = v_24.toInt := (congrArg Int32.toInt (show f_26 0 13 = v_24 from (by rw [ef_26, sg_up_s, sgu_s])))
      have k99 : (1 : Int32).toInt = 1 := ti_1
      exact hret _ _ _ _ (1) f_26 L Q dX12_takes_28 (by decide) hP hS ⟨⟨hI, hF, rfl, rfl⟩, Or.inl ⟨rfl, by omega⟩, (Eq.trans (Eq.symm (hs.trans ((if_pos c_22).trans (spl_e ev_24 (spl_e ef_26 rfl))))) hsp)⟩
    · skip
      have c_23 : r_19.toInt ≠ 59 := (by first | exact (cm_ne1 ti_59 c) | (have z := bn_ne c; have k1 : (59 : Int32).toInt = 59 := ti_59; omega))
      refine lv_iconst (v := 0) hx hb dX12_takes_15 ic_0 ?_
      have k99 : (0 : Int32).toInt = 0 := ti_0
      exact hret _ _ _ _ (0) f L Q dX12_takes_16 (by decide) hP hS ⟨⟨hI, hF, rfl, rfl⟩, Or.inr (⟨rfl, by omega⟩), (Eq.trans (Eq.symm (hs.trans ((if_neg c_23).trans rfl))) hsp)⟩

abbrev WkX12_workOut : List (Nat × Nat × Option Nat) := [(0, 0, some 12), (0, 0, some 13), (0, 0, some 14), (0, 0, some 15), (0, 0, some 16)]
set_option maxHeartbeats 4000000 in
set_option maxRecDepth 100000 in
theorem kX12_workOut (l : Launch) (D : va_G) (ca : Nat → ClassId) (za h : Nat → Nat) (hh : sgH 26 h) (f : sg_F) (L : sg_L) (Q : sg_Q) (hI : sgI loM hiM f) (x0 : Int32) (x1 : Int32) (b0 : (-1) ≤ x0.toInt ∧ x0.toInt ≤ 0) (b1 : 0 ≤ x1.toInt ∧ x1.toInt ≤ 120) (sz : Nat) : Met l yX12_workOut gwX12_workOut { frames := 43, cells := 0, slots := 0, locals := 979 } (sgP D vwCl (tyX ca) 26 h (eM ca h) zcM za f L Q sz [.ref (h 0), .int x0, .int x1]) (sgQi D vwCl 26 h (eM ca h) sz (fun r f1 L1 Q1 => ((sgI loM hiM f1 ∧ sgK WkX12_workOut f f1 ∧ L1 = L ∧ Q1 = Q) ∧ True ∧ (r, f1) = sX12_workOut x0 x1 f L))) 0 0 (sgA 26 h sz) := by
  refine sg_ofWi (cc := cX12_workOut) (maxL := 8) RX12 (by decide) rfl rfl (Nat.le_of_ble_eq_true rfl) ?_
  intro p e s m below meth cd Qz ls hx hb hml hown hts hK hZ hP hS hl hret
  have hA := sgY.self (n := 26) (h := h) (sz := s.heap.size)
  have hl : lv_has ls 8 [(0, .ref (h 0)), (1, .int x0), (2, .int x1)] := hl
  obtain ⟨H, hH⟩ : ∃ z : Heap, z = s.heap := ⟨_, rfl⟩
  obtain ⟨locs, hlo⟩ : ∃ z : List Loc, z = [] := ⟨_, rfl⟩
  have hP : va_P D vwCl (sgw 26 h (eM ca h) f L Q) H := by rw [hH]; exact hP
  have hS : va_S (sgA 26 h s.heap.size) s.heap H locs := by rw [hH, hlo]; exact hS
  suffices hgo : W p l e ({ frames := 43, cells := 0, slots := 0, locals := 979 }) s m ([.ref (h 0), .int x0, .int x1] : List Value).toArray below meth cd H locs 0 0 Qz (F0 m 0 ls []) by rw [hH, hlo] at hgo; exact hgo
  clear hH hlo
  obtain ⟨sp, hsp⟩ : ∃ z : Int32 × sg_F, z = sX12_workOut x0 x1 f L := ⟨_, rfl⟩
  have hs : sp = sX12_workOut x0 x1 f L := hsp
  obtain ⟨v_1, ev_1⟩ : ∃ z : Int32, z = f 0 15 := ⟨_, rfl⟩
  have q_2 : (-1) ≤ v_1.toInt ∧ v_1.toInt ≤ 120 := by rw [ev_1]; exact hI 0 15
  obtain ⟨v_3, ev_3⟩ : ∃ z : Int32, z = f 0 16 := ⟨_, rfl⟩
  have q_4 : 0 ≤ v_3.toInt ∧ v_3.toInt ≤ 6 := by rw [ev_3]; exact hI 0 16
  have o_5 : (f 0 15).toInt = v_1.toInt := (congrArg Int32.toInt (show f 0 15 = v_1 from ev_1.symm))
  have o_6 : (f 0 16).toInt = v_3.toInt := (congrArg Int32.toInt (show f 0 16 = v_3 from ev_3.symm))
  have hF : sgK WkX12_workOut f f := sgK.rf
  have loop_33 : ∀ (n_33 : Nat) (y3_33 : Int32) (y4_33 : Int32) (y5_33 : Int32) (fp_33 : sg_F) (H : Heap) (locs : List Loc) (ls : Array Slot), sp = sX12_workOut_l33 x0 x1 n_33 y3_33 y4_33 y5_33 fp_33 L → 2 * (120 - (fp_33 0 13).toInt) + y5_33.toInt < (n_33 : Int) → 0 ≤ y3_33.toInt ∧ y3_33.toInt ≤ 1 → 0 ≤ y5_33.toInt ∧ y5_33.toInt ≤ 1 → 0 ≤ (fp_33 0 15).toInt ∨ (fp_33 0 16).toInt = 0 → sgI loM hiM fp_33 → sgK WkX12_workOut f fp_33 → va_P D vwCl (sgw 26 h (eM ca h) fp_33 L Q) H → va_S (sgA 26 h s.heap.size) s.heap H locs → lv_has ls 8 [(0, .ref (h 0)), (3, .int y3_33), (4, .int y4_33), (5, .int y5_33)] → W p l e ({ frames := 43, cells := 0, slots := 0, locals := 979 }) s m ([.ref (h 0), .int x0, .int x1] : List Value).toArray below meth cd H locs 0 0 Qz (F0 m 33 ls []) := by
    intro n_33
    induction n_33 with
    | zero => intro y3_33 y4_33 y5_33 fp_33 H locs ls hs hm_33 hy0_33 hy1_33 hg0_33 hI hF hP hS hl; have zb := (show 0 ≤ (fp_33 0 13).toInt ∧ (fp_33 0 13).toInt ≤ 120 from hI 0 13); exact absurd hm_33 (by omega)
    | succ n_33 ih_33 =>
      have blk_96 : ∀ (y3_96 : Int32) (y4_96 : Int32) (fp_96 : sg_F) (H : Heap) (locs : List Loc) (ls : Array Slot), sp = sX12_workOut_b96 (sX12_workOut_l33 x0 x1 n_33) x0 x1 y3_96 y4_96 fp_96 L → 2 * (120 - (fp_96 0 13).toInt) + 1 < ((n_33 + 1 : Nat) : Int) → 0 ≤ y3_96.toInt ∧ y3_96.toInt ≤ 1 → 0 ≤ (fp_96 0 15).toInt ∨ (fp_96 0 16).toInt = 0 → sgI loM hiM fp_96 → sgK WkX12_workOut f fp_96 → va_P D vwCl (sgw 26 h (eM ca h) fp_96 L Q) H → va_S (sgA 26 h s.heap.size) s.heap H locs → lv_has ls 8 [(0, .ref (h 0)), (3, .int y3_96), (4, .int y4_96)] → W p l e ({ frames := 43, cells := 0, slots := 0, locals := 979 }) s m ([.ref (h 0), .int x0, .int x1] : List Value).toArray below meth cd H locs 0 0 Qz (F0 m 96 ls []) := by
        intro y3_96 y4_96 fp_96 H locs ls hs hm_33 hy0_96 hg0_96 hI hF hP hS hl
        obtain ⟨v_7, ev_7⟩ : ∃ z : Int32, z = fp_96 0 15 := ⟨_, rfl⟩
        have q_8 : (-1) ≤ v_7.toInt ∧ v_7.toInt ≤ 120 := by rw [ev_7]; exact hI 0 15
        have q_9 : (fp_96 0 15).toInt = v_7.toInt := by rw [ev_7]
        obtain ⟨v_10, ev_10⟩ : ∃ z : Int32, z = fp_96 0 16 := ⟨_, rfl⟩
        have q_11 : 0 ≤ v_10.toInt ∧ v_10.toInt ≤ 6 := by rw [ev_10]; exact hI 0 16
        have q_12 : (fp_96 0 16).toInt = v_10.toInt := by rw [ev_10]
        obtain ⟨v_13, ev_13⟩ : ∃ z : Int32, z = fp_96 0 13 := ⟨_, rfl⟩
        have q_14 : 0 ≤ v_13.toInt ∧ v_13.toInt ≤ 120 := by rw [ev_13]; exact hI 0 13
        have q_15 : (fp_96 0 13).toInt = v_13.toInt := by rw [ev_13]
        refine lv_aload_n hx hb dX12_workOut_96 rfl (lv_at hl 0 rfl) ?_
        refine lv_bipush (v := 59) hx hb dX12_workOut_97 bp_59 ?_
        obtain ⟨v_18, ev_18⟩ : ∃ z : Int32, z = fp_96 0 14 := ⟨_, rfl⟩
        have q_19 : 0 ≤ v_18.toInt ∧ v_18.toInt ≤ 120 := by rw [ev_18]; exact hI 0 14
        have q_20 : (fp_96 0 14).toInt = v_18.toInt := (congrArg Int32.toInt (show fp_96 0 14 = v_18 from ev_18.symm))
        refine sg_calli (va_runV (As := [.int 59]) (rest := []) ⟨hx, hb, hml, hown, hts⟩ (kX12_takes_59 l D ca za h hh fp_96 L Q hI H.size) (sl_c12_takes_1_0_0_20_12 hts ⟨Nat.le_of_ble_eq_true rfl, Nat.le_of_ble_eq_true rfl⟩) (sl_vM_0 hA hK hP hS hZ) rfl rfl hl.1 rfl (lv_room (Nat.le_of_ble_eq_true rfl)) dX12_workOut_99 ⟨Nat.le_refl _, Nat.le_refl _⟩) hA hS (fun r_26 f_23 L_24 Q_25 H locs hq hP hS => ?_)
        obtain ⟨⟨hI, hk_f_23, eL9, eQ9⟩, hq, u_27⟩ := hq
        rw [eL9, eQ9] at hP; clear eL9 eQ9
        have hF : sgK WkX12_workOut f f_23 := sgK.tr hF hk_f_23 (by decide +kernel)
        obtain ⟨v_28, ev_28⟩ : ∃ z : Int32, z = f_23 0 13 := ⟨_, rfl⟩
        replace hs := hs.trans (spl_e ev_7 (spl_e ev_10 (spl_e ev_13 (spl_e ev_18 (spl2_e u_27 (spl_e ev_28 rfl))))))
        have q_29 : 0 ≤ v_28.toInt ∧ v_28.toInt ≤ 120 := by rw [ev_28]; exact hI 0 13
        have q_30 : (f_23 0 13).toInt = v_28.toInt := (congrArg Int32.toInt (show f_23 0 13 = v_28 from ev_28.symm))
        have k_32 : (59 : Int32).toInt = 59 := by decide
        rcases hq with ⟨rfl, hq⟩ | ⟨rfl, hq⟩
        · skip
          have hc_33 := hq
          refine lv_istore (lv' := [(5, .int 1), (0, .ref (h 0)), (3, .int y3_96), (4, .int y4_96)]) hx hb dX12_workOut_102 hl (by decide) rfl (fun ls hl => ?_)
          refine lv_goto (tgt := 33) hx hb dX12_workOut_104 (by decide) ?_
          exact ih_33 y3_96 y4_96 1 f_23 _ _ _ (hs.trans ((if_pos rfl).trans rfl)) (by have kc2 : (1 : Int32).toInt = 1 := ti_1; have zz0_13 : (f_23 0 13).toInt = v_28.toInt := (congrArg Int32.toInt (show f_23 0 13 = v_28 from ev_28.symm)); omega) hy0_96 (by decide) (by have kc2 : (1 : Int32).toInt = 1 := ti_1; have zz0_15 : (f_23 0 15).toInt = v_7.toInt := (congrArg Int32.toInt (show f_23 0 15 = v_7 from ((hk_f_23 0 15 (by decide)).trans ev_7.symm))); have zz0_16 : (f_23 0 16).toInt = v_10.toInt := (congrArg Int32.toInt (show f_23 0 16 = v_10 from ((hk_f_23 0 16 (by decide)).trans ev_10.symm))); omega) hI hF hP hS (lv_sub hl [1, 2, 3, 0] rfl)
        · skip
          have hc_33 := hq
          refine lv_istore (lv' := [(5, .int 0), (0, .ref (h 0)), (3, .int y3_96), (4, .int y4_96)]) hx hb dX12_workOut_102 hl (by decide) rfl (fun ls hl => ?_)
          refine lv_goto (tgt := 33) hx hb dX12_workOut_104 (by decide) ?_
          exact ih_33 y3_96 y4_96 0 f_23 _ _ _ (hs.trans ((if_neg (by decide)).trans rfl)) (by have kc2 : (0 : Int32).toInt = 0 := ti_0; have zz0_13 : (f_23 0 13).toInt = v_28.toInt := (congrArg Int32.toInt (show f_23 0 13 = v_28 from ev_28.symm)); omega) hy0_96 (by decide) (by have kc2 : (0 : Int32).toInt = 0 := ti_0; have zz0_15 : (f_23 0 15).toInt = v_7.toInt := (congrArg Int32.toInt (show f_23 0 15 = v_7 from ((hk_f_23 0 15 (by decide)).trans ev_7.symm))); have zz0_16 : (f_23 0 16).toInt = v_10.toInt := (congrArg Int32.toInt (show f_23 0 16 = v_10 from ((hk_f_23 0 16 (by decide)).trans ev_10.symm))); omega) hI hF hP hS (lv_sub hl [1, 2, 3, 0] rfl)
      have blk_74 : ∀ (y3_74 : Int32) (y4_74 : Int32) (y6_74 : Int32) (y7_74 : Int32) (fp_74 : sg_F) (H : Heap) (locs : List Loc) (ls : Array Slot), sp = sX12_workOut_b74 (sX12_workOut_l33 x0 x1 n_33) x0 x1 y3_74 y4_74 y6_74 y7_74 fp_74 L → 2 * (120 - (fp_74 0 13).toInt) + 1 < ((n_33 + 1 : Nat) : Int) → 0 ≤ y3_74.toInt ∧ y3_74.toInt ≤ 1 → 0 ≤ y7_74.toInt ∧ y7_74.toInt ≤ 1 → 0 ≤ (fp_74 0 15).toInt ∨ (fp_74 0 16).toInt = 0 → sgI loM hiM fp_74 → sgK WkX12_workOut f fp_74 → va_P D vwCl (sgw 26 h (eM ca h) fp_74 L Q) H → va_S (sgA 26 h s.heap.size) s.heap H locs → lv_has ls 8 [(0, .ref (h 0)), (3, .int y3_74), (4, .int y4_74), (6, .int y6_74), (7, .int y7_74)] → W p l e ({ frames := 43, cells := 0, slots := 0, locals := 979 }) s m ([.ref (h 0), .int x0, .int x1] : List Value).toArray below meth cd H locs 0 0 Qz (F0 m 74 ls []) := by
        intro y3_74 y4_74 y6_74 y7_74 fp_74 H locs ls hs hm_33 hy0_74 hy1_74 hg0_74 hI hF hP hS hl
        obtain ⟨v_34, ev_34⟩ : ∃ z : Int32, z = fp_74 0 15 := ⟨_, rfl⟩
        have q_35 : (-1) ≤ v_34.toInt ∧ v_34.toInt ≤ 120 := by rw [ev_34]; exact hI 0 15
        have q_36 : (fp_74 0 15).toInt = v_34.toInt := by rw [ev_34]
        obtain ⟨v_37, ev_37⟩ : ∃ z : Int32, z = fp_74 0 16 := ⟨_, rfl⟩
        have q_38 : 0 ≤ v_37.toInt ∧ v_37.toInt ≤ 6 := by rw [ev_37]; exact hI 0 16
        have q_39 : (fp_74 0 16).toInt = v_37.toInt := by rw [ev_37]
        obtain ⟨v_40, ev_40⟩ : ∃ z : Int32, z = fp_74 0 13 := ⟨_, rfl⟩
        replace hs := hs.trans (spl_e ev_34 (spl_e ev_37 (spl_e ev_40 rfl)))
        have q_41 : 0 ≤ v_40.toInt ∧ v_40.toInt ≤ 120 := by rw [ev_40]; exact hI 0 13
        have q_42 : (fp_74 0 13).toInt = v_40.toInt := by rw [ev_40]
        refine lv_aload_n hx hb dX12_workOut_74 rfl (lv_at hl 0 rfl) ?_
        refine sl_gM_0_15_12 (v := v_34) hx hb hts hown hK hP (show fp_74 0 15 = v_34 from ev_34.symm) dX12_workOut_75 ?_
        refine lv_if_ge (tgt := 96) hx hb dX12_workOut_78 (by decide) (fun c => ?_) (fun c => ?_)
        · skip
          have c_43 : 0 ≤ v_34.toInt := (by first | exact (cm_le0 ti_0 c) | (have z := bn_le c; have k1 : (0 : Int32).toInt = 0 := ti_0; omega))
          exact blk_96 y3_74 y4_74 fp_74 _ _ _ (hs.trans ((if_neg (Int.not_lt.mpr c_43)).trans rfl)) (by have zz0_13 : (fp_74 0 13).toInt = v_40.toInt := (congrArg Int32.toInt (show fp_74 0 13 = v_40 from ev_40.symm)); omega) hy0_74 (by have zz0_15 : (fp_74 0 15).toInt = v_34.toInt := (congrArg Int32.toInt (show fp_74 0 15 = v_34 from ev_34.symm)); have zz0_16 : (fp_74 0 16).toInt = v_37.toInt := (congrArg Int32.toInt (show fp_74 0 16 = v_37 from ev_37.symm)); omega) hI hF hP hS (lv_sub hl [0, 1, 2] rfl)
        · skip
          have c_44 : v_34.toInt < 0 := (by first | exact (cm_nle0 ti_0 c) | (have z := bn_nle c; have k1 : (0 : Int32).toInt = 0 := ti_0; omega))
          replace hs := hs.trans ((if_pos c_44).trans rfl)
          refine lv_iload hx hb dX12_workOut_81 (lv_at hl 4 rfl) ?_
          refine lv_if_eq (tgt := 96) hx hb dX12_workOut_83 (by decide) (fun c => ?_) (fun c => ?_)
          · skip
            have c_45 : y7_74.toInt = 0 := (by first | exact (cm_eq1 ti_0 c) | (have z := Int32.toInt_inj.mpr c; have k1 : (0 : Int32).toInt = 0 := ti_0; omega))
            exact blk_96 y3_74 y4_74 fp_74 _ _ _ (hs.trans ((if_pos c_45).trans rfl)) (by have zz0_13 : (fp_74 0 13).toInt = v_40.toInt := (congrArg Int32.toInt (show fp_74 0 13 = v_40 from ev_40.symm)); omega) hy0_74 (by have zz0_15 : (fp_74 0 15).toInt = v_34.toInt := (congrArg Int32.toInt (show fp_74 0 15 = v_34 from ev_34.symm)); have zz0_16 : (fp_74 0 16).toInt = v_37.toInt := (congrArg Int32.toInt (show fp_74 0 16 = v_37 from ev_37.symm)); omega) hI hF hP hS (lv_sub hl [0, 1, 2] rfl)
          · skip
            have c_46 : y7_74.toInt ≠ 0 := (by first | exact (cm_ne1 ti_0 c) | (have z := bn_ne c; have k1 : (0 : Int32).toInt = 0 := ti_0; omega))
            replace hs := hs.trans ((if_neg c_46).trans rfl)
            refine lv_iload_n hx hb dX12_workOut_86 rfl (lv_at hl 1 rfl) ?_
            refine lv_if_ne (tgt := 96) hx hb dX12_workOut_87 (by decide) (fun c => ?_) (fun c => ?_)
            · skip
              have c_47 : y3_74.toInt ≠ 0 := (by first | exact (cm_ne1 ti_0 c) | (have z := bn_ne c; have k1 : (0 : Int32).toInt = 0 := ti_0; omega))
              exact blk_96 y3_74 y4_74 fp_74 _ _ _ (hs.trans ((if_neg c_47).trans rfl)) (by have zz0_13 : (fp_74 0 13).toInt = v_40.toInt := (congrArg Int32.toInt (show fp_74 0 13 = v_40 from ev_40.symm)); omega) hy0_74 (by have zz0_15 : (fp_74 0 15).toInt = v_34.toInt := (congrArg Int32.toInt (show fp_74 0 15 = v_34 from ev_34.symm)); have zz0_16 : (fp_74 0 16).toInt = v_37.toInt := (congrArg Int32.toInt (show fp_74 0 16 = v_37 from ev_37.symm)); omega) hI hF hP hS (lv_sub hl [0, 1, 2] rfl)
            · skip
              have c_48 : y3_74.toInt = 0 := (by first | exact (cm_eq1 ti_0 c) | (have z := Int32.toInt_inj.mpr c; have k1 : (0 : Int32).toInt = 0 := ti_0; omega))
              refine lv_iconst (v := 1) hx hb dX12_workOut_90 ic_1 ?_
              refine lv_istore_n (lv' := [(3, .int 1), (0, .ref (h 0)), (4, .int y4_74), (6, .int y6_74), (7, .int y7_74)]) hx hb dX12_workOut_91 rfl hl (by decide) rfl (fun ls hl => ?_)
              refine lv_iload hx hb dX12_workOut_92 (lv_at hl 3 rfl) ?_
              refine lv_istore (lv' := [(4, .int y6_74), (3, .int 1), (0, .ref (h 0)), (6, .int y6_74), (7, .int y7_74)]) hx hb dX12_workOut_94 hl (by decide) rfl (fun ls hl => ?_)
              exact blk_96 1 y6_74 fp_74 _ _ _ (hs.trans ((if_pos c_48).trans rfl)) (by have kc0 : (1 : Int32).toInt = 1 := ti_1; have zz0_13 : (fp_74 0 13).toInt = v_40.toInt := (congrArg Int32.toInt (show fp_74 0 13 = v_40 from ev_40.symm)); omega) (by decide) (by have kc0 : (1 : Int32).toInt = 1 := ti_1; have zz0_15 : (fp_74 0 15).toInt = v_34.toInt := (congrArg Int32.toInt (show fp_74 0 15 = v_34 from ev_34.symm)); have zz0_16 : (fp_74 0 16).toInt = v_37.toInt := (congrArg Int32.toInt (show fp_74 0 16 = v_37 from ev_37.symm)); omega) hI hF hP hS (lv_sub hl [2, 1, 0] rfl)
      intro y3_33 y4_33 y5_33 fp_33 H locs ls hs hm_33 hy0_33 hy1_33 hg0_33 hI hF hP hS hl
      have hs : sp = sX12_workOut_h33 x0 x1 (sX12_workOut_l33 x0 x1 n_33) y3_33 y4_33 y5_33 fp_33 L := hs
      obtain ⟨v_49, ev_49⟩ : ∃ z : Int32, z = fp_33 0 15 := ⟨_, rfl⟩
      have q_50 : (-1) ≤ v_49.toInt ∧ v_49.toInt ≤ 120 := by rw [ev_49]; exact hI 0 15
      have q_51 : (fp_33 0 15).toInt = v_49.toInt := by rw [ev_49]
      obtain ⟨v_52, ev_52⟩ : ∃ z : Int32, z = fp_33 0 16 := ⟨_, rfl⟩
      have q_53 : 0 ≤ v_52.toInt ∧ v_52.toInt ≤ 6 := by rw [ev_52]; exact hI 0 16
      have q_54 : (fp_33 0 16).toInt = v_52.toInt := by rw [ev_52]
      obtain ⟨v_55, ev_55⟩ : ∃ z : Int32, z = fp_33 0 13 := ⟨_, rfl⟩
      replace hs := hs.trans (spl_e ev_49 (spl_e ev_52 (spl_e ev_55 rfl)))
      have q_56 : 0 ≤ v_55.toInt ∧ v_55.toInt ≤ 120 := by rw [ev_55]; exact hI 0 13
      have q_57 : (fp_33 0 13).toInt = v_55.toInt := by rw [ev_55]
      refine lv_iload hx hb dX12_workOut_33 (lv_at hl 3 rfl) ?_
      refine lv_if_eq (tgt := 107) hx hb dX12_workOut_35 (by decide) (fun c => ?_) (fun c => ?_)
      · skip
        have c_58 : y5_33.toInt = 0 := (by first | exact (cm_eq1 ti_0 c) | (have z := Int32.toInt_inj.mpr c; have k1 : (0 : Int32).toInt = 0 := ti_0; omega))
        replace hs := hs.trans ((if_pos c_58).trans rfl)
        refine lv_aload_n hx hb dX12_workOut_107 rfl (lv_at hl 0 rfl) ?_
        refine sl_gM_0_15_12 (v := v_49) hx hb hts hown hK hP (show fp_33 0 15 = v_49 from ev_49.symm) dX12_workOut_108 ?_
        refine lv_if_ge (tgt := 130) hx hb dX12_workOut_111 (by decide) (fun c => ?_) (fun c => ?_)
        · skip
          have c_60 : 0 ≤ v_49.toInt := (by first | exact (cm_le0 ti_0 c) | (have z := bn_le c; have k1 : (0 : Int32).toInt = 0 := ti_0; omega))
          refine lv_iload hx hb dX12_workOut_130 (lv_at hl 2 rfl) ?_
          exact hret _ _ _ _ (y4_33) fp_33 L Q dX12_workOut_132 hP hS ⟨⟨hI, hF, rfl, rfl⟩, trivial, (Eq.trans (Eq.symm (hs.trans ((if_neg (Int.not_lt.mpr c_60)).trans rfl))) hsp)⟩
        · skip
          have c_61 : v_49.toInt < 0 := (by first | exact (cm_nle0 ti_0 c) | (have z := bn_nle c; have k1 : (0 : Int32).toInt = 0 := ti_0; omega))
          refine lv_aload_n hx hb dX12_workOut_114 rfl (lv_at hl 0 rfl) ?_
          refine sl_gM_0_13_12 (v := v_55) hx hb hts hown hK hP (show fp_33 0 13 = v_55 from ev_55.symm) dX12_workOut_115 ?_
          refine lv_aload_n hx hb dX12_workOut_118 rfl (lv_at hl 0 rfl) ?_
          refine sl_gM_0_14_12 (v := (fp_33 0 14)) hx hb hts hown hK hP rfl dX12_workOut_119 ?_
          refine lv_topi (fun v_62 ev_62 => ?_)
          replace hs := hs.trans ((if_pos c_61).trans (spl_e ev_62 rfl))
          have q_63 : 0 ≤ v_62.toInt ∧ v_62.toInt ≤ 120 := by rw [ev_62]; exact hI 0 14
          refine lv_icmp_ge (tgt := 130) hx hb dX12_workOut_122 (by decide) (fun c => ?_) (fun c => ?_)
          · skip
            have c_64 : v_62.toInt ≤ v_55.toInt := (by first | exact (bn_le c) | (have z := bn_le c; omega))
            refine lv_iload hx hb dX12_workOut_130 (lv_at hl 2 rfl) ?_
            exact hret _ _ _ _ (y4_33) fp_33 L Q dX12_workOut_132 hP hS ⟨⟨hI, hF, rfl, rfl⟩, trivial, (Eq.trans (Eq.symm (hs.trans ((if_neg (Int.not_lt.mpr c_64)).trans rfl))) hsp)⟩
          · skip
            have c_65 : v_55.toInt < v_62.toInt := (by first | exact (bn_nle c) | (have z := bn_nle c; omega))
            refine lv_aload_n hx hb dX12_workOut_125 rfl (lv_at hl 0 rfl) ?_
            refine sg_calli (va_runV (As := []) (rest := []) ⟨hx, hb, hml, hown, hts⟩ (kX12_wrong l D ca za h hh fp_33 L Q hI H.size) (sl_c12_wrong_0_0_0_0_12 hts ⟨Nat.le_of_ble_eq_true rfl, Nat.le_of_ble_eq_true rfl⟩) (sl_vM_0 hA hK hP hS hZ) rfl rfl hl.1 rfl (lv_room (Nat.le_of_ble_eq_true rfl)) dX12_workOut_126 ⟨Nat.le_refl _, Nat.le_refl _⟩) hA hS (fun r_69 f_66 L_67 Q_68 H locs hq hP hS => ?_)
            obtain ⟨⟨hI, hk_f_66, eL9, eQ9⟩, hq, p_70, u_71⟩ := hq
            rw [eL9, eQ9] at hP; clear eL9 eQ9
            have hF : sgK WkX12_workOut f f_66 := sgK.tr hF hk_f_66 (by decide +kernel)
            obtain ⟨v_72, ev_72⟩ : ∃ z : Int32, z = f_66 0 15 := ⟨_, rfl⟩
            have q_73 : (-1) ≤ v_72.toInt ∧ v_72.toInt ≤ 120 := by rw [ev_72]; exact hI 0 15
            have q_74 : (f_66 0 15).toInt = v_72.toInt := (congrArg Int32.toInt (show f_66 0 15 = v_72 from ev_72.symm))
            obtain rfl : r_69 = 0 := Int32.toInt_inj.mp (by have k9 : (0 : Int32).toInt = 0 := ti_0; omega)
            have k99 : (0 : Int32).toInt = 0 := ti_0
            exact hret _ _ _ _ (0) f_66 L Q dX12_workOut_129 hP hS ⟨⟨hI, hF, rfl, rfl⟩, trivial, (Eq.trans (Eq.symm (hs.trans ((if_pos c_65).trans (spl2_e u_71 (spl_e ev_72 rfl))))) hsp)⟩
      · skip
        have c_59 : y5_33.toInt ≠ 0 := (by first | exact (cm_ne1 ti_0 c) | (have z := bn_ne c; have k1 : (0 : Int32).toInt = 0 := ti_0; omega))
        refine lv_aload_n hx hb dX12_workOut_38 rfl (lv_at hl 0 rfl) ?_
        refine sg_calli (va_runV (As := []) (rest := []) ⟨hx, hb, hml, hown, hts⟩ (kX12_either_0 l D ca za h hh fp_33 L Q hI (by omega) (by omega) H.size) (sl_c12_either_42_0_0_957_12 hts ⟨Nat.le_of_ble_eq_true rfl, Nat.le_of_ble_eq_true rfl⟩) (sl_vM_0 hA hK hP hS hZ) rfl rfl hl.1 rfl (lv_room (Nat.le_of_ble_eq_true rfl)) dX12_workOut_39 ⟨Nat.le_refl _, Nat.le_refl _⟩) hA hS (fun r_82 f_79 L_80 Q_81 H locs hq hP hS => ?_)
        obtain ⟨⟨hI, hk_f_79, eL9, eQ9⟩, hq, p_83, p_84, p_85, u_86⟩ := hq
        rw [eL9, eQ9] at hP; clear eL9 eQ9
        have hF : sgK WkX12_workOut f f_79 := sgK.tr hF hk_f_79 (by decide +kernel)
        obtain ⟨v_87, ev_87⟩ : ∃ z : Int32, z = f_79 0 13 := ⟨_, rfl⟩
        have q_88 : 0 ≤ v_87.toInt ∧ v_87.toInt ≤ 120 := by rw [ev_87]; exact hI 0 13
        have q_89 : (f_79 0 13).toInt = v_87.toInt := (congrArg Int32.toInt (show f_79 0 13 = v_87 from ev_87.symm))
        obtain ⟨v_90, ev_90⟩ : ∃ z : Int32, z = f_79 0 16 := ⟨_, rfl⟩
        have q_91 : 0 ≤ v_90.toInt ∧ v_90.toInt ≤ 6 := by rw [ev_90]; exact hI 0 16
        have q_92 : (f_79 0 16).toInt = v_90.toInt := (congrArg Int32.toInt (show f_79 0 16 = v_90 from ev_90.symm))
        obtain ⟨v_93, ev_93⟩ : ∃ z : Int32, z = f_79 0 15 := ⟨_, rfl⟩
        have q_94 : (-1) ≤ v_93.toInt ∧ v_93.toInt ≤ 120 := by rw [ev_93]; exact hI 0 15
        have q_95 : (f_79 0 15).toInt = v_93.toInt := (congrArg Int32.toInt (show f_79 0 15 = v_93 from ev_93.symm))
        refine lv_istore (lv' := [(6, .int r_82), (0, .ref (h 0)), (3, .int y3_33), (4, .int y4_33), (5, .int y5_33)]) hx hb dX12_workOut_42 hl (by decide) rfl (fun ls hl => ?_)
        refine lv_iconst (v := 1) hx hb dX12_workOut_44 ic_1 ?_
        refine lv_istore (lv' := [(7, .int 1), (6, .int r_82), (0, .ref (h 0)), (3, .int y3_33), (4, .int y4_33), (5, .int y5_33)]) hx hb dX12_workOut_45 hl (by decide) rfl (fun ls hl => ?_)
        refine lv_aload_n hx hb dX12_workOut_47 rfl (lv_at hl 2 rfl) ?_
        refine lv_bipush (v := 63) hx hb dX12_workOut_48 bp_63 ?_
        obtain ⟨v_99, ev_99⟩ : ∃ z : Int32, z = f_79 0 14 := ⟨_, rfl⟩
        have q_100 : 0 ≤ v_99.toInt ∧ v_99.toInt ≤ 120 := by rw [ev_99]; exact hI 0 14
        have q_101 : (f_79 0 14).toInt = v_99.toInt := (congrArg Int32.toInt (show f_79 0 14 = v_99 from ev_99.symm))
        refine sg_calli (va_runV (As := [.int 63]) (rest := []) ⟨hx, hb, hml, hown, hts⟩ (kX12_takes_63 l D ca za h hh f_79 L Q hI H.size) (sl_c12_takes_1_0_0_20_12 hts ⟨Nat.le_of_ble_eq_true rfl, Nat.le_of_ble_eq_true rfl⟩) (sl_vM_0 hA hK hP hS hZ) rfl rfl hl.1 rfl (lv_room (Nat.le_of_ble_eq_true rfl)) dX12_workOut_50 ⟨Nat.le_refl _, Nat.le_refl _⟩) hA hS (fun r_107 f_104 L_105 Q_106 H locs hq hP hS => ?_)
        obtain ⟨⟨hI, hk_f_104, eL9, eQ9⟩, hq, u_108⟩ := hq
        rw [eL9, eQ9] at hP; clear eL9 eQ9
        have hF : sgK WkX12_workOut f f_104 := sgK.tr hF hk_f_104 (by decide +kernel)
        obtain ⟨v_109, ev_109⟩ : ∃ z : Int32, z = f_104 0 13 := ⟨_, rfl⟩
        replace hs := hs.trans ((if_neg c_59).trans (spl2_e u_86 (spl_e ev_87 (spl_e ev_90 (spl_e ev_93 (spl_e ev_99 (spl2_e u_108 (spl_e ev_109 rfl))))))))
        have q_110 : 0 ≤ v_109.toInt ∧ v_109.toInt ≤ 120 := by rw [ev_109]; exact hI 0 13
        have q_111 : (f_104 0 13).toInt = v_109.toInt := (congrArg Int32.toInt (show f_104 0 13 = v_109 from ev_109.symm))
        have k_113 : (63 : Int32).toInt = 63 := by decide
        rcases hq with ⟨rfl, hq⟩ | ⟨rfl, hq⟩
        · skip
          have hc_114 := hq
          refine lv_if_eq (tgt := 74) hx hb dX12_workOut_53 (by decide) (fun c => absurd c (by decide)) (fun c => ?_)
          refine lv_iload hx hb dX12_workOut_56 (lv_at hl 1 rfl) ?_
          refine lv_if_eq (tgt := 65) hx hb dX12_workOut_58 (by decide) (fun c => ?_) (fun c => ?_)
          · skip
            have c_115 : r_82.toInt = 0 := (by first | exact (cm_eq1 ti_0 c) | (have z := Int32.toInt_inj.mpr c; have k1 : (0 : Int32).toInt = 0 := ti_0; omega))
            refine lv_iconst (v := 0) hx hb dX12_workOut_65 ic_0 ?_
            refine lv_istore (lv' := [(7, .int 0), (6, .int r_82), (0, .ref (h 0)), (3, .int y3_33), (4, .int y4_33), (5, .int y5_33)]) hx hb dX12_workOut_66 hl (by decide) rfl (fun ls hl => ?_)
            refine lv_aload_n hx hb dX12_workOut_68 rfl (lv_at hl 2 rfl) ?_
            have q_117 : (f_104 0 16).toInt = v_90.toInt := (congrArg Int32.toInt (show f_104 0 16 = v_90 from ((hk_f_104 0 16 (by decide)).trans ev_90.symm)))
            have q_118 : (f_104 0 15).toInt = v_93.toInt := (congrArg Int32.toInt (show f_104 0 15 = v_93 from ((hk_f_104 0 15 (by decide)).trans ev_93.symm)))
            refine sg_calli (va_runV (As := []) (rest := []) ⟨hx, hb, hml, hown, hts⟩ (kX12_either_0 l D ca za h hh f_104 L Q hI (by omega) (by omega) H.size) (sl_c12_either_42_0_0_957_12 hts ⟨Nat.le_of_ble_eq_true rfl, Nat.le_of_ble_eq_true rfl⟩) (sl_vM_0 hA hK hP hS hZ) rfl rfl hl.1 rfl (lv_room (Nat.le_of_ble_eq_true rfl)) dX12_workOut_69 ⟨Nat.le_refl _, Nat.le_refl _⟩) hA hS (fun r_124 f_121 L_122 Q_123 H locs hq hP hS => ?_)
            obtain ⟨⟨hI, hk_f_121, eL9, eQ9⟩, hq, p_125, p_126, p_127, u_128⟩ := hq
            rw [eL9, eQ9] at hP; clear eL9 eQ9
            have hF : sgK WkX12_workOut f f_121 := sgK.tr hF hk_f_121 (by decide +kernel)
            obtain ⟨v_129, ev_129⟩ : ∃ z : Int32, z = f_121 0 13 := ⟨_, rfl⟩
            have q_130 : 0 ≤ v_129.toInt ∧ v_129.toInt ≤ 120 := by rw [ev_129]; exact hI 0 13
            have q_131 : (f_121 0 13).toInt = v_129.toInt := (congrArg Int32.toInt (show f_121 0 13 = v_129 from ev_129.symm))
            obtain ⟨v_132, ev_132⟩ : ∃ z : Int32, z = f_121 0 16 := ⟨_, rfl⟩
            have q_133 : 0 ≤ v_132.toInt ∧ v_132.toInt ≤ 6 := by rw [ev_132]; exact hI 0 16
            have q_134 : (f_121 0 16).toInt = v_132.toInt := (congrArg Int32.toInt (show f_121 0 16 = v_132 from ev_132.symm))
            obtain ⟨v_135, ev_135⟩ : ∃ z : Int32, z = f_121 0 15 := ⟨_, rfl⟩
            have q_136 : (-1) ≤ v_135.toInt ∧ v_135.toInt ≤ 120 := by rw [ev_135]; exact hI 0 15
            have q_137 : (f_121 0 15).toInt = v_135.toInt := (congrArg Int32.toInt (show f_121 0 15 = v_135 from ev_135.symm))
            refine lv_istore (lv' := [(6, .int r_124), (7, .int 0), (0, .ref (h 0)), (3, .int y3_33), (4, .int y4_33), (5, .int y5_33)]) hx hb dX12_workOut_72 hl (by decide) rfl (fun ls hl => ?_)
            exact blk_74 y3_33 y4_33 r_124 0 f_121 _ _ _ (hs.trans ((if_pos rfl).trans ((if_pos c_115).trans (spl2_e u_128 (spl_e ev_129 (spl_e ev_132 (spl_e ev_135 rfl))))))) (by have kc3 : (0 : Int32).toInt = 0 := ti_0; have zz0_13 : (f_121 0 13).toInt = v_129.toInt := (congrArg Int32.toInt (show f_121 0 13 = v_129 from ev_129.symm)); omega) hy0_33 (by decide) (by have kc3 : (0 : Int32).toInt = 0 := ti_0; have zz0_15 : (f_121 0 15).toInt = v_135.toInt := (congrArg Int32.toInt (show f_121 0 15 = v_135 from ev_135.symm)); have zz0_16 : (f_121 0 16).toInt = v_132.toInt := (congrArg Int32.toInt (show f_121 0 16 = v_132 from ev_132.symm)); omega) hI hF hP hS (lv_sub hl [2, 3, 4, 0, 1] rfl)
          · skip
            have c_116 : r_82.toInt ≠ 0 := (by first | exact (cm_ne1 ti_0 c) | (have z := bn_ne c; have k1 : (0 : Int32).toInt = 0 := ti_0; omega))
            refine lv_iconst (v := 1) hx hb dX12_workOut_61 ic_1 ?_
            refine lv_goto (tgt := 66) hx hb dX12_workOut_62 (by decide) ?_
            refine lv_istore (lv' := [(7, .int 1), (6, .int r_82), (0, .ref (h 0)), (3, .int y3_33), (4, .int y4_33), (5, .int y5_33)]) hx hb dX12_workOut_66 hl (by decide) rfl (fun ls hl => ?_)
            refine lv_aload_n hx hb dX12_workOut_68 rfl (lv_at hl 2 rfl) ?_
            have q_139 : (f_104 0 16).toInt = v_90.toInt := (congrArg Int32.toInt (show f_104 0 16 = v_90 from ((hk_f_104 0 16 (by decide)).trans ev_90.symm)))
            have q_140 : (f_104 0 15).toInt = v_93.toInt := (congrArg Int32.toInt (show f_104 0 15 = v_93 from ((hk_f_104 0 15 (by decide)).trans ev_93.symm)))
            refine sg_calli (va_runV (As := []) (rest := []) ⟨hx, hb, hml, hown, hts⟩ (kX12_either_0 l D ca za h hh f_104 L Q hI (by omega) (by omega) H.size) (sl_c12_either_42_0_0_957_12 hts ⟨Nat.le_of_ble_eq_true rfl, Nat.le_of_ble_eq_true rfl⟩) (sl_vM_0 hA hK hP hS hZ) rfl rfl hl.1 rfl (lv_room (Nat.le_of_ble_eq_true rfl)) dX12_workOut_69 ⟨Nat.le_refl _, Nat.le_refl _⟩) hA hS (fun r_146 f_143 L_144 Q_145 H locs hq hP hS => ?_)
            obtain ⟨⟨hI, hk_f_143, eL9, eQ9⟩, hq, p_147, p_148, p_149, u_150⟩ := hq
            rw [eL9, eQ9] at hP; clear eL9 eQ9
            have hF : sgK WkX12_workOut f f_143 := sgK.tr hF hk_f_143 (by decide +kernel)
            obtain ⟨v_151, ev_151⟩ : ∃ z : Int32, z = f_143 0 13 := ⟨_, rfl⟩
            have q_152 : 0 ≤ v_151.toInt ∧ v_151.toInt ≤ 120 := by rw [ev_151]; exact hI 0 13
            have q_153 : (f_143 0 13).toInt = v_151.toInt := (congrArg Int32.toInt (show f_143 0 13 = v_151 from ev_151.symm))
            obtain ⟨v_154, ev_154⟩ : ∃ z : Int32, z = f_143 0 16 := ⟨_, rfl⟩
            have q_155 : 0 ≤ v_154.toInt ∧ v_154.toInt ≤ 6 := by rw [ev_154]; exact hI 0 16
            have q_156 : (f_143 0 16).toInt = v_154.toInt := (congrArg Int32.toInt (show f_143 0 16 = v_154 from ev_154.symm))
            obtain ⟨v_157, ev_157⟩ : ∃ z : Int32, z = f_143 0 15 := ⟨_, rfl⟩
            have q_158 : (-1) ≤ v_157.toInt ∧ v_157.toInt ≤ 120 := by rw [ev_157]; exact hI 0 15
            have q_159 : (f_143 0 15).toInt = v_157.toInt := (congrArg Int32.toInt (show f_143 0 15 = v_157 from ev_157.symm))
            refine lv_istore (lv' := [(6, .int r_146), (7, .int 1), (0, .ref (h 0)), (3, .int y3_33), (4, .int y4_33), (5, .int y5_33)]) hx hb dX12_workOut_72 hl (by decide) rfl (fun ls hl => ?_)
            exact blk_74 y3_33 y4_33 r_146 1 f_143 _ _ _ (hs.trans ((if_pos rfl).trans ((if_neg c_116).trans (spl2_e u_150 (spl_e ev_151 (spl_e ev_154 (spl_e ev_157 rfl))))))) (by have kc3 : (1 : Int32).toInt = 1 := ti_1; have zz0_13 : (f_143 0 13).toInt = v_151.toInt := (congrArg Int32.toInt (show f_143 0 13 = v_151 from ev_151.symm)); omega) hy0_33 (by decide) (by have kc3 : (1 : Int32).toInt = 1 := ti_1; have zz0_15 : (f_143 0 15).toInt = v_157.toInt := (congrArg Int32.toInt (show f_143 0 15 = v_157 from ev_157.symm)); have zz0_16 : (f_143 0 16).toInt = v_154.toInt := (congrArg Int32.toInt (show f_143 0 16 = v_154 from ev_154.symm)); omega) hI hF hP hS (lv_sub hl [2, 3, 4, 0, 1] rfl)
        · skip
          have hc_114 := hq
          refine lv_if_eq (tgt := 74) hx hb dX12_workOut_53 (by decide) (fun c => ?_) (fun c => absurd c (by decide))
          exact blk_74 y3_33 y4_33 r_82 1 f_104 _ _ _ (hs.trans ((if_neg (by decide)).trans rfl)) (by have kc3 : (1 : Int32).toInt = 1 := ti_1; have zz0_13 : (f_104 0 13).toInt = v_109.toInt := (congrArg Int32.toInt (show f_104 0 13 = v_109 from ev_109.symm)); omega) hy0_33 (by decide) (by have kc3 : (1 : Int32).toInt = 1 := ti_1; have zz0_15 : (f_104 0 15).toInt = v_93.toInt := (congrArg Int32.toInt (show f_104 0 15 = v_93 from ((hk_f_104 0 15 (by decide)).trans ev_93.symm))); have zz0_16 : (f_104 0 16).toInt = v_90.toInt := (congrArg Int32.toInt (show f_104 0 16 = v_90 from ((hk_f_104 0 16 (by decide)).trans ev_90.symm))); omega) hI hF hP hS (lv_sub hl [2, 3, 4, 1, 0] rfl)
  refine lv_aload_n hx hb dX12_workOut_0 rfl (lv_at hl 0 rfl) ?_
  refine lv_iload_n hx hb dX12_workOut_1 rfl (lv_at hl 1 rfl) ?_
  refine sl_pM_0_12_12 (x := x0) hx hb hts hown hh hA hK hP hS dX12_workOut_2 (fun f_161 H locs ef_161 hP hS => ?_)
  have hI : sgI loM hiM f_161 := by rw [ef_161]; exact sgI.put hI 0 12 (show (-1) ≤ (x0 : Int32).toInt ∧ (x0 : Int32).toInt ≤ 0 from b0)
  have hF : sgK WkX12_workOut f f_161 := sgK.put hF ef_161 (by rfl)
  refine lv_aload_n hx hb dX12_workOut_5 rfl (lv_at hl 0 rfl) ?_
  refine lv_iconst (v := 0) hx hb dX12_workOut_6 ic_0 ?_
  refine sl_pM_0_13_12 (x := 0) hx hb hts hown hh hA hK hP hS dX12_workOut_7 (fun f_162 H locs ef_162 hP hS => ?_)
  have hI : sgI loM hiM f_162 := by rw [ef_162]; exact sgI.put hI 0 13 (show 0 ≤ (0 : Int32).toInt ∧ (0 : Int32).toInt ≤ 120 from by decide)
  have hF : sgK WkX12_workOut f f_162 := sgK.put hF ef_162 (by rfl)
  refine lv_aload_n hx hb dX12_workOut_10 rfl (lv_at hl 0 rfl) ?_
  refine lv_iload_n hx hb dX12_workOut_11 rfl (lv_at hl 2 rfl) ?_
  refine sl_pM_0_14_12 (x := x1) hx hb hts hown hh hA hK hP hS dX12_workOut_12 (fun f_163 H locs ef_163 hP hS => ?_)
  have hI : sgI loM hiM f_163 := by rw [ef_163]; exact sgI.put hI 0 14 (show 0 ≤ (x1 : Int32).toInt ∧ (x1 : Int32).toInt ≤ 120 from b1)
  have hF : sgK WkX12_workOut f f_163 := sgK.put hF ef_163 (by rfl)
  refine lv_aload_n hx hb dX12_workOut_15 rfl (lv_at hl 0 rfl) ?_
  refine lv_iconst (v := (-1)) hx hb dX12_workOut_16 ic_m1 ?_
  refine sl_pM_0_15_12 (x := (-1)) hx hb hts hown hh hA hK hP hS dX12_workOut_17 (fun f_164 H locs ef_164 hP hS => ?_)
  have hI : sgI loM hiM f_164 := by rw [ef_164]; exact sgI.put hI 0 15 (show (-1) ≤ ((-1) : Int32).toInt ∧ ((-1) : Int32).toInt ≤ 120 from by decide)
  have hF : sgK WkX12_workOut f f_164 := sgK.put hF ef_164 (by rfl)
  refine lv_aload_n hx hb dX12_workOut_20 rfl (lv_at hl 0 rfl) ?_
  refine lv_iconst (v := 0) hx hb dX12_workOut_21 ic_0 ?_
  refine sl_pM_0_16_12 (x := 0) hx hb hts hown hh hA hK hP hS dX12_workOut_22 (fun f_165 H locs ef_165 hP hS => ?_)
  have hI : sgI loM hiM f_165 := by rw [ef_165]; exact sgI.put hI 0 16 (show 0 ≤ (0 : Int32).toInt ∧ (0 : Int32).toInt ≤ 6 from by decide)
  have hF : sgK WkX12_workOut f f_165 := sgK.put hF ef_165 (by rfl)
  refine lv_iconst (v := 0) hx hb dX12_workOut_25 ic_0 ?_
  refine lv_istore_n (lv' := [(3, .int 0), (0, .ref (h 0)), (1, .int x0), (2, .int x1)]) hx hb dX12_workOut_26 rfl hl (by decide) rfl (fun ls hl => ?_)
  refine lv_iconst (v := 0) hx hb dX12_workOut_27 ic_0 ?_
  refine lv_istore (lv' := [(4, .int 0), (3, .int 0), (0, .ref (h 0)), (1, .int x0), (2, .int x1)]) hx hb dX12_workOut_28 hl (by decide) rfl (fun ls hl => ?_)
  refine lv_iconst (v := 1) hx hb dX12_workOut_30 ic_1 ?_
  refine lv_istore (lv' := [(5, .int 1), (4, .int 0), (3, .int 0), (0, .ref (h 0)), (1, .int x0), (2, .int x1)]) hx hb dX12_workOut_31 hl (by decide) rfl (fun ls hl => ?_)
  exact loop_33 300 0 0 1 f_165 _ _ _ (hs.trans ((spl_e ev_1 (spl_e ev_3 (spl_e ef_161 (spl_e ef_162 (spl_e ef_163 (spl_e ef_164 (spl_e ef_165 rfl))))))))) (by have kc0 : (0 : Int32).toInt = 0 := ti_0; have kc1 : (0 : Int32).toInt = 0 := ti_0; have kc2 : (1 : Int32).toInt = 1 := ti_1; have zz0_13 : (f_165 0 13).toInt = 0 := (congrArg Int32.toInt (show f_165 0 13 = 0 from (by rw [ef_165, sg_up_s, sgu_n (by decide)]; exact (by rw [ef_164, sg_up_s, sgu_n (by decide)]; exact (by rw [ef_163, sg_up_s, sgu_n (by decide)]; exact (by rw [ef_162, sg_up_s, sgu_s])))))).trans (by decide); omega) (by decide) (by decide) (by have kc0 : (0 : Int32).toInt = 0 := ti_0; have kc1 : (0 : Int32).toInt = 0 := ti_0; have kc2 : (1 : Int32).toInt = 1 := ti_1; have zz0_15 : (f_165 0 15).toInt = (-1) := (congrArg Int32.toInt (show f_165 0 15 = (-1) from (by rw [ef_165, sg_up_s, sgu_n (by decide)]; exact (by rw [ef_164, sg_up_s, sgu_s])))).trans (by decide); have zz0_16 : (f_165 0 16).toInt = 0 := (congrArg Int32.toInt (show f_165 0 16 = 0 from (by rw [ef_165, sg_up_s, sgu_s]))).trans (by decide); omega) hI hF hP hS (lv_sub hl [3, 2, 1, 0] rfl)

abbrev WkX12_law : List (Nat × Nat × Option Nat) := [(0, 0, some 9), (0, 0, some 11), (0, 0, some 12), (0, 0, some 13), (0, 0, some 14), (0, 0, some 15), (0, 0, some 16), (7, 7, none)]
set_option maxHeartbeats 4000000 in
set_option maxRecDepth 100000 in
theorem kX12_law (l : Launch) (D : va_G) (ca : Nat → ClassId) (za h : Nat → Nat) (hh : sgH 26 h) (f : sg_F) (L : sg_L) (Q : sg_Q) (hI : sgI loM hiM f) (sz : Nat) : Met l yX12_law gwX12_law { frames := 44, cells := 0, slots := 0, locals := 1006 } (sgP D vwCl (tyX ca) 26 h (eM ca h) zcM za f L Q sz [.ref (h 0)]) (sgQi D vwCl 26 h (eM ca h) sz (fun r f1 L1 Q1 => ((sgI loM hiM f1 ∧ sgK WkX12_law f f1 ∧ L1 = L ∧ Q1 = Q) ∧ ((-220) ≤ r.toInt ∧ r.toInt ≤ 1) ∧ (r, f1) = sX12_law f L))) 0 0 (sgA 26 h sz) := by
  refine sg_ofWi (cc := cX12_law) (maxL := 4) RX12 (by decide) rfl rfl (Nat.le_of_ble_eq_true rfl) ?_
  intro p e s m below meth cd Qz ls hx hb hml hown hts hK hZ hP hS hl hret
  have hA := sgY.self (n := 26) (h := h) (sz := s.heap.size)
  have hl : lv_has ls 4 [(0, .ref (h 0))] := hl
  obtain ⟨H, hH⟩ : ∃ z : Heap, z = s.heap := ⟨_, rfl⟩
  obtain ⟨locs, hlo⟩ : ∃ z : List Loc, z = [] := ⟨_, rfl⟩
  have hP : va_P D vwCl (sgw 26 h (eM ca h) f L Q) H := by rw [hH]; exact hP
  have hS : va_S (sgA 26 h s.heap.size) s.heap H locs := by rw [hH, hlo]; exact hS
  suffices hgo : W p l e ({ frames := 44, cells := 0, slots := 0, locals := 1006 }) s m ([.ref (h 0)] : List Value).toArray below meth cd H locs 0 0 Qz (F0 m 0 ls []) by rw [hH, hlo] at hgo; exact hgo
  clear hH hlo
  obtain ⟨sp, hsp⟩ : ∃ z : Int32 × sg_F, z = sX12_law f L := ⟨_, rfl⟩
  have hs : sp = sX12_law f L := hsp
  have hF : sgK WkX12_law f f := sgK.rf
  have loop_37 : ∀ (n_37 : Nat) (y2_37 : Int32) (y3_37 : Int32) (fp_37 : sg_F) (H : Heap) (locs : List Loc) (ls : Array Slot), sp = sX12_law_l37 n_37 y2_37 y3_37 fp_37 L → 120 - y3_37.toInt < (n_37 : Int) → (-1) ≤ (fp_37 0 15).toInt ∧ (fp_37 0 15).toInt ≤ (-1) → 0 ≤ (fp_37 0 9).toInt ∧ (fp_37 0 9).toInt ≤ 0 → 0 ≤ y2_37.toInt ∧ y2_37.toInt ≤ 120 → 0 ≤ y3_37.toInt ∧ y3_37.toInt ≤ 120 → sgI loM hiM fp_37 → sgK WkX12_law f fp_37 → va_P D vwCl (sgw 26 h (eM ca h) fp_37 L Q) H → va_S (sgA 26 h s.heap.size) s.heap H locs → lv_has ls 4 [(0, .ref (h 0)), (2, .int y2_37), (3, .int y3_37)] → W p l e ({ frames := 44, cells := 0, slots := 0, locals := 1006 }) s m ([.ref (h 0)] : List Value).toArray below meth cd H locs 0 0 Qz (F0 m 37 ls []) := by
    intro n_37
    induction n_37 with
    | zero => intro y2_37 y3_37 fp_37 H locs ls hs hm_37 hy0_37 hy1_37 hy2_37 hy3_37 hI hF hP hS hl; exact absurd hm_37 (by omega)
    | succ n_37 ih_37 =>
      intro y2_37 y3_37 fp_37 H locs ls hs hm_37 hy0_37 hy1_37 hy2_37 hy3_37 hI hF hP hS hl
      have hs : sp = sX12_law_h37 (sX12_law_l37 n_37) y2_37 y3_37 fp_37 L := hs
      obtain ⟨v_1, ev_1⟩ : ∃ z : Int32, z = fp_37 0 15 := ⟨_, rfl⟩
      have q_2 : (-1) ≤ v_1.toInt ∧ v_1.toInt ≤ 120 := by rw [ev_1]; exact hI 0 15
      have q_3 : (fp_37 0 15).toInt = v_1.toInt := by rw [ev_1]
      obtain ⟨v_4, ev_4⟩ : ∃ z : Int32, z = fp_37 0 9 := ⟨_, rfl⟩
      replace hs := hs.trans (spl_e ev_1 (spl_e ev_4 rfl))
      have q_5 : 0 ≤ v_4.toInt ∧ v_4.toInt ≤ 120 := by rw [ev_4]; exact hI 0 9
      have q_6 : (fp_37 0 9).toInt = v_4.toInt := by rw [ev_4]
      refine lv_iload_n hx hb dX12_law_37 rfl (lv_at hl 2 rfl) ?_
      refine lv_iload_n hx hb dX12_law_38 rfl (lv_at hl 1 rfl) ?_
      refine lv_icmp_ge (tgt := 60) hx hb dX12_law_39 (by decide) (fun c => ?_) (fun c => ?_)
      · skip
        have c_7 : y2_37.toInt ≤ y3_37.toInt := (by first | exact (bn_le c) | (have z := bn_le c; omega))
        refine lv_aload_n hx hb dX12_law_60 rfl (lv_at hl 0 rfl) ?_
        refine lv_iload_n hx hb dX12_law_61 rfl (lv_at hl 1 rfl) ?_
        refine sl_pM_0_11_12 (x := y2_37) hx hb hts hown hh hA hK hP hS dX12_law_62 (fun f_9 H locs ef_9 hP hS => ?_)
        have hI : sgI loM hiM f_9 := by rw [ef_9]; exact sgI.put hI 0 11 (show (-1) ≤ (y2_37 : Int32).toInt ∧ (y2_37 : Int32).toInt ≤ 120 from ⟨by omega, by omega⟩)
        have hF : sgK WkX12_law f f_9 := sgK.put hF ef_9 (by rfl)
        refine lv_iconst (v := 1) hx hb dX12_law_65 ic_1 ?_
        have k99 : (1 : Int32).toInt = 1 := ti_1
        exact hret _ _ _ _ (1) f_9 L Q dX12_law_66 hP hS ⟨⟨hI, hF, rfl, rfl⟩, (by decide), (Eq.trans (Eq.symm (hs.trans ((if_neg (Int.not_lt.mpr c_7)).trans (spl_e ef_9 rfl)))) hsp)⟩
      · skip
        have c_8 : y3_37.toInt < y2_37.toInt := (by first | exact (bn_nle c) | (have z := bn_nle c; omega))
        refine lv_aload_n hx hb dX12_law_42 rfl (lv_at hl 0 rfl) ?_
        refine sl_gM_0_10_12 hx hb hts hown hK hP dX12_law_43 ?_
        refine lv_iload_n hx hb dX12_law_46 rfl (lv_at hl 2 rfl) ?_
        refine lv_aload_n hx hb dX12_law_47 rfl (lv_at hl 0 rfl) ?_
        refine sl_gM_0_8_12 hx hb hts hown hK hP dX12_law_48 ?_
        refine lv_iload_n hx hb dX12_law_51 rfl (lv_at hl 2 rfl) ?_
        refine sg_iald hx hb hK hP 6 (by decide) 0 rfl rfl (i := y3_37) (vp_in_iff.mpr ⟨by omega, by omega⟩) dX12_law_52 ?_
        refine lv_topi (fun v_10 ev_10 => ?_)
        have q_11 : 0 ≤ v_10.toInt ∧ v_10.toInt ≤ 255 := by rw [ev_10]; exact hI 6 _
        refine sg_iast hx hb hh hA hK hP hS 7 (by decide) 0 (fun _ => rfl) rfl (i := y3_37) (x := v_10) (vp_in_iff.mpr ⟨by omega, by omega⟩) dX12_law_53 (fun f_12 H locs ef_12 hP hS => ?_)
        have hI : sgI loM hiM f_12 := by rw [ef_12]; exact sgI.put hI 7 y3_37.toNatClampNeg (show 0 ≤ (v_10 : Int32).toInt ∧ (v_10 : Int32).toInt ≤ 255 from q_11)
        have hF : sgK WkX12_law f f_12 := sgK.put hF ef_12 (by rfl)
        obtain ⟨v_13, ev_13⟩ : ∃ z : Int32, z = y3_37 + 1 := ⟨_, rfl⟩
        have q_14 : v_13.toInt = y3_37.toInt + 1 := by rw [ev_13]; exact (bn_addc y3_37 1 (by decide) (by omega) (by omega))
        refine lv_iinc (v := v_13) (lv' := [(3, .int v_13), (0, .ref (h 0)), (2, .int y2_37)]) hx hb dX12_law_54 hl (k := 2) rfl (by rw [ev_13]; rfl) (by decide) rfl (fun ls hl => ?_)
        refine lv_goto (tgt := 37) hx hb dX12_law_57 (by decide) ?_
        exact ih_37 y2_37 v_13 f_12 _ _ _ (hs.trans ((if_pos c_8).trans (spl_e ev_10 (spl_e ef_12 (spl_e ev_13 rfl))))) (by omega) (by have zz0_15 : (f_12 0 15).toInt = v_1.toInt := (congrArg Int32.toInt (show f_12 0 15 = v_1 from (by rw [ef_12, sg_up_n (by decide)]; exact ev_1.symm))); exact ⟨by omega, by omega⟩) (by have zz0_9 : (f_12 0 9).toInt = v_4.toInt := (congrArg Int32.toInt (show f_12 0 9 = v_4 from (by rw [ef_12, sg_up_n (by decide)]; exact ev_4.symm))); exact ⟨by omega, by omega⟩) hy2_37 ⟨by omega, by omega⟩ hI hF hP hS (lv_sub hl [1, 2, 0] rfl)
  refine lv_aload_n hx hb dX12_law_0 rfl (lv_at hl 0 rfl) ?_
  refine lv_iconst (v := (-1)) hx hb dX12_law_1 ic_m1 ?_
  refine lv_aload_n hx hb dX12_law_2 rfl (lv_at hl 0 rfl) ?_
  refine sl_gM_0_9_12 (v := (f 0 9)) hx hb hts hown hK hP rfl dX12_law_3 ?_
  refine lv_topi (fun v_15 ev_15 => ?_)
  have q_16 : 0 ≤ v_15.toInt ∧ v_15.toInt ≤ 120 := by rw [ev_15]; exact hI 0 9
  refine sg_calli (va_runV (As := [.int (-1), .int v_15]) (rest := []) ⟨hx, hb, hml, hown, hts⟩ (kX12_workOut l D ca za h hh f L Q hI (-1) v_15 (by decide) q_16 H.size) (sl_c12_workOut_43_0_0_979_12 hts ⟨Nat.le_of_ble_eq_true rfl, Nat.le_of_ble_eq_true rfl⟩) (sl_vM_0 hA hK hP hS hZ) rfl rfl hl.1 rfl (lv_room (Nat.le_of_ble_eq_true rfl)) dX12_law_6 ⟨Nat.le_refl _, Nat.le_refl _⟩) hA hS (fun r_20 f_17 L_18 Q_19 H locs hq hP hS => ?_)
  obtain ⟨⟨hI, hk_f_17, eL9, eQ9⟩, hq, u_21⟩ := hq
  rw [eL9, eQ9] at hP; clear eL9 eQ9
  have hF : sgK WkX12_law f f_17 := sgK.tr hF hk_f_17 (by decide +kernel)
  refine lv_istore_n (lv' := [(1, .int r_20), (0, .ref (h 0))]) hx hb dX12_law_9 rfl hl (by decide) rfl (fun ls hl => ?_)
  refine lv_aload_n hx hb dX12_law_10 rfl (lv_at hl 1 rfl) ?_
  refine sl_gM_0_9_12 (v := v_15) hx hb hts hown hK hP (show f_17 0 9 = v_15 from ((hk_f_17 0 9 (by decide)).trans ev_15.symm)) dX12_law_11 ?_
  refine lv_istore_n (lv' := [(2, .int v_15), (1, .int r_20), (0, .ref (h 0))]) hx hb dX12_law_14 rfl hl (by decide) rfl (fun ls hl => ?_)
  refine lv_aload_n hx hb dX12_law_15 rfl (lv_at hl 2 rfl) ?_
  refine lv_iconst (v := 0) hx hb dX12_law_16 ic_0 ?_
  refine sl_pM_0_9_12 (x := 0) hx hb hts hown hh hA hK hP hS dX12_law_17 (fun f_22 H locs ef_22 hP hS => ?_)
  have hI : sgI loM hiM f_22 := by rw [ef_22]; exact sgI.put hI 0 9 (show 0 ≤ (0 : Int32).toInt ∧ (0 : Int32).toInt ≤ 120 from by decide)
  have hF : sgK WkX12_law f f_22 := sgK.put hF ef_22 (by rfl)
  refine lv_aload_n hx hb dX12_law_20 rfl (lv_at hl 2 rfl) ?_
  refine sl_gM_0_15_12 (v := (f_22 0 15)) hx hb hts hown hK hP rfl dX12_law_21 ?_
  refine lv_topi (fun v_23 ev_23 => ?_)
  replace hs := hs.trans (spl_e ev_15 (spl2_e u_21 (spl_e ef_22 (spl_e ev_23 rfl))))
  have q_24 : (-1) ≤ v_23.toInt ∧ v_23.toInt ≤ 120 := by rw [ev_23]; exact hI 0 15
  refine lv_if_lt (tgt := 35) hx hb dX12_law_24 (by decide) (fun c => ?_) (fun c => ?_)
  · skip
    have c_25 : v_23.toInt < 0 := (by first | exact (cm_lt1 ti_0 c) | (have z := bn_lt c; have k1 : (0 : Int32).toInt = 0 := ti_0; omega))
    refine lv_iconst (v := 0) hx hb dX12_law_35 ic_0 ?_
    refine lv_istore_n (lv' := [(3, .int 0), (2, .int v_15), (1, .int r_20), (0, .ref (h 0))]) hx hb dX12_law_36 rfl hl (by decide) rfl (fun ls hl => ?_)
    exact loop_37 121 v_15 0 f_22 _ _ _ (hs.trans ((if_pos c_25).trans rfl)) (by have kc1 : (0 : Int32).toInt = 0 := ti_0; omega) (by have zz0_15 : (f_22 0 15).toInt = v_23.toInt := (congrArg Int32.toInt (show f_22 0 15 = v_23 from ev_23.symm)); exact ⟨by omega, by omega⟩) (by have zz0_9 : (f_22 0 9).toInt = 0 := (congrArg Int32.toInt (show f_22 0 9 = 0 from (by rw [ef_22, sg_up_s, sgu_s]))).trans (by decide); exact ⟨by omega, by omega⟩) q_16 (by decide) hI hF hP hS (lv_sub hl [3, 1, 0] rfl)
  · skip
    have c_26 : 0 ≤ v_23.toInt := (by first | exact (cm_nlt1 ti_0 c) | (have z := bn_nlt c; have k1 : (0 : Int32).toInt = 0 := ti_0; omega))
    refine lv_bipush (v := (-100)) hx hb dX12_law_27 bp_m100 ?_
    refine lv_aload_n hx hb dX12_law_29 rfl (lv_at hl 2 rfl) ?_
    refine sl_gM_0_15_12 (v := v_23) hx hb hts hown hK hP (show f_22 0 15 = v_23 from ev_23.symm) dX12_law_30 ?_
    refine lv_isub hx hb dX12_law_33 ?_
    refine lv_topi (fun v_27 ev_27 => ?_)
    have q_28 : v_27.toInt = (-100) - v_23.toInt := by rw [ev_27]; have k0 : ((-100) : Int32).toInt = (-100) := ti_m100; exact (bn_subI (by omega) (by omega)).trans (by omega)
    exact hret _ _ _ _ (v_27) f_22 L Q dX12_law_34 hP hS ⟨⟨hI, hF, rfl, rfl⟩, ⟨by omega, by omega⟩, (Eq.trans (Eq.symm (hs.trans ((if_neg (Int.not_lt.mpr c_26)).trans (spl_e ev_27 rfl)))) hsp)⟩

set_option maxHeartbeats 4000000 in
set_option maxRecDepth 100000 in
theorem kX12_numberOf (l : Launch) (D : va_G) (ca : Nat → ClassId) (za h : Nat → Nat) (hh : sgH 26 h) (f : sg_F) (L : sg_L) (Q : sg_Q) (hI : sgI loM hiM f) (x0 : Int32) (x1 : Int32) (b0 : 0 ≤ x0.toInt ∧ x0.toInt ≤ 7) (b1 : 0 ≤ x1.toInt ∧ x1.toInt ≤ 7) (sz : Nat) : Met l yX12_numberOf gwX12_numberOf { frames := 0, cells := 0, slots := 0, locals := 0 } (sgP D vwCl (tyX ca) 26 h (eM ca h) zcM za f L Q sz [.ref (h 0), .int x0, .int x1]) (sgQi D vwCl 26 h (eM ca h) sz (fun r f1 L1 Q1 => ((f1 = f ∧ L1 = L ∧ Q1 = Q) ∧ (0 ≤ r.toInt ∧ r.toInt ≤ 60) ∧ (r) = sX12_numberOf x0 x1 f L))) 0 0 (sgA 26 h sz) := by
  refine sg_ofWi (cc := cX12_numberOf) (maxL := 3) RX12 (by decide) rfl rfl (Nat.le_of_ble_eq_true rfl) ?_
  intro p e s m below meth cd Qz ls hx hb hml hown hts hK hZ hP hS hl hret
  have hA := sgY.self (n := 26) (h := h) (sz := s.heap.size)
  have hl : lv_has ls 3 [(0, .ref (h 0)), (1, .int x0), (2, .int x1)] := hl
  obtain ⟨H, hH⟩ : ∃ z : Heap, z = s.heap := ⟨_, rfl⟩
  obtain ⟨locs, hlo⟩ : ∃ z : List Loc, z = [] := ⟨_, rfl⟩
  have hP : va_P D vwCl (sgw 26 h (eM ca h) f L Q) H := by rw [hH]; exact hP
  have hS : va_S (sgA 26 h s.heap.size) s.heap H locs := by rw [hH, hlo]; exact hS
  suffices hgo : W p l e ({ frames := 0, cells := 0, slots := 0, locals := 0 }) s m ([.ref (h 0), .int x0, .int x1] : List Value).toArray below meth cd H locs 0 0 Qz (F0 m 0 ls []) by rw [hH, hlo] at hgo; exact hgo
  clear hH hlo
  obtain ⟨sp, hsp⟩ : ∃ z : Int32, z = sX12_numberOf x0 x1 f L := ⟨_, rfl⟩
  have hs : sp = sX12_numberOf x0 x1 f L := hsp
  refine lv_aload_n hx hb dX12_numberOf_0 rfl (lv_at hl 0 rfl) ?_
  refine sl_gM_0_0_12 hx hb hts hown hK hP dX12_numberOf_1 ?_
  refine lv_bipush (v := 8) hx hb dX12_numberOf_4 bp_8 ?_
  refine lv_iload_n hx hb dX12_numberOf_6 rfl (lv_at hl 2 rfl) ?_
  refine lv_imul hx hb dX12_numberOf_7 ?_
  refine lv_topi (fun v_1 ev_1 => ?_)
  have q_2 : v_1.toInt = 8 * x1.toInt := by rw [ev_1]; exact bn_mulJ (by decide) (by omega) (by omega)
  refine lv_iload_n hx hb dX12_numberOf_8 rfl (lv_at hl 1 rfl) ?_
  refine lv_iadd hx hb dX12_numberOf_9 ?_
  refine lv_topi (fun v_3 ev_3 => ?_)
  have q_4 : v_3.toInt = v_1.toInt + x0.toInt := by rw [ev_3]; first | exact bn_addI (by omega) (by omega) | exact (bn_addI (by omega) (by omega)).trans (by omega)
  refine sg_iald hx hb hK hP 1 (by decide) 0 rfl rfl (i := v_3) (vp_in_iff.mpr ⟨by omega, by omega⟩) dX12_numberOf_10 ?_
  refine lv_topi (fun v_5 ev_5 => ?_)
  have q_6 : v_3.toInt < 64 → v_5.toInt ≤ 60 := by rw [ev_5]; have z1 := segM1_r hI (j := Int32.toNatClampNeg v_3); have z2 := bn_clI (x := v_3) (by omega); intro z3; exact (z1.2.2 (by omega)).2
  have q_7 : 0 ≤ v_5.toInt ∧ v_5.toInt ≤ 60 := by rw [ev_5]; have z1 := segM1_r hI (j := Int32.toNatClampNeg v_3); have z2 := bn_clI (x := v_3) (by omega); omega
  exact hret _ _ _ _ (v_5) f L Q dX12_numberOf_11 hP hS ⟨⟨rfl, rfl, rfl⟩, ⟨by omega, by omega⟩, (Eq.trans (Eq.symm (hs.trans ((spl_e ev_1 (spl_e ev_3 (spl_e ev_5 rfl)))))) hsp)⟩

set_option maxHeartbeats 4000000 in
set_option maxRecDepth 100000 in
theorem kX12_sizeOf (l : Launch) (D : va_G) (ca : Nat → ClassId) (za h : Nat → Nat) (hh : sgH 26 h) (f : sg_F) (L : sg_L) (Q : sg_Q) (hI : sgI loM hiM f) (x0 : Int32) (b0 : (-60) ≤ x0.toInt ∧ x0.toInt ≤ 60) (sz : Nat) : Met l yX12_sizeOf gwX12_sizeOf { frames := 0, cells := 0, slots := 0, locals := 0 } (sgP D vwCl (tyX ca) 26 h (eM ca h) zcM za f L Q sz [.int x0]) (sgQi D vwCl 26 h (eM ca h) sz (fun r f1 L1 Q1 => ((f1 = f ∧ L1 = L ∧ Q1 = Q) ∧ (0 ≤ r.toInt ∧ r.toInt ≤ 60) ∧ (r) = sX12_sizeOf x0 f L))) 0 0 (sgA 26 h sz) := by
  refine sg_ofWi (cc := cX12_sizeOf) (maxL := 1) RX12 (by decide) rfl rfl (Nat.le_of_ble_eq_true rfl) ?_
  intro p e s m below meth cd Qz ls hx hb hml hown hts hK hZ hP hS hl hret
  have hA := sgY.self (n := 26) (h := h) (sz := s.heap.size)
  have hl : lv_has ls 1 [(0, .int x0)] := hl
  obtain ⟨H, hH⟩ : ∃ z : Heap, z = s.heap := ⟨_, rfl⟩
  obtain ⟨locs, hlo⟩ : ∃ z : List Loc, z = [] := ⟨_, rfl⟩
  have hP : va_P D vwCl (sgw 26 h (eM ca h) f L Q) H := by rw [hH]; exact hP
  have hS : va_S (sgA 26 h s.heap.size) s.heap H locs := by rw [hH, hlo]; exact hS
  suffices hgo : W p l e ({ frames := 0, cells := 0, slots := 0, locals := 0 }) s m ([.int x0] : List Value).toArray below meth cd H locs 0 0 Qz (F0 m 0 ls []) by rw [hH, hlo] at hgo; exact hgo
  clear hH hlo
  obtain ⟨sp, hsp⟩ : ∃ z : Int32, z = sX12_sizeOf x0 f L := ⟨_, rfl⟩
  have hs : sp = sX12_sizeOf x0 f L := hsp
  refine lv_iload_n hx hb dX12_sizeOf_0 rfl (lv_at hl 0 rfl) ?_
  refine lv_if_ge (tgt := 9) hx hb dX12_sizeOf_1 (by decide) (fun c => ?_) (fun c => ?_)
  · skip
    have c_1 : 0 ≤ x0.toInt := (by first | exact (cm_le0 ti_0 c) | (have z := bn_le c; have k1 : (0 : Int32).toInt = 0 := ti_0; omega))
    refine lv_iload_n hx hb dX12_sizeOf_9 rfl (lv_at hl 0 rfl) ?_
    exact hret _ _ _ _ (x0) f L Q dX12_sizeOf_10 hP hS ⟨⟨rfl, rfl, rfl⟩, ⟨by omega, by omega⟩, (Eq.trans (Eq.symm (hs.trans (((if_neg (Int.not_lt.mpr c_1)).trans rfl)))) hsp)⟩
  · skip
    have c_2 : x0.toInt < 0 := (by first | exact (cm_nle0 ti_0 c) | (have z := bn_nle c; have k1 : (0 : Int32).toInt = 0 := ti_0; omega))
    refine lv_iload_n hx hb dX12_sizeOf_4 rfl (lv_at hl 0 rfl) ?_
    refine lv_ineg hx hb dX12_sizeOf_5 ?_
    refine lv_topi (fun v_3 ev_3 => ?_)
    have q_4 : v_3.toInt = -x0.toInt := by rw [ev_3]; exact bn_negI (by omega)
    refine lv_goto (tgt := 10) hx hb dX12_sizeOf_6 (by decide) ?_
    exact hret _ _ _ _ (v_3) f L Q dX12_sizeOf_10 hP hS ⟨⟨rfl, rfl, rfl⟩, ⟨by omega, by omega⟩, (Eq.trans (Eq.symm (hs.trans (((if_pos c_2).trans (spl_e ev_3 rfl))))) hsp)⟩

abbrev WkX12_lossOf : List (Nat × Nat × Option Nat) := [(0, 0, some 12), (0, 0, some 13), (0, 0, some 14), (0, 0, some 15), (0, 0, some 16), (8, 8, none)]
set_option maxHeartbeats 4000000 in
set_option maxRecDepth 100000 in
theorem kX12_lossOf (l : Launch) (D : va_G) (ca : Nat → ClassId) (za h : Nat → Nat) (hh : sgH 26 h) (f : sg_F) (L : sg_L) (Q : sg_Q) (hI : sgI loM hiM f) (x0 : Int32) (x1 : Int32) (x2 : Int32) (b0 : 0 ≤ x0.toInt ∧ x0.toInt ≤ 7) (b1 : 0 ≤ x1.toInt ∧ x1.toInt ≤ 2) (b2 : 0 ≤ x2.toInt ∧ x2.toInt ≤ 60) (sz : Nat) : Met l yX12_lossOf gwX12_lossOf { frames := 44, cells := 0, slots := 0, locals := 1006 } (sgP D vwCl (tyX ca) 26 h (eM ca h) zcM za f L Q sz [.ref (h 0), .int x0, .int x1, .int x2]) (sgQi D vwCl 26 h (eM ca h) sz (fun r f1 L1 Q1 => ((sgI loM hiM f1 ∧ sgK WkX12_lossOf f f1 ∧ L1 = L ∧ Q1 = Q) ∧ True ∧ (r, f1) = sX12_lossOf x0 x1 x2 f L))) 0 0 (sgA 26 h sz) := by
  refine sg_ofWi (cc := cX12_lossOf) (maxL := 7) RX12 (by decide) rfl rfl (Nat.le_of_ble_eq_true rfl) ?_
  intro p e s m below meth cd Qz ls hx hb hml hown hts hK hZ hP hS hl hret
  have hA := sgY.self (n := 26) (h := h) (sz := s.heap.size)
  have hl : lv_has ls 7 [(0, .ref (h 0)), (1, .int x0), (2, .int x1), (3, .int x2)] := hl
  obtain ⟨H, hH⟩ : ∃ z : Heap, z = s.heap := ⟨_, rfl⟩
  obtain ⟨locs, hlo⟩ : ∃ z : List Loc, z = [] := ⟨_, rfl⟩
  have hP : va_P D vwCl (sgw 26 h (eM ca h) f L Q) H := by rw [hH]; exact hP
  have hS : va_S (sgA 26 h s.heap.size) s.heap H locs := by rw [hH, hlo]; exact hS
  suffices hgo : W p l e ({ frames := 44, cells := 0, slots := 0, locals := 1006 }) s m ([.ref (h 0), .int x0, .int x1, .int x2] : List Value).toArray below meth cd H locs 0 0 Qz (F0 m 0 ls []) by rw [hH, hlo] at hgo; exact hgo
  clear hH hlo
  obtain ⟨sp, hsp⟩ : ∃ z : Int32 × sg_F, z = sX12_lossOf x0 x1 x2 f L := ⟨_, rfl⟩
  have hs : sp = sX12_lossOf x0 x1 x2 f L := hsp
  have hF : sgK WkX12_lossOf f f := sgK.rf
  refine lv_aload_n hx hb dX12_lossOf_0 rfl (lv_at hl 0 rfl) ?_
  refine lv_iload_n hx hb dX12_lossOf_1 rfl (lv_at hl 1 rfl) ?_
  refine lv_iload_n hx hb dX12_lossOf_2 rfl (lv_at hl 2 rfl) ?_
  refine sg_calli (va_runV (As := [.int x0, .int x1]) (rest := []) ⟨hx, hb, hml, hown, hts⟩ (kX12_numberOf l D ca za h hh f L Q hI x0 x1 b0 ⟨by omega, by omega⟩ H.size) (sl_c12_numberOf_0_0_0_0_12 hts ⟨Nat.le_of_ble_eq_true rfl, Nat.le_of_ble_eq_true rfl⟩) (sl_vM_0 hA hK hP hS hZ) rfl rfl hl.1 rfl (lv_room (Nat.le_of_ble_eq_true rfl)) dX12_lossOf_3 ⟨Nat.le_refl _, Nat.le_refl _⟩) hA hS (fun r_4 f_1 L_2 Q_3 H locs hq hP hS => ?_)
  obtain ⟨⟨ef9, eL9, eQ9⟩, hq, u_5⟩ := hq
  rw [ef9, eL9, eQ9] at hP; clear ef9 eL9 eQ9
  refine lv_istore (lv' := [(4, .int r_4), (0, .ref (h 0)), (1, .int x0), (2, .int x1), (3, .int x2)]) hx hb dX12_lossOf_6 hl (by decide) rfl (fun ls hl => ?_)
  refine lv_iload_n hx hb dX12_lossOf_8 rfl (lv_at hl 4 rfl) ?_
  refine lv_iload hx hb dX12_lossOf_9 (lv_at hl 0 rfl) ?_
  refine lv_isub hx hb dX12_lossOf_11 ?_
  refine lv_topi (fun v_6 ev_6 => ?_)
  have q_7 : v_6.toInt = x2.toInt - r_4.toInt := by rw [ev_6]; first | exact bn_subI (by omega) (by omega) | exact (bn_subI (by omega) (by omega)).trans (by omega)
  refine sg_calli (va_runS (As := [.int v_6]) (rest := []) ⟨hx, hb, hml, hown, hts⟩ (kX12_sizeOf l D ca za h hh f L Q hI v_6 ⟨by omega, by omega⟩ H.size) (va_cwS 1 hts (gw_S (fun _ h => List.mem_cons_of_mem _ h) mw_682 mw_683 mw_619 mw_681) rfl rfl rfl hd_yX12_sizeOf.2 ⟨Nat.le_of_ble_eq_true rfl, Nat.le_of_ble_eq_true rfl⟩) (sg_preS hA hK hP hS hZ) rfl rfl hl.1 rfl (lv_room (Nat.le_of_ble_eq_true rfl)) dX12_lossOf_12 ⟨Nat.le_refl _, Nat.le_refl _⟩) hA hS (fun r_11 f_8 L_9 Q_10 H locs hq hP hS => ?_)
  obtain ⟨⟨ef9, eL9, eQ9⟩, hq, u_12⟩ := hq
  rw [ef9, eL9, eQ9] at hP; clear ef9 eL9 eQ9
  refine lv_istore (lv' := [(5, .int r_11), (4, .int r_4), (0, .ref (h 0)), (1, .int x0), (2, .int x1), (3, .int x2)]) hx hb dX12_lossOf_15 hl (by decide) rfl (fun ls hl => ?_)
  refine lv_aload_n hx hb dX12_lossOf_17 rfl (lv_at hl 2 rfl) ?_
  refine sl_gM_0_11_12 (v := (f 0 11)) hx hb hts hown hK hP rfl dX12_lossOf_18 ?_
  refine lv_topi (fun v_13 ev_13 => ?_)
  replace hs := hs.trans (spl_e u_5 (spl_e ev_6 (spl_e u_12 (spl_e ev_13 rfl))))
  have q_14 : (-1) ≤ v_13.toInt ∧ v_13.toInt ≤ 120 := by rw [ev_13]; exact hI 0 11
  refine lv_if_ge (tgt := 51) hx hb dX12_lossOf_21 (by decide) (fun c => ?_) (fun c => ?_)
  · skip
    have c_15 : 0 ≤ v_13.toInt := (by first | exact (cm_le0 ti_0 c) | (have z := bn_le c; have k1 : (0 : Int32).toInt = 0 := ti_0; omega))
    refine lv_aload_n hx hb dX12_lossOf_51 rfl (lv_at hl 2 rfl) ?_
    refine sl_gM_0_17_12 hx hb hts hown hK hP dX12_lossOf_52 ?_
    refine lv_iconst (v := 0) hx hb dX12_lossOf_55 ic_0 ?_
    refine lv_iload hx hb dX12_lossOf_56 (lv_at hl 0 rfl) ?_
    refine sg_iast hx hb hh hA hK hP hS 8 (by decide) 0 (fun _ => rfl) rfl (i := 0) (x := r_11) (vp_in_iff.mpr (by decide)) dX12_lossOf_58 (fun f_17 H locs ef_17 hP hS => ?_)
    replace hs := hs.trans ((if_neg (Int.not_lt.mpr c_15)).trans (spl_e ef_17 rfl))
    have hI : sgI loM hiM f_17 := by rw [ef_17]; exact sgI.put hI 8 (Int32.toNatClampNeg 0) (show 0 ≤ (r_11 : Int32).toInt ∧ (r_11 : Int32).toInt ≤ 60 from ⟨by omega, by omega⟩)
    have hF : sgK WkX12_lossOf f f_17 := sgK.put hF ef_17 (by rfl)
    refine lv_aload_n hx hb dX12_lossOf_59 rfl (lv_at hl 2 rfl) ?_
    refine sl_gM_0_17_12 hx hb hts hown hK hP dX12_lossOf_60 ?_
    refine lv_iconst (v := 1) hx hb dX12_lossOf_63 ic_1 ?_
    refine lv_iload_n hx hb dX12_lossOf_64 rfl (lv_at hl 5 rfl) ?_
    refine lv_iload hx hb dX12_lossOf_65 (lv_at hl 1 rfl) ?_
    refine lv_icmp_le (tgt := 74) hx hb dX12_lossOf_67 (by decide) (fun c => ?_) (fun c => ?_)
    · skip
      have c_18 : x2.toInt ≤ r_4.toInt := (by first | exact (bn_le c) | (have z := bn_le c; omega))
      refine lv_iconst (v := 0) hx hb dX12_lossOf_74 ic_0 ?_
      refine sg_iast hx hb hh hA hK hP hS 8 (by decide) 0 (fun _ => rfl) rfl (i := 1) (x := 0) (vp_in_iff.mpr (by decide)) dX12_lossOf_75 (fun f_20 H locs ef_20 hP hS => ?_)
      have hI : sgI loM hiM f_20 := by rw [ef_20]; exact sgI.put hI 8 (Int32.toNatClampNeg 1) (show 0 ≤ (0 : Int32).toInt ∧ (0 : Int32).toInt ≤ 60 from by decide)
      have hF : sgK WkX12_lossOf f f_20 := sgK.put hF ef_20 (by rfl)
      refine lv_aload_n hx hb dX12_lossOf_76 rfl (lv_at hl 2 rfl) ?_
      refine sl_gM_0_17_12 hx hb hts hown hK hP dX12_lossOf_77 ?_
      refine lv_iconst (v := 2) hx hb dX12_lossOf_80 ic_2 ?_
      refine lv_iload_n hx hb dX12_lossOf_81 rfl (lv_at hl 5 rfl) ?_
      refine sg_iast hx hb hh hA hK hP hS 8 (by decide) 0 (fun _ => rfl) rfl (i := 2) (x := x2) (vp_in_iff.mpr (by decide)) dX12_lossOf_82 (fun f_21 H locs ef_21 hP hS => ?_)
      have hI : sgI loM hiM f_21 := by rw [ef_21]; exact sgI.put hI 8 (Int32.toNatClampNeg 2) (show 0 ≤ (x2 : Int32).toInt ∧ (x2 : Int32).toInt ≤ 60 from b2)
      have hF : sgK WkX12_lossOf f f_21 := sgK.put hF ef_21 (by rfl)
      refine lv_aload_n hx hb dX12_lossOf_83 rfl (lv_at hl 2 rfl) ?_
      refine sl_gM_0_17_12 hx hb hts hown hK hP dX12_lossOf_84 ?_
      refine lv_iconst (v := 3) hx hb dX12_lossOf_87 ic_3 ?_
      refine lv_iload hx hb dX12_lossOf_88 (lv_at hl 1 rfl) ?_
      refine sg_iast hx hb hh hA hK hP hS 8 (by decide) 0 (fun _ => rfl) rfl (i := 3) (x := r_4) (vp_in_iff.mpr (by decide)) dX12_lossOf_90 (fun f_22 H locs ef_22 hP hS => ?_)
      have hI : sgI loM hiM f_22 := by rw [ef_22]; exact sgI.put hI 8 (Int32.toNatClampNeg 3) (show 0 ≤ (r_4 : Int32).toInt ∧ (r_4 : Int32).toInt ≤ 60 from ⟨by omega, by omega⟩)
      have hF : sgK WkX12_lossOf f f_22 := sgK.put hF ef_22 (by rfl)
      refine lv_aload_n hx hb dX12_lossOf_91 rfl (lv_at hl 2 rfl) ?_
      refine sl_gM_0_17_12 hx hb hts hown hK hP dX12_lossOf_92 ?_
      refine lv_iconst (v := 4) hx hb dX12_lossOf_95 ic_4 ?_
      refine lv_aload_n hx hb dX12_lossOf_96 rfl (lv_at hl 2 rfl) ?_
      refine lv_iload_n hx hb dX12_lossOf_97 rfl (lv_at hl 3 rfl) ?_
      refine lv_iconst (v := 5) hx hb dX12_lossOf_98 ic_5 ?_
      refine sg_calli (va_runV (As := [.int x0, .int 5]) (rest := [.int 4, .ref (h 8)]) ⟨hx, hb, hml, hown, hts⟩ (kX12_numberOf l D ca za h hh f_22 L Q hI x0 5 b0 (by decide) H.size) (sl_c12_numberOf_0_0_0_0_12 hts ⟨Nat.le_of_ble_eq_true rfl, Nat.le_of_ble_eq_true rfl⟩) (sl_vM_0 hA hK hP hS hZ) rfl rfl hl.1 rfl (lv_room (Nat.le_of_ble_eq_true rfl)) dX12_lossOf_99 ⟨Nat.le_refl _, Nat.le_refl _⟩) hA hS (fun r_26 f_23 L_24 Q_25 H locs hq hP hS => ?_)
      obtain ⟨⟨ef9, eL9, eQ9⟩, hq, u_27⟩ := hq
      rw [ef9, eL9, eQ9] at hP; clear ef9 eL9 eQ9
      refine sg_iast hx hb hh hA hK hP hS 8 (by decide) 0 (fun _ => rfl) rfl (i := 4) (x := r_26) (vp_in_iff.mpr (by decide)) dX12_lossOf_102 (fun f_28 H locs ef_28 hP hS => ?_)
      have hI : sgI loM hiM f_28 := by rw [ef_28]; exact sgI.put hI 8 (Int32.toNatClampNeg 4) (show 0 ≤ (r_26 : Int32).toInt ∧ (r_26 : Int32).toInt ≤ 60 from ⟨by omega, by omega⟩)
      have hF : sgK WkX12_lossOf f f_28 := sgK.put hF ef_28 (by rfl)
      refine lv_aload_n hx hb dX12_lossOf_103 rfl (lv_at hl 2 rfl) ?_
      refine sl_gM_0_17_12 hx hb hts hown hK hP dX12_lossOf_104 ?_
      refine lv_iconst (v := 5) hx hb dX12_lossOf_107 ic_5 ?_
      refine lv_iload_n hx hb dX12_lossOf_108 rfl (lv_at hl 4 rfl) ?_
      refine sg_iast hx hb hh hA hK hP hS 8 (by decide) 0 (fun _ => rfl) rfl (i := 5) (x := x1) (vp_in_iff.mpr (by decide)) dX12_lossOf_109 (fun f_29 H locs ef_29 hP hS => ?_)
      have hI : sgI loM hiM f_29 := by rw [ef_29]; exact sgI.put hI 8 (Int32.toNatClampNeg 5) (show 0 ≤ (x1 : Int32).toInt ∧ (x1 : Int32).toInt ≤ 60 from ⟨by omega, by omega⟩)
      have hF : sgK WkX12_lossOf f f_29 := sgK.put hF ef_29 (by rfl)
      refine lv_aload_n hx hb dX12_lossOf_110 rfl (lv_at hl 2 rfl) ?_
      refine lv_iconst (v := 0) hx hb dX12_lossOf_111 ic_0 ?_
      refine lv_aload_n hx hb dX12_lossOf_112 rfl (lv_at hl 2 rfl) ?_
      refine sl_gM_0_11_12 (v := v_13) hx hb hts hown hK hP (show f_29 0 11 = v_13 from (by rw [ef_29, sg_up_n (by decide)]; exact (by rw [ef_28, sg_up_n (by decide)]; exact (by rw [ef_22, sg_up_n (by decide)]; exact (by rw [ef_21, sg_up_n (by decide)]; exact (by rw [ef_20, sg_up_n (by decide)]; exact (by rw [ef_17, sg_up_n (by decide)]; exact ev_13.symm))))))) dX12_lossOf_113 ?_
      refine sg_calli (va_runV (As := [.int 0, .int v_13]) (rest := []) ⟨hx, hb, hml, hown, hts⟩ (kX12_workOut l D ca za h hh f_29 L Q hI 0 v_13 (by decide) ⟨by omega, by omega⟩ H.size) (sl_c12_workOut_43_0_0_979_12 hts ⟨Nat.le_of_ble_eq_true rfl, Nat.le_of_ble_eq_true rfl⟩) (sl_vM_0 hA hK hP hS hZ) rfl rfl hl.1 rfl (lv_room (Nat.le_of_ble_eq_true rfl)) dX12_lossOf_116 ⟨Nat.le_refl _, Nat.le_refl _⟩) hA hS (fun r_33 f_30 L_31 Q_32 H locs hq hP hS => ?_)
      obtain ⟨⟨hI, hk_f_30, eL9, eQ9⟩, hq, u_34⟩ := hq
      replace hs := hs.trans ((if_neg (Int.not_lt.mpr c_18)).trans (spl_e ef_20 (spl_e ef_21 (spl_e ef_22 (spl_e u_27 (spl_e ef_28 (spl_e ef_29 (spl2_e u_34 rfl))))))))
      rw [eL9, eQ9] at hP; clear eL9 eQ9
      have hF : sgK WkX12_lossOf f f_30 := sgK.tr hF hk_f_30 (by decide +kernel)
      refine lv_istore (lv' := [(6, .int r_33), (5, .int r_11), (4, .int r_4), (0, .ref (h 0)), (1, .int x0), (2, .int x1), (3, .int x2)]) hx hb dX12_lossOf_119 hl (by decide) rfl (fun ls hl => ?_)
      refine lv_iload hx hb dX12_lossOf_121 (lv_at hl 0 rfl) ?_
      refine lv_if_ge (tgt := 130) hx hb dX12_lossOf_123 (by decide) (fun c => ?_) (fun c => ?_)
      · skip
        have c_35 : 0 ≤ r_33.toInt := (by first | exact (cm_le0 ti_0 c) | (have z := bn_le c; have k1 : (0 : Int32).toInt = 0 := ti_0; omega))
        replace hs := hs.trans ((if_neg (Int.not_lt.mpr c_35)).trans rfl)
        refine lv_iload hx hb dX12_lossOf_130 (lv_at hl 0 rfl) ?_
        refine lv_sipush (v := 9999) hx hb dX12_lossOf_132 (by decide) ?_
        refine lv_icmp_le (tgt := 144) hx hb dX12_lossOf_135 (by decide) (fun c => ?_) (fun c => ?_)
        · skip
          have c_37 : r_33.toInt ≤ 9999 := (by first | exact (cm_le1 ti_9999 c) | (have z := bn_le c; have k1 : (9999 : Int32).toInt = 9999 := ti_9999; omega))
          refine lv_iload hx hb dX12_lossOf_144 (lv_at hl 0 rfl) ?_
          exact hret _ _ _ _ (r_33) f_30 L Q dX12_lossOf_146 hP hS ⟨⟨hI, hF, rfl, rfl⟩, trivial, (Eq.trans (Eq.symm (hs.trans ((if_neg (Int.not_lt.mpr c_37)).trans rfl))) hsp)⟩
        · skip
          have c_38 : 9999 < r_33.toInt := (by first | exact (cm_nle1 ti_9999 c) | (have z := bn_nle c; have k1 : (9999 : Int32).toInt = 9999 := ti_9999; omega))
          refine lv_sipush (v := 9999) hx hb dX12_lossOf_138 (by decide) ?_
          refine lv_goto (tgt := 146) hx hb dX12_lossOf_141 (by decide) ?_
          have k99 : (9999 : Int32).toInt = 9999 := ti_9999
          exact hret _ _ _ _ (9999) f_30 L Q dX12_lossOf_146 hP hS ⟨⟨hI, hF, rfl, rfl⟩, trivial, (Eq.trans (Eq.symm (hs.trans ((if_pos c_38).trans rfl))) hsp)⟩
      · skip
        have c_36 : r_33.toInt < 0 := (by first | exact (cm_nle0 ti_0 c) | (have z := bn_nle c; have k1 : (0 : Int32).toInt = 0 := ti_0; omega))
        refine lv_iconst (v := 0) hx hb dX12_lossOf_126 ic_0 ?_
        refine lv_goto (tgt := 146) hx hb dX12_lossOf_127 (by decide) ?_
        have k99 : (0 : Int32).toInt = 0 := ti_0
        exact hret _ _ _ _ (0) f_30 L Q dX12_lossOf_146 hP hS ⟨⟨hI, hF, rfl, rfl⟩, trivial, (Eq.trans (Eq.symm (hs.trans ((if_pos c_36).trans rfl))) hsp)⟩
    · skip
      have c_19 : r_4.toInt < x2.toInt := (by first | exact (bn_nle c) | (have z := bn_nle c; omega))
      refine lv_iconst (v := 1) hx hb dX12_lossOf_70 ic_1 ?_
      refine lv_goto (tgt := 75) hx hb dX12_lossOf_71 (by decide) ?_
      refine sg_iast hx hb hh hA hK hP hS 8 (by decide) 0 (fun _ => rfl) rfl (i := 1) (x := 1) (vp_in_iff.mpr (by decide)) dX12_lossOf_75 (fun f_39 H locs ef_39 hP hS => ?_)
      have hI : sgI loM hiM f_39 := by rw [ef_39]; exact sgI.put hI 8 (Int32.toNatClampNeg 1) (show 0 ≤ (1 : Int32).toInt ∧ (1 : Int32).toInt ≤ 60 from by decide)
      have hF : sgK WkX12_lossOf f f_39 := sgK.put hF ef_39 (by rfl)
      refine lv_aload_n hx hb dX12_lossOf_76 rfl (lv_at hl 2 rfl) ?_
      refine sl_gM_0_17_12 hx hb hts hown hK hP dX12_lossOf_77 ?_
      refine lv_iconst (v := 2) hx hb dX12_lossOf_80 ic_2 ?_
      refine lv_iload_n hx hb dX12_lossOf_81 rfl (lv_at hl 5 rfl) ?_
      refine sg_iast hx hb hh hA hK hP hS 8 (by decide) 0 (fun _ => rfl) rfl (i := 2) (x := x2) (vp_in_iff.mpr (by decide)) dX12_lossOf_82 (fun f_40 H locs ef_40 hP hS => ?_)
      have hI : sgI loM hiM f_40 := by rw [ef_40]; exact sgI.put hI 8 (Int32.toNatClampNeg 2) (show 0 ≤ (x2 : Int32).toInt ∧ (x2 : Int32).toInt ≤ 60 from b2)
      have hF : sgK WkX12_lossOf f f_40 := sgK.put hF ef_40 (by rfl)
      refine lv_aload_n hx hb dX12_lossOf_83 rfl (lv_at hl 2 rfl) ?_
      refine sl_gM_0_17_12 hx hb hts hown hK hP dX12_lossOf_84 ?_
      refine lv_iconst (v := 3) hx hb dX12_lossOf_87 ic_3 ?_
      refine lv_iload hx hb dX12_lossOf_88 (lv_at hl 1 rfl) ?_
      refine sg_iast hx hb hh hA hK hP hS 8 (by decide) 0 (fun _ => rfl) rfl (i := 3) (x := r_4) (vp_in_iff.mpr (by decide)) dX12_lossOf_90 (fun f_41 H locs ef_41 hP hS => ?_)
      have hI : sgI loM hiM f_41 := by rw [ef_41]; exact sgI.put hI 8 (Int32.toNatClampNeg 3) (show 0 ≤ (r_4 : Int32).toInt ∧ (r_4 : Int32).toInt ≤ 60 from ⟨by omega, by omega⟩)
      have hF : sgK WkX12_lossOf f f_41 := sgK.put hF ef_41 (by rfl)
      refine lv_aload_n hx hb dX12_lossOf_91 rfl (lv_at hl 2 rfl) ?_
      refine sl_gM_0_17_12 hx hb hts hown hK hP dX12_lossOf_92 ?_
      refine lv_iconst (v := 4) hx hb dX12_lossOf_95 ic_4 ?_
      refine lv_aload_n hx hb dX12_lossOf_96 rfl (lv_at hl 2 rfl) ?_
      refine lv_iload_n hx hb dX12_lossOf_97 rfl (lv_at hl 3 rfl) ?_
      refine lv_iconst (v := 5) hx hb dX12_lossOf_98 ic_5 ?_
      refine sg_calli (va_runV (As := [.int x0, .int 5]) (rest := [.int 4, .ref (h 8)]) ⟨hx, hb, hml, hown, hts⟩ (kX12_numberOf l D ca za h hh f_41 L Q hI x0 5 b0 (by decide) H.size) (sl_c12_numberOf_0_0_0_0_12 hts ⟨Nat.le_of_ble_eq_true rfl, Nat.le_of_ble_eq_true rfl⟩) (sl_vM_0 hA hK hP hS hZ) rfl rfl hl.1 rfl (lv_room (Nat.le_of_ble_eq_true rfl)) dX12_lossOf_99 ⟨Nat.le_refl _, Nat.le_refl _⟩) hA hS (fun r_45 f_42 L_43 Q_44 H locs hq hP hS => ?_)
      obtain ⟨⟨ef9, eL9, eQ9⟩, hq, u_46⟩ := hq
      rw [ef9, eL9, eQ9] at hP; clear ef9 eL9 eQ9
      refine sg_iast hx hb hh hA hK hP hS 8 (by decide) 0 (fun _ => rfl) rfl (i := 4) (x := r_45) (vp_in_iff.mpr (by decide)) dX12_lossOf_102 (fun f_47 H locs ef_47 hP hS => ?_)
      have hI : sgI loM hiM f_47 := by rw [ef_47]; exact sgI.put hI 8 (Int32.toNatClampNeg 4) (show 0 ≤ (r_45 : Int32).toInt ∧ (r_45 : Int32).toInt ≤ 60 from ⟨by omega, by omega⟩)
      have hF : sgK WkX12_lossOf f f_47 := sgK.put hF ef_47 (by rfl)
      refine lv_aload_n hx hb dX12_lossOf_103 rfl (lv_at hl 2 rfl) ?_
      refine sl_gM_0_17_12 hx hb hts hown hK hP dX12_lossOf_104 ?_
      refine lv_iconst (v := 5) hx hb dX12_lossOf_107 ic_5 ?_
      refine lv_iload_n hx hb dX12_lossOf_108 rfl (lv_at hl 4 rfl) ?_
      refine sg_iast hx hb hh hA hK hP hS 8 (by decide) 0 (fun _ => rfl) rfl (i := 5) (x := x1) (vp_in_iff.mpr (by decide)) dX12_lossOf_109 (fun f_48 H locs ef_48 hP hS => ?_)
      have hI : sgI loM hiM f_48 := by rw [ef_48]; exact sgI.put hI 8 (Int32.toNatClampNeg 5) (show 0 ≤ (x1 : Int32).toInt ∧ (x1 : Int32).toInt ≤ 60 from ⟨by omega, by omega⟩)
      have hF : sgK WkX12_lossOf f f_48 := sgK.put hF ef_48 (by rfl)
      refine lv_aload_n hx hb dX12_lossOf_110 rfl (lv_at hl 2 rfl) ?_
      refine lv_iconst (v := 0) hx hb dX12_lossOf_111 ic_0 ?_
      refine lv_aload_n hx hb dX12_lossOf_112 rfl (lv_at hl 2 rfl) ?_
      refine sl_gM_0_11_12 (v := v_13) hx hb hts hown hK hP (show f_48 0 11 = v_13 from (by rw [ef_48, sg_up_n (by decide)]; exact (by rw [ef_47, sg_up_n (by decide)]; exact (by rw [ef_41, sg_up_n (by decide)]; exact (by rw [ef_40, sg_up_n (by decide)]; exact (by rw [ef_39, sg_up_n (by decide)]; exact (by rw [ef_17, sg_up_n (by decide)]; exact ev_13.symm))))))) dX12_lossOf_113 ?_
      refine sg_calli (va_runV (As := [.int 0, .int v_13]) (rest := []) ⟨hx, hb, hml, hown, hts⟩ (kX12_workOut l D ca za h hh f_48 L Q hI 0 v_13 (by decide) ⟨by omega, by omega⟩ H.size) (sl_c12_workOut_43_0_0_979_12 hts ⟨Nat.le_of_ble_eq_true rfl, Nat.le_of_ble_eq_true rfl⟩) (sl_vM_0 hA hK hP hS hZ) rfl rfl hl.1 rfl (lv_room (Nat.le_of_ble_eq_true rfl)) dX12_lossOf_116 ⟨Nat.le_refl _, Nat.le_refl _⟩) hA hS (fun r_52 f_49 L_50 Q_51 H locs hq hP hS => ?_)
      obtain ⟨⟨hI, hk_f_49, eL9, eQ9⟩, hq, u_53⟩ := hq
      replace hs := hs.trans ((if_pos c_19).trans (spl_e ef_39 (spl_e ef_40 (spl_e ef_41 (spl_e u_46 (spl_e ef_47 (spl_e ef_48 (spl2_e u_53 rfl))))))))
      rw [eL9, eQ9] at hP; clear eL9 eQ9
      have hF : sgK WkX12_lossOf f f_49 := sgK.tr hF hk_f_49 (by decide +kernel)
      refine lv_istore (lv' := [(6, .int r_52), (5, .int r_11), (4, .int r_4), (0, .ref (h 0)), (1, .int x0), (2, .int x1), (3, .int x2)]) hx hb dX12_lossOf_119 hl (by decide) rfl (fun ls hl => ?_)
      refine lv_iload hx hb dX12_lossOf_121 (lv_at hl 0 rfl) ?_
      refine lv_if_ge (tgt := 130) hx hb dX12_lossOf_123 (by decide) (fun c => ?_) (fun c => ?_)
      · skip
        have c_54 : 0 ≤ r_52.toInt := (by first | exact (cm_le0 ti_0 c) | (have z := bn_le c; have k1 : (0 : Int32).toInt = 0 := ti_0; omega))
        replace hs := hs.trans ((if_neg (Int.not_lt.mpr c_54)).trans rfl)
        refine lv_iload hx hb dX12_lossOf_130 (lv_at hl 0 rfl) ?_
        refine lv_sipush (v := 9999) hx hb dX12_lossOf_132 (by decide) ?_
        refine lv_icmp_le (tgt := 144) hx hb dX12_lossOf_135 (by decide) (fun c => ?_) (fun c => ?_)
        · skip
          have c_56 : r_52.toInt ≤ 9999 := (by first | exact (cm_le1 ti_9999 c) | (have z := bn_le c; have k1 : (9999 : Int32).toInt = 9999 := ti_9999; omega))
          refine lv_iload hx hb dX12_lossOf_144 (lv_at hl 0 rfl) ?_
          exact hret _ _ _ _ (r_52) f_49 L Q dX12_lossOf_146 hP hS ⟨⟨hI, hF, rfl, rfl⟩, trivial, (Eq.trans (Eq.symm (hs.trans ((if_neg (Int.not_lt.mpr c_56)).trans rfl))) hsp)⟩
        · skip
          have c_57 : 9999 < r_52.toInt := (by first | exact (cm_nle1 ti_9999 c) | (have z := bn_nle c; have k1 : (9999 : Int32).toInt = 9999 := ti_9999; omega))
          refine lv_sipush (v := 9999) hx hb dX12_lossOf_138 (by decide) ?_
          refine lv_goto (tgt := 146) hx hb dX12_lossOf_141 (by decide) ?_
          have k99 : (9999 : Int32).toInt = 9999 := ti_9999
          exact hret _ _ _ _ (9999) f_49 L Q dX12_lossOf_146 hP hS ⟨⟨hI, hF, rfl, rfl⟩, trivial, (Eq.trans (Eq.symm (hs.trans ((if_pos c_57).trans rfl))) hsp)⟩
      · skip
        have c_55 : r_52.toInt < 0 := (by first | exact (cm_nle0 ti_0 c) | (have z := bn_nle c; have k1 : (0 : Int32).toInt = 0 := ti_0; omega))
        refine lv_iconst (v := 0) hx hb dX12_lossOf_126 ic_0 ?_
        refine lv_goto (tgt := 146) hx hb dX12_lossOf_127 (by decide) ?_
        have k99 : (0 : Int32).toInt = 0 := ti_0
        exact hret _ _ _ _ (0) f_49 L Q dX12_lossOf_146 hP hS ⟨⟨hI, hF, rfl, rfl⟩, trivial, (Eq.trans (Eq.symm (hs.trans ((if_pos c_55).trans rfl))) hsp)⟩
  · skip
    have c_16 : v_13.toInt < 0 := (by first | exact (cm_nle0 ti_0 c) | (have z := bn_nle c; have k1 : (0 : Int32).toInt = 0 := ti_0; omega))
    replace hs := hs.trans ((if_pos c_16).trans rfl)
    refine lv_iload hx hb dX12_lossOf_24 (lv_at hl 0 rfl) ?_
    refine lv_aload_n hx hb dX12_lossOf_26 rfl (lv_at hl 2 rfl) ?_
    refine lv_iload_n hx hb dX12_lossOf_27 rfl (lv_at hl 3 rfl) ?_
    refine lv_iload_n hx hb dX12_lossOf_28 rfl (lv_at hl 5 rfl) ?_
    refine lv_iload hx hb dX12_lossOf_29 (lv_at hl 1 rfl) ?_
    refine lv_icmp_le (tgt := 38) hx hb dX12_lossOf_31 (by decide) (fun c => ?_) (fun c => ?_)
    · skip
      have c_58 : x2.toInt ≤ r_4.toInt := (by first | exact (bn_le c) | (have z := bn_le c; omega))
      refine lv_iconst (v := 4) hx hb dX12_lossOf_38 ic_4 ?_
      refine sg_calli (va_runV (As := [.int x0, .int 4]) (rest := [.int r_11]) ⟨hx, hb, hml, hown, hts⟩ (kX12_numberOf l D ca za h hh f L Q hI x0 4 b0 (by decide) H.size) (sl_c12_numberOf_0_0_0_0_12 hts ⟨Nat.le_of_ble_eq_true rfl, Nat.le_of_ble_eq_true rfl⟩) (sl_vM_0 hA hK hP hS hZ) rfl rfl hl.1 rfl (lv_room (Nat.le_of_ble_eq_true rfl)) dX12_lossOf_39 ⟨Nat.le_refl _, Nat.le_refl _⟩) hA hS (fun r_63 f_60 L_61 Q_62 H locs hq hP hS => ?_)
      obtain ⟨⟨ef9, eL9, eQ9⟩, hq, u_64⟩ := hq
      rw [ef9, eL9, eQ9] at hP; clear ef9 eL9 eQ9
      refine lv_imul hx hb dX12_lossOf_42 ?_
      refine lv_topi (fun v_65 ev_65 => ?_)
      refine lv_aload_n hx hb dX12_lossOf_43 rfl (lv_at hl 2 rfl) ?_
      refine lv_iload_n hx hb dX12_lossOf_44 rfl (lv_at hl 3 rfl) ?_
      refine lv_iconst (v := 5) hx hb dX12_lossOf_45 ic_5 ?_
      refine sg_calli (va_runV (As := [.int x0, .int 5]) (rest := [.int v_65]) ⟨hx, hb, hml, hown, hts⟩ (kX12_numberOf l D ca za h hh f L Q hI x0 5 b0 (by decide) H.size) (sl_c12_numberOf_0_0_0_0_12 hts ⟨Nat.le_of_ble_eq_true rfl, Nat.le_of_ble_eq_true rfl⟩) (sl_vM_0 hA hK hP hS hZ) rfl rfl hl.1 rfl (lv_room (Nat.le_of_ble_eq_true rfl)) dX12_lossOf_46 ⟨Nat.le_refl _, Nat.le_refl _⟩) hA hS (fun r_69 f_66 L_67 Q_68 H locs hq hP hS => ?_)
      obtain ⟨⟨ef9, eL9, eQ9⟩, hq, u_70⟩ := hq
      rw [ef9, eL9, eQ9] at hP; clear ef9 eL9 eQ9
      refine lv_imul hx hb dX12_lossOf_49 ?_
      refine lv_topi (fun v_71 ev_71 => ?_)
      exact hret _ _ _ _ (v_71) f L Q dX12_lossOf_50 hP hS ⟨⟨hI, hF, rfl, rfl⟩, trivial, (Eq.trans (Eq.symm (hs.trans ((if_neg (Int.not_lt.mpr c_58)).trans (spl_e u_64 (spl_e ev_65 (spl_e u_70 (spl_e ev_71 rfl))))))) hsp)⟩
    · skip
      have c_59 : r_4.toInt < x2.toInt := (by first | exact (bn_nle c) | (have z := bn_nle c; omega))
      refine lv_iconst (v := 3) hx hb dX12_lossOf_34 ic_3 ?_
      refine lv_goto (tgt := 39) hx hb dX12_lossOf_35 (by decide) ?_
      refine sg_calli (va_runV (As := [.int x0, .int 3]) (rest := [.int r_11]) ⟨hx, hb, hml, hown, hts⟩ (kX12_numberOf l D ca za h hh f L Q hI x0 3 b0 (by decide) H.size) (sl_c12_numberOf_0_0_0_0_12 hts ⟨Nat.le_of_ble_eq_true rfl, Nat.le_of_ble_eq_true rfl⟩) (sl_vM_0 hA hK hP hS hZ) rfl rfl hl.1 rfl (lv_room (Nat.le_of_ble_eq_true rfl)) dX12_lossOf_39 ⟨Nat.le_refl _, Nat.le_refl _⟩) hA hS (fun r_75 f_72 L_73 Q_74 H locs hq hP hS => ?_)
      obtain ⟨⟨ef9, eL9, eQ9⟩, hq, u_76⟩ := hq
      rw [ef9, eL9, eQ9] at hP; clear ef9 eL9 eQ9
      refine lv_imul hx hb dX12_lossOf_42 ?_
      refine lv_topi (fun v_77 ev_77 => ?_)
      refine lv_aload_n hx hb dX12_lossOf_43 rfl (lv_at hl 2 rfl) ?_
      refine lv_iload_n hx hb dX12_lossOf_44 rfl (lv_at hl 3 rfl) ?_
      refine lv_iconst (v := 5) hx hb dX12_lossOf_45 ic_5 ?_
      refine sg_calli (va_runV (As := [.int x0, .int 5]) (rest := [.int v_77]) ⟨hx, hb, hml, hown, hts⟩ (kX12_numberOf l D ca za h hh f L Q hI x0 5 b0 (by decide) H.size) (sl_c12_numberOf_0_0_0_0_12 hts ⟨Nat.le_of_ble_eq_true rfl, Nat.le_of_ble_eq_true rfl⟩) (sl_vM_0 hA hK hP hS hZ) rfl rfl hl.1 rfl (lv_room (Nat.le_of_ble_eq_true rfl)) dX12_lossOf_46 ⟨Nat.le_refl _, Nat.le_refl _⟩) hA hS (fun r_81 f_78 L_79 Q_80 H locs hq hP hS => ?_)
      obtain ⟨⟨ef9, eL9, eQ9⟩, hq, u_82⟩ := hq
      rw [ef9, eL9, eQ9] at hP; clear ef9 eL9 eQ9
      refine lv_imul hx hb dX12_lossOf_49 ?_
      refine lv_topi (fun v_83 ev_83 => ?_)
      exact hret _ _ _ _ (v_83) f L Q dX12_lossOf_50 hP hS ⟨⟨hI, hF, rfl, rfl⟩, trivial, (Eq.trans (Eq.symm (hs.trans ((if_pos c_59).trans (spl_e u_76 (spl_e ev_77 (spl_e u_82 (spl_e ev_83 rfl))))))) hsp)⟩

abbrev WkX12_loss : List (Nat × Nat × Option Nat) := [(0, 0, some 12), (0, 0, some 13), (0, 0, some 14), (0, 0, some 15), (0, 0, some 16), (8, 8, none)]
set_option maxHeartbeats 4000000 in
set_option maxRecDepth 100000 in
theorem kX12_loss (l : Launch) (D : va_G) (ca : Nat → ClassId) (za h : Nat → Nat) (hh : sgH 26 h) (f : sg_F) (L : sg_L) (Q : sg_Q) (hI : sgI loM hiM f) (x0 : Int32) (x1 : Int32) (x2 : Int32) (sz : Nat) : Met l yX12_loss gwX12_loss { frames := 45, cells := 0, slots := 0, locals := 1032 } (sgP D vwCl (tyX ca) 26 h (eM ca h) zcM za f L Q sz [.ref (h 0), .int x0, .int x1, .int x2]) (sgQi D vwCl 26 h (eM ca h) sz (fun r f1 L1 Q1 => ((sgI loM hiM f1 ∧ sgK WkX12_loss f f1 ∧ L1 = L ∧ Q1 = Q) ∧ True ∧ (r, f1) = sX12_loss x0 x1 x2 f L))) 0 0 (sgA 26 h sz) := by
  refine sg_ofWi (cc := cX12_loss) (maxL := 4) RX12 (by decide) rfl rfl (Nat.le_of_ble_eq_true rfl) ?_
  intro p e s m below meth cd Qz ls hx hb hml hown hts hK hZ hP hS hl hret
  have hA := sgY.self (n := 26) (h := h) (sz := s.heap.size)
  have hl : lv_has ls 4 [(0, .ref (h 0)), (1, .int x0), (2, .int x1), (3, .int x2)] := hl
  obtain ⟨H, hH⟩ : ∃ z : Heap, z = s.heap := ⟨_, rfl⟩
  obtain ⟨locs, hlo⟩ : ∃ z : List Loc, z = [] := ⟨_, rfl⟩
  have hP : va_P D vwCl (sgw 26 h (eM ca h) f L Q) H := by rw [hH]; exact hP
  have hS : va_S (sgA 26 h s.heap.size) s.heap H locs := by rw [hH, hlo]; exact hS
  suffices hgo : W p l e ({ frames := 45, cells := 0, slots := 0, locals := 1032 }) s m ([.ref (h 0), .int x0, .int x1, .int x2] : List Value).toArray below meth cd H locs 0 0 Qz (F0 m 0 ls []) by rw [hH, hlo] at hgo; exact hgo
  clear hH hlo
  obtain ⟨sp, hsp⟩ : ∃ z : Int32 × sg_F, z = sX12_loss x0 x1 x2 f L := ⟨_, rfl⟩
  have hs : sp = sX12_loss x0 x1 x2 f L := hsp
  have hF : sgK WkX12_loss f f := sgK.rf
  refine lv_aload_n hx hb dX12_loss_0 rfl (lv_at hl 0 rfl) ?_
  refine lv_iload_n hx hb dX12_loss_1 rfl (lv_at hl 1 rfl) ?_
  obtain ⟨w_1, ew_1⟩ : ∃ z : Int64, z = Int32.toInt64 x0 := ⟨_, rfl⟩
  have q_2 : w_1.toInt = x0.toInt := by rw [ew_1]; exact Int32.toInt_toInt64 _
  refine lv_i2l (v := w_1) hx hb dX12_loss_2 ew_1.symm ?_
  obtain ⟨v_3, ev_3⟩ : ∃ z : Int32, z = f 0 6 := ⟨_, rfl⟩
  have q_4 : 0 ≤ v_3.toInt ∧ v_3.toInt ≤ 8 := by rw [ev_3]; exact hI 0 6
  have q_5 : (f 0 6).toInt = v_3.toInt := (congrArg Int32.toInt (show f 0 6 = v_3 from ev_3.symm))
  refine sg_calli (va_runV (As := [.long w_1]) (rest := []) ⟨hx, hb, hml, hown, hts⟩ (kX12_isSitter l D ca za h hh f L Q hI w_1 H.size) (sl_c12_isSitter_1_0_0_25_12 hts ⟨Nat.le_of_ble_eq_true rfl, Nat.le_of_ble_eq_true rfl⟩) (sl_vM_0 hA hK hP hS hZ) rfl rfl hl.1 rfl (lv_room (Nat.le_of_ble_eq_true rfl)) dX12_loss_3 ⟨Nat.le_refl _, Nat.le_refl _⟩) hA hS (fun r_10 f_7 L_8 Q_9 H locs hq hP hS => ?_)
  obtain ⟨⟨ef9, eL9, eQ9⟩, hq, u_11⟩ := hq
  replace hs := hs.trans (spl_e ew_1 (spl_e ev_3 (spl_e u_11 rfl)))
  rw [ef9, eL9, eQ9] at hP; clear ef9 eL9 eQ9
  rcases hq with ⟨rfl, hq⟩ | ⟨rfl, hq⟩
  · skip
    have hc_12 := hq
    refine lv_if_eq (tgt := 34) hx hb dX12_loss_6 (by decide) (fun c => absurd c (by decide)) (fun c => ?_)
    refine lv_iload_n hx hb dX12_loss_9 rfl (lv_at hl 2 rfl) ?_
    refine sg_calli (va_runS (As := [.int x1]) (rest := []) ⟨hx, hb, hml, hown, hts⟩ (kX12_isPart l D ca za h hh f L Q hI x1 H.size) (va_cwS 1 hts (gw_S (fun _ h => List.mem_cons_of_mem _ h) mw_636 mw_637 mw_619 mw_635) rfl rfl rfl hd_yX12_isPart.2 ⟨Nat.le_of_ble_eq_true rfl, Nat.le_of_ble_eq_true rfl⟩) (sg_preS hA hK hP hS hZ) rfl rfl hl.1 rfl (lv_room (Nat.le_of_ble_eq_true rfl)) dX12_loss_10 ⟨Nat.le_refl _, Nat.le_refl _⟩) hA hS (fun r_16 f_13 L_14 Q_15 H locs hq hP hS => ?_)
    obtain ⟨⟨ef9, eL9, eQ9⟩, hq, u_17⟩ := hq
    replace hs := hs.trans ((if_pos rfl).trans (spl_e u_17 rfl))
    rw [ef9, eL9, eQ9] at hP; clear ef9 eL9 eQ9
    rcases hq with ⟨rfl, hq⟩ | ⟨rfl, hq⟩
    · skip
      have hc_18 := hq
      refine lv_if_eq (tgt := 34) hx hb dX12_loss_13 (by decide) (fun c => absurd c (by decide)) (fun c => ?_)
      refine lv_iload_n hx hb dX12_loss_16 rfl (lv_at hl 3 rfl) ?_
      obtain ⟨w_19, ew_19⟩ : ∃ z : Int64, z = Int32.toInt64 x2 := ⟨_, rfl⟩
      have q_20 : w_19.toInt = x2.toInt := by rw [ew_19]; exact Int32.toInt_toInt64 _
      refine lv_i2l (v := w_19) hx hb dX12_loss_17 ew_19.symm ?_
      refine sg_calli (va_runS (As := [.long w_19]) (rest := []) ⟨hx, hb, hml, hown, hts⟩ (kX12_isSetting l D ca za h hh f L Q hI w_19 H.size) (va_cwS 1 hts (gw_S (fun _ h => List.mem_cons_of_mem _ h) mw_653 mw_654 mw_619 mw_652) rfl rfl rfl hd_yX12_isSetting.2 ⟨Nat.le_of_ble_eq_true rfl, Nat.le_of_ble_eq_true rfl⟩) (sg_preS hA hK hP hS hZ) rfl rfl hl.1 rfl (lv_room (Nat.le_of_ble_eq_true rfl)) dX12_loss_18 ⟨Nat.le_refl _, Nat.le_refl _⟩) hA hS (fun r_24 f_21 L_22 Q_23 H locs hq hP hS => ?_)
      obtain ⟨⟨ef9, eL9, eQ9⟩, hq, u_25⟩ := hq
      replace hs := hs.trans ((if_pos rfl).trans (spl_e ew_19 (spl_e u_25 rfl)))
      rw [ef9, eL9, eQ9] at hP; clear ef9 eL9 eQ9
      rcases hq with ⟨rfl, hq⟩ | ⟨rfl, hq⟩
      · skip
        have hc_26 := hq
        refine lv_if_eq (tgt := 34) hx hb dX12_loss_21 (by decide) (fun c => absurd c (by decide)) (fun c => ?_)
        refine lv_aload_n hx hb dX12_loss_24 rfl (lv_at hl 0 rfl) ?_
        refine lv_iload_n hx hb dX12_loss_25 rfl (lv_at hl 1 rfl) ?_
        refine lv_iload_n hx hb dX12_loss_26 rfl (lv_at hl 2 rfl) ?_
        refine lv_iload_n hx hb dX12_loss_27 rfl (lv_at hl 3 rfl) ?_
        refine sg_calli (va_runV (As := [.int x0, .int x1, .int x2]) (rest := []) ⟨hx, hb, hml, hown, hts⟩ (kX12_lossOf l D ca za h hh f L Q hI x0 x1 x2 ⟨by omega, by omega⟩ ⟨by omega, by omega⟩ ⟨by omega, by omega⟩ H.size) (sl_c12_lossOf_44_0_0_1006_12 hts ⟨Nat.le_of_ble_eq_true rfl, Nat.le_of_ble_eq_true rfl⟩) (sl_vM_0 hA hK hP hS hZ) rfl rfl hl.1 rfl (lv_room (Nat.le_of_ble_eq_true rfl)) dX12_loss_28 ⟨Nat.le_refl _, Nat.le_refl _⟩) hA hS (fun r_30 f_27 L_28 Q_29 H locs hq hP hS => ?_)
        obtain ⟨⟨hI, hk_f_27, eL9, eQ9⟩, hq, u_31⟩ := hq
        rw [eL9, eQ9] at hP; clear eL9 eQ9
        have hF : sgK WkX12_loss f f_27 := sgK.tr hF hk_f_27 (by decide +kernel)
        refine lv_goto (tgt := 35) hx hb dX12_loss_31 (by decide) ?_
        exact hret _ _ _ _ (r_30) f_27 L Q dX12_loss_35 hP hS ⟨⟨hI, hF, rfl, rfl⟩, trivial, (Eq.trans (Eq.symm (hs.trans ((if_pos rfl).trans (spl2_e u_31 rfl)))) hsp)⟩
      · skip
        have hc_26 := hq
        refine lv_if_eq (tgt := 34) hx hb dX12_loss_21 (by decide) (fun c => ?_) (fun c => absurd c (by decide))
        refine lv_iconst (v := (-1)) hx hb dX12_loss_34 ic_m1 ?_
        have k99 : ((-1) : Int32).toInt = (-1) := ti_m1
        exact hret _ _ _ _ (-1) f L Q dX12_loss_35 hP hS ⟨⟨hI, hF, rfl, rfl⟩, trivial, (Eq.trans (Eq.symm (hs.trans ((if_neg (by decide)).trans rfl))) hsp)⟩
    · skip
      have hc_18 := hq
      refine lv_if_eq (tgt := 34) hx hb dX12_loss_13 (by decide) (fun c => ?_) (fun c => absurd c (by decide))
      refine lv_iconst (v := (-1)) hx hb dX12_loss_34 ic_m1 ?_
      have k99 : ((-1) : Int32).toInt = (-1) := ti_m1
      exact hret _ _ _ _ (-1) f L Q dX12_loss_35 hP hS ⟨⟨hI, hF, rfl, rfl⟩, trivial, (Eq.trans (Eq.symm (hs.trans ((if_neg (by decide)).trans rfl))) hsp)⟩
  · skip
    have hc_12 := hq
    refine lv_if_eq (tgt := 34) hx hb dX12_loss_6 (by decide) (fun c => ?_) (fun c => absurd c (by decide))
    refine lv_iconst (v := (-1)) hx hb dX12_loss_34 ic_m1 ?_
    have k99 : ((-1) : Int32).toInt = (-1) := ti_m1
    exact hret _ _ _ _ (-1) f L Q dX12_loss_35 hP hS ⟨⟨hI, hF, rfl, rfl⟩, trivial, (Eq.trans (Eq.symm (hs.trans ((if_neg (by decide)).trans rfl))) hsp)⟩

set_option maxHeartbeats 4000000 in
set_option maxRecDepth 100000 in
theorem kX12_bytesIs (l : Launch) (D : va_G) (ca : Nat → ClassId) (za h : Nat → Nat) (hh : sgH 26 h) (f : sg_F) (L : sg_L) (Q : sg_Q) (hI : sgI loM hiM f) (x0 : Int32) (sz : Nat) : Met l yX12_bytesIs gwX12_bytesIs { frames := 2, cells := 0, slots := 0, locals := 45 } (sgP D vwCl (tyX ca) 26 h (eM ca h) zcM za f L Q sz [.ref (h 0), .int x0]) (sgQi D vwCl 26 h (eM ca h) sz (fun r f1 L1 Q1 => ((f1 = f ∧ L1 = L ∧ Q1 = Q) ∧ ((r = 1 ∧ (0 ≤ x0.toInt ∧ x0.toInt ≤ 5)) ∨ ((r.toInt = -11 ∨ r.toInt = -12) ∧ 0 ≤ x0.toInt ∧ x0.toInt ≤ 5) ∨ (r = (-1) ∧ (True))) ∧ (r) = sX12_bytesIs x0 f L))) 0 0 (sgA 26 h sz) := by
  refine sg_ofWi (cc := cX12_bytesIs) (maxL := 2) RX12 (by decide) rfl rfl (Nat.le_of_ble_eq_true rfl) ?_
  intro p e s m below meth cd Qz ls hx hb hml hown hts hK hZ hP hS hl hret
  have hA := sgY.self (n := 26) (h := h) (sz := s.heap.size)
  have hl : lv_has ls 2 [(0, .ref (h 0)), (1, .int x0)] := hl
  obtain ⟨H, hH⟩ : ∃ z : Heap, z = s.heap := ⟨_, rfl⟩
  obtain ⟨locs, hlo⟩ : ∃ z : List Loc, z = [] := ⟨_, rfl⟩
  have hP : va_P D vwCl (sgw 26 h (eM ca h) f L Q) H := by rw [hH]; exact hP
  have hS : va_S (sgA 26 h s.heap.size) s.heap H locs := by rw [hH, hlo]; exact hS
  suffices hgo : W p l e ({ frames := 2, cells := 0, slots := 0, locals := 45 }) s m ([.ref (h 0), .int x0] : List Value).toArray below meth cd H locs 0 0 Qz (F0 m 0 ls []) by rw [hH, hlo] at hgo; exact hgo
  clear hH hlo
  obtain ⟨sp, hsp⟩ : ∃ z : Int32, z = sX12_bytesIs x0 f L := ⟨_, rfl⟩
  have hs : sp = sX12_bytesIs x0 f L := hsp
  refine lv_iload_n hx hb dX12_bytesIs_0 rfl (lv_at hl 1 rfl) ?_
  refine sg_calli (va_runS (As := [.int x0]) (rest := []) ⟨hx, hb, hml, hown, hts⟩ (kX12_isShelf l D ca za h hh f L Q hI x0 H.size) (va_cwS 1 hts (gw_S (fun _ h => List.mem_cons_of_mem _ h) mw_641 mw_642 mw_619 mw_640) rfl rfl rfl hd_yX12_isShelf.2 ⟨Nat.le_of_ble_eq_true rfl, Nat.le_of_ble_eq_true rfl⟩) (sg_preS hA hK hP hS hZ) rfl rfl hl.1 rfl (lv_room (Nat.le_of_ble_eq_true rfl)) dX12_bytesIs_1 ⟨Nat.le_refl _, Nat.le_refl _⟩) hA hS (fun r_4 f_1 L_2 Q_3 H locs hq hP hS => ?_)
  obtain ⟨⟨ef9, eL9, eQ9⟩, hq, u_5⟩ := hq
  replace hs := hs.trans (spl_e u_5 rfl)
  rw [ef9, eL9, eQ9] at hP; clear ef9 eL9 eQ9
  rcases hq with ⟨rfl, hq⟩ | ⟨rfl, hq⟩
  · skip
    have hc_6 := hq
    refine lv_if_ne (tgt := 11) hx hb dX12_bytesIs_4 (by decide) (fun c => ?_) (fun c => absurd c (by decide))
    refine lv_aload_n hx hb dX12_bytesIs_11 rfl (lv_at hl 0 rfl) ?_
    refine sl_gM_0_51_12 hx hb hts hown hK hP dX12_bytesIs_12 ?_
    refine lv_iload_n hx hb dX12_bytesIs_15 rfl (lv_at hl 1 rfl) ?_
    refine sg_iald hx hb hK hP 22 (by decide) 0 rfl rfl (i := x0) (vp_in_iff.mpr ⟨by omega, by omega⟩) dX12_bytesIs_16 ?_
    refine lv_topi (fun v_7 ev_7 => ?_)
    replace hs := hs.trans ((if_pos rfl).trans (spl_e ev_7 rfl))
    have q_8 : (-1) ≤ v_7.toInt ∧ v_7.toInt ≤ 54 := by rw [ev_7]; exact hI 22 _
    refine lv_if_ge (tgt := 25) hx hb dX12_bytesIs_17 (by decide) (fun c => ?_) (fun c => ?_)
    · skip
      have c_9 : 0 ≤ v_7.toInt := (by first | exact (cm_le0 ti_0 c) | (have z := bn_le c; have k1 : (0 : Int32).toInt = 0 := ti_0; omega))
      replace hs := hs.trans ((if_neg (Int.not_lt.mpr c_9)).trans rfl)
      refine lv_aload_n hx hb dX12_bytesIs_25 rfl (lv_at hl 0 rfl) ?_
      refine sl_gM_0_51_12 hx hb hts hown hK hP dX12_bytesIs_26 ?_
      refine lv_iload_n hx hb dX12_bytesIs_29 rfl (lv_at hl 1 rfl) ?_
      refine sg_iald hx hb hK hP 22 (by decide) 0 rfl rfl (i := x0) (vp_in_iff.mpr ⟨by omega, by omega⟩) dX12_bytesIs_30 ?_
      rw [← ev_7]
      refine lv_bipush (v := 50) hx hb dX12_bytesIs_31 bp_50 ?_
      refine lv_icmp_ne (tgt := 40) hx hb dX12_bytesIs_33 (by decide) (fun c => ?_) (fun c => ?_)
      · skip
        have c_11 : v_7.toInt ≠ 50 := (by first | exact (cm_ne1 ti_50 c) | (have z := bn_ne c; have k1 : (50 : Int32).toInt = 50 := ti_50; omega))
        refine lv_bipush (v := (-12)) hx hb dX12_bytesIs_40 bp_m12 ?_
        have k99 : ((-12) : Int32).toInt = (-12) := ti_m12
        exact hret _ _ _ _ (-12) f L Q dX12_bytesIs_42 hP hS ⟨⟨rfl, rfl, rfl⟩, Or.inr (Or.inl (by omega)), (Eq.trans (Eq.symm (hs.trans ((if_neg c_11).trans rfl))) hsp)⟩
      · skip
        have c_12 : v_7.toInt = 50 := (by first | exact (cm_eq1 ti_50 c) | (have z := Int32.toInt_inj.mpr c; have k1 : (50 : Int32).toInt = 50 := ti_50; omega))
        refine lv_iconst (v := 1) hx hb dX12_bytesIs_36 ic_1 ?_
        refine lv_goto (tgt := 42) hx hb dX12_bytesIs_37 (by decide) ?_
        have k99 : (1 : Int32).toInt = 1 := ti_1
        exact hret _ _ _ _ (1) f L Q dX12_bytesIs_42 hP hS ⟨⟨rfl, rfl, rfl⟩, (by first | exact Or.inl ⟨rfl, by omega⟩ | exact Or.inr (Or.inl (by omega))), (Eq.trans (Eq.symm (hs.trans ((if_pos c_12).trans rfl))) hsp)⟩
    · skip
      have c_10 : v_7.toInt < 0 := (by first | exact (cm_nle0 ti_0 c) | (have z := bn_nle c; have k1 : (0 : Int32).toInt = 0 := ti_0; omega))
      refine lv_bipush (v := (-11)) hx hb dX12_bytesIs_20 bp_m11 ?_
      refine lv_goto (tgt := 42) hx hb dX12_bytesIs_22 (by decide) ?_
      have k99 : ((-11) : Int32).toInt = (-11) := ti_m11
      exact hret _ _ _ _ (-11) f L Q dX12_bytesIs_42 hP hS ⟨⟨rfl, rfl, rfl⟩, Or.inr (Or.inl (by omega)), (Eq.trans (Eq.symm (hs.trans ((if_pos c_10).trans rfl))) hsp)⟩
  · skip
    have hc_6 := hq
    refine lv_if_ne (tgt := 11) hx hb dX12_bytesIs_4 (by decide) (fun c => absurd c (by decide)) (fun c => ?_)
    refine lv_iconst (v := (-1)) hx hb dX12_bytesIs_7 ic_m1 ?_
    refine lv_goto (tgt := 42) hx hb dX12_bytesIs_8 (by decide) ?_
    have k99 : ((-1) : Int32).toInt = (-1) := ti_m1
    exact hret _ _ _ _ (-1) f L Q dX12_bytesIs_42 hP hS ⟨⟨rfl, rfl, rfl⟩, (by first | exact Or.inr (Or.inl (by omega)) | exact Or.inr (Or.inr (⟨rfl, trivial⟩))), (Eq.trans (Eq.symm (hs.trans ((if_neg (by decide)).trans rfl))) hsp)⟩

set_option maxHeartbeats 4000000 in
set_option maxRecDepth 100000 in
theorem kX12_shiftsOf (l : Launch) (D : va_G) (ca : Nat → ClassId) (za h : Nat → Nat) (hh : sgH 26 h) (f : sg_F) (L : sg_L) (Q : sg_Q) (hI : sgI loM hiM f) (x0 : Int32) (b0 : 0 ≤ x0.toInt ∧ x0.toInt ≤ 5) (sz : Nat) : Met l yX12_shiftsOf gwX12_shiftsOf { frames := 0, cells := 0, slots := 0, locals := 0 } (sgP D vwCl (tyX ca) 26 h (eM ca h) zcM za f L Q sz [.ref (h 0), .int x0]) (sgQi D vwCl 26 h (eM ca h) sz (fun r f1 L1 Q1 => ((f1 = f ∧ L1 = L ∧ Q1 = Q) ∧ (0 ≤ r.toInt ∧ r.toInt ≤ 21) ∧ (r) = sX12_shiftsOf x0 f L))) 0 0 (sgA 26 h sz) := by
  refine sg_ofWi (cc := cX12_shiftsOf) (maxL := 2) RX12 (by decide) rfl rfl (Nat.le_of_ble_eq_true rfl) ?_
  intro p e s m below meth cd Qz ls hx hb hml hown hts hK hZ hP hS hl hret
  have hA := sgY.self (n := 26) (h := h) (sz := s.heap.size)
  have hl : lv_has ls 2 [(0, .ref (h 0)), (1, .int x0)] := hl
  obtain ⟨H, hH⟩ : ∃ z : Heap, z = s.heap := ⟨_, rfl⟩
  obtain ⟨locs, hlo⟩ : ∃ z : List Loc, z = [] := ⟨_, rfl⟩
  have hP : va_P D vwCl (sgw 26 h (eM ca h) f L Q) H := by rw [hH]; exact hP
  have hS : va_S (sgA 26 h s.heap.size) s.heap H locs := by rw [hH, hlo]; exact hS
  suffices hgo : W p l e ({ frames := 0, cells := 0, slots := 0, locals := 0 }) s m ([.ref (h 0), .int x0] : List Value).toArray below meth cd H locs 0 0 Qz (F0 m 0 ls []) by rw [hH, hlo] at hgo; exact hgo
  clear hH hlo
  obtain ⟨sp, hsp⟩ : ∃ z : Int32, z = sX12_shiftsOf x0 f L := ⟨_, rfl⟩
  have hs : sp = sX12_shiftsOf x0 f L := hsp
  refine lv_aload_n hx hb dX12_shiftsOf_0 rfl (lv_at hl 0 rfl) ?_
  refine sl_gM_0_52_12 hx hb hts hown hK hP dX12_shiftsOf_1 ?_
  refine lv_iload_n hx hb dX12_shiftsOf_4 rfl (lv_at hl 1 rfl) ?_
  refine sg_iald hx hb hK hP 23 (by decide) 0 rfl rfl (i := x0) (vp_in_iff.mpr ⟨by omega, by omega⟩) dX12_shiftsOf_5 ?_
  refine lv_topi (fun v_1 ev_1 => ?_)
  replace hs := hs.trans (spl_e ev_1 rfl)
  have q_2 : 0 ≤ v_1.toInt ∧ v_1.toInt ≤ 60 := by rw [ev_1]; exact hI 23 _
  refine lv_bipush (v := 21) hx hb dX12_shiftsOf_6 bp_21 ?_
  refine lv_icmp_ge (tgt := 20) hx hb dX12_shiftsOf_8 (by decide) (fun c => ?_) (fun c => ?_)
  · skip
    have c_3 : 21 ≤ v_1.toInt := (by first | exact (cm_le0 ti_21 c) | (have z := bn_le c; have k1 : (21 : Int32).toInt = 21 := ti_21; omega))
    refine lv_bipush (v := 21) hx hb dX12_shiftsOf_20 bp_21 ?_
    have k99 : (21 : Int32).toInt = 21 := ti_21
    exact hret _ _ _ _ (21) f L Q dX12_shiftsOf_22 hP hS ⟨⟨rfl, rfl, rfl⟩, (by decide), (Eq.trans (Eq.symm (hs.trans ((if_neg (Int.not_lt.mpr c_3)).trans rfl))) hsp)⟩
  · skip
    have c_4 : v_1.toInt < 21 := (by first | exact (cm_nle0 ti_21 c) | (have z := bn_nle c; have k1 : (21 : Int32).toInt = 21 := ti_21; omega))
    refine lv_aload_n hx hb dX12_shiftsOf_11 rfl (lv_at hl 0 rfl) ?_
    refine sl_gM_0_52_12 hx hb hts hown hK hP dX12_shiftsOf_12 ?_
    refine lv_iload_n hx hb dX12_shiftsOf_15 rfl (lv_at hl 1 rfl) ?_
    refine sg_iald hx hb hK hP 23 (by decide) 0 rfl rfl (i := x0) (vp_in_iff.mpr ⟨by omega, by omega⟩) dX12_shiftsOf_16 ?_
    rw [← ev_1]
    refine lv_goto (tgt := 22) hx hb dX12_shiftsOf_17 (by decide) ?_
    exact hret _ _ _ _ (v_1) f L Q dX12_shiftsOf_22 hP hS ⟨⟨rfl, rfl, rfl⟩, ⟨by omega, by omega⟩, (Eq.trans (Eq.symm (hs.trans ((if_pos c_4).trans rfl))) hsp)⟩

set_option maxHeartbeats 4000000 in
set_option maxRecDepth 100000 in
theorem kX12_whoSits (l : Launch) (D : va_G) (ca : Nat → ClassId) (za h : Nat → Nat) (hh : sgH 26 h) (f : sg_F) (L : sg_L) (Q : sg_Q) (hI : sgI loM hiM f) (x0 : Int32) (x1 : Int32) (b0 : 0 ≤ x0.toInt ∧ x0.toInt ≤ 5) (b1 : 0 ≤ x1.toInt ∧ x1.toInt ≤ 20) (sz : Nat) : Met l yX12_whoSits gwX12_whoSits { frames := 2, cells := 0, slots := 0, locals := 47 } (sgP D vwCl (tyX ca) 26 h (eM ca h) zcM za f L Q sz [.ref (h 0), .int x0, .int x1]) (sgQi D vwCl 26 h (eM ca h) sz (fun r f1 L1 Q1 => ((f1 = f ∧ L1 = L ∧ Q1 = Q) ∧ ((-1) ≤ r.toInt ∧ r.toInt ≤ 7) ∧ (r) = sX12_whoSits x0 x1 f L))) 0 0 (sgA 26 h sz) := by
  refine sg_ofWi (cc := cX12_whoSits) (maxL := 5) RX12 (by decide) rfl rfl (Nat.le_of_ble_eq_true rfl) ?_
  intro p e s m below meth cd Qz ls hx hb hml hown hts hK hZ hP hS hl hret
  have hA := sgY.self (n := 26) (h := h) (sz := s.heap.size)
  have hl : lv_has ls 5 [(0, .ref (h 0)), (1, .int x0), (2, .int x1)] := hl
  obtain ⟨H, hH⟩ : ∃ z : Heap, z = s.heap := ⟨_, rfl⟩
  obtain ⟨locs, hlo⟩ : ∃ z : List Loc, z = [] := ⟨_, rfl⟩
  have hP : va_P D vwCl (sgw 26 h (eM ca h) f L Q) H := by rw [hH]; exact hP
  have hS : va_S (sgA 26 h s.heap.size) s.heap H locs := by rw [hH, hlo]; exact hS
  suffices hgo : W p l e ({ frames := 2, cells := 0, slots := 0, locals := 47 }) s m ([.ref (h 0), .int x0, .int x1] : List Value).toArray below meth cd H locs 0 0 Qz (F0 m 0 ls []) by rw [hH, hlo] at hgo; exact hgo
  clear hH hlo
  obtain ⟨sp, hsp⟩ : ∃ z : Int32, z = sX12_whoSits x0 x1 f L := ⟨_, rfl⟩
  have hs : sp = sX12_whoSits x0 x1 f L := hsp
  refine lv_aload_n hx hb dX12_whoSits_0 rfl (lv_at hl 0 rfl) ?_
  refine sl_gM_0_53_12 hx hb hts hown hK hP dX12_whoSits_1 ?_
  refine lv_bipush (v := 60) hx hb dX12_whoSits_4 bp_60 ?_
  refine lv_iload_n hx hb dX12_whoSits_6 rfl (lv_at hl 1 rfl) ?_
  refine lv_imul hx hb dX12_whoSits_7 ?_
  refine lv_topi (fun v_1 ev_1 => ?_)
  have q_2 : v_1.toInt = 60 * x0.toInt := by rw [ev_1]; exact bn_mulJ (by decide) (by omega) (by omega)
  refine lv_iload_n hx hb dX12_whoSits_8 rfl (lv_at hl 2 rfl) ?_
  refine lv_iadd hx hb dX12_whoSits_9 ?_
  refine lv_topi (fun v_3 ev_3 => ?_)
  have q_4 : v_3.toInt = v_1.toInt + x1.toInt := by rw [ev_3]; first | exact bn_addI (by omega) (by omega) | exact (bn_addI (by omega) (by omega)).trans (by omega)
  refine sg_lald hx hb hK hP 24 (by decide) 1 rfl rfl (i := v_3) (vp_in_iff.mpr ⟨by omega, by omega⟩) dX12_whoSits_10 ?_
  obtain ⟨w_5, ew_5⟩ : ∃ z : Int64, z = L 24 (Int32.toNatClampNeg v_3) := ⟨_, rfl⟩
  rw [← ew_5]
  refine lv_lstore_n (lv' := [(3, .long w_5), (0, .ref (h 0)), (1, .int x0), (2, .int x1)]) hx hb dX12_whoSits_11 rfl hl (by decide) rfl (fun ls hl => ?_)
  refine lv_aload_n hx hb dX12_whoSits_12 rfl (lv_at hl 1 rfl) ?_
  refine lv_lload_n hx hb dX12_whoSits_13 rfl (lv_at hl 0 rfl) ?_
  obtain ⟨v_6, ev_6⟩ : ∃ z : Int32, z = f 0 6 := ⟨_, rfl⟩
  have q_7 : 0 ≤ v_6.toInt ∧ v_6.toInt ≤ 8 := by rw [ev_6]; exact hI 0 6
  have q_8 : (f 0 6).toInt = v_6.toInt := (congrArg Int32.toInt (show f 0 6 = v_6 from ev_6.symm))
  refine sg_calli (va_runV (As := [.long w_5]) (rest := []) ⟨hx, hb, hml, hown, hts⟩ (kX12_isSitter l D ca za h hh f L Q hI w_5 H.size) (sl_c12_isSitter_1_0_0_25_12 hts ⟨Nat.le_of_ble_eq_true rfl, Nat.le_of_ble_eq_true rfl⟩) (sl_vM_0 hA hK hP hS hZ) rfl rfl hl.1 rfl (lv_room (Nat.le_of_ble_eq_true rfl)) dX12_whoSits_14 ⟨Nat.le_refl _, Nat.le_refl _⟩) hA hS (fun r_13 f_10 L_11 Q_12 H locs hq hP hS => ?_)
  obtain ⟨⟨ef9, eL9, eQ9⟩, hq, u_14⟩ := hq
  replace hs := hs.trans (spl_e ev_1 (spl_e ev_3 (spl_e ew_5 (spl_e ev_6 (spl_e u_14 rfl)))))
  rw [ef9, eL9, eQ9] at hP; clear ef9 eL9 eQ9
  rcases hq with ⟨rfl, hq⟩ | ⟨rfl, hq⟩
  · skip
    have hc_15 := hq
    refine lv_if_eq (tgt := 25) hx hb dX12_whoSits_17 (by decide) (fun c => absurd c (by decide)) (fun c => ?_)
    refine lv_lload_n hx hb dX12_whoSits_20 rfl (lv_at hl 0 rfl) ?_
    obtain ⟨v_16, ev_16⟩ : ∃ z : Int32, z = Int64.toInt32 w_5 := ⟨_, rfl⟩
    have q_17 : v_16.toInt = w_5.toInt := by rw [ev_16]; exact bn_l2i (by omega) (by omega)
    refine lv_l2i (v := v_16) hx hb dX12_whoSits_21 ev_16.symm ?_
    refine lv_goto (tgt := 26) hx hb dX12_whoSits_22 (by decide) ?_
    exact hret _ _ _ _ (v_16) f L Q dX12_whoSits_26 hP hS ⟨⟨rfl, rfl, rfl⟩, ⟨by omega, by omega⟩, (Eq.trans (Eq.symm (hs.trans ((if_pos rfl).trans (spl_e ev_16 rfl)))) hsp)⟩
  · skip
    have hc_15 := hq
    refine lv_if_eq (tgt := 25) hx hb dX12_whoSits_17 (by decide) (fun c => ?_) (fun c => absurd c (by decide))
    refine lv_iconst (v := (-1)) hx hb dX12_whoSits_25 ic_m1 ?_
    have k99 : ((-1) : Int32).toInt = (-1) := ti_m1
    exact hret _ _ _ _ (-1) f L Q dX12_whoSits_26 hP hS ⟨⟨rfl, rfl, rfl⟩, (by decide), (Eq.trans (Eq.symm (hs.trans ((if_neg (by decide)).trans rfl))) hsp)⟩

abbrev WkX12_neverOf : List (Nat × Nat × Option Nat) := [(0, 0, some 12), (0, 0, some 13), (0, 0, some 14), (0, 0, some 15), (0, 0, some 16), (8, 8, none)]
set_option maxHeartbeats 4000000 in
set_option maxRecDepth 100000 in
theorem kX12_neverOf (l : Launch) (D : va_G) (ca : Nat → ClassId) (za h : Nat → Nat) (hh : sgH 26 h) (f : sg_F) (L : sg_L) (Q : sg_Q) (hI : sgI loM hiM f) (x0 : Int32) (x1 : Int32) (x2 : Int32) (b0 : 0 ≤ x0.toInt ∧ x0.toInt ≤ 5) (b1 : 0 ≤ x1.toInt ∧ x1.toInt ≤ 2) (b2 : 0 ≤ x2.toInt ∧ x2.toInt ≤ 60) (sz : Nat) : Met l yX12_neverOf gwX12_neverOf { frames := 45, cells := 0, slots := 0, locals := 1032 } (sgP D vwCl (tyX ca) 26 h (eM ca h) zcM za f L Q sz [.ref (h 0), .int x0, .int x1, .int x2]) (sgQi D vwCl 26 h (eM ca h) sz (fun r f1 L1 Q1 => ((sgI loM hiM f1 ∧ sgK WkX12_neverOf f f1 ∧ L1 = L ∧ Q1 = Q) ∧ True ∧ (r, f1) = sX12_neverOf x0 x1 x2 f L))) 0 0 (sgA 26 h sz) := by
  refine sg_ofWi (cc := cX12_neverOf) (maxL := 6) RX12 (by decide) rfl rfl (Nat.le_of_ble_eq_true rfl) ?_
  intro p e s m below meth cd Qz ls hx hb hml hown hts hK hZ hP hS hl hret
  have hA := sgY.self (n := 26) (h := h) (sz := s.heap.size)
  have hl : lv_has ls 6 [(0, .ref (h 0)), (1, .int x0), (2, .int x1), (3, .int x2)] := hl
  obtain ⟨H, hH⟩ : ∃ z : Heap, z = s.heap := ⟨_, rfl⟩
  obtain ⟨locs, hlo⟩ : ∃ z : List Loc, z = [] := ⟨_, rfl⟩
  have hP : va_P D vwCl (sgw 26 h (eM ca h) f L Q) H := by rw [hH]; exact hP
  have hS : va_S (sgA 26 h s.heap.size) s.heap H locs := by rw [hH, hlo]; exact hS
  suffices hgo : W p l e ({ frames := 45, cells := 0, slots := 0, locals := 1032 }) s m ([.ref (h 0), .int x0, .int x1, .int x2] : List Value).toArray below meth cd H locs 0 0 Qz (F0 m 0 ls []) by rw [hH, hlo] at hgo; exact hgo
  clear hH hlo
  obtain ⟨sp, hsp⟩ : ∃ z : Int32 × sg_F, z = sX12_neverOf x0 x1 x2 f L := ⟨_, rfl⟩
  have hs : sp = sX12_neverOf x0 x1 x2 f L := hsp
  have hF : sgK WkX12_neverOf f f := sgK.rf
  have loop_6 : ∀ (n_6 : Nat) (y4_6 : Int32) (y5_6 : Int32) (fp_6 : sg_F) (H : Heap) (locs : List Loc) (ls : Array Slot), sp = sX12_neverOf_l6 x0 x1 x2 n_6 y4_6 y5_6 fp_6 L → 21 - y5_6.toInt < (n_6 : Int) → 0 ≤ y5_6.toInt ∧ y5_6.toInt ≤ 21 → sgI loM hiM fp_6 → sgK WkX12_neverOf f fp_6 → va_P D vwCl (sgw 26 h (eM ca h) fp_6 L Q) H → va_S (sgA 26 h s.heap.size) s.heap H locs → lv_has ls 6 [(0, .ref (h 0)), (1, .int x0), (2, .int x1), (3, .int x2), (4, .int y4_6), (5, .int y5_6)] → W p l e ({ frames := 45, cells := 0, slots := 0, locals := 1032 }) s m ([.ref (h 0), .int x0, .int x1, .int x2] : List Value).toArray below meth cd H locs 0 0 Qz (F0 m 6 ls []) := by
    intro n_6
    induction n_6 with
    | zero => intro y4_6 y5_6 fp_6 H locs ls hs hm_6 hy0_6 hI hF hP hS hl; exact absurd hm_6 (by omega)
    | succ n_6 ih_6 =>
      intro y4_6 y5_6 fp_6 H locs ls hs hm_6 hy0_6 hI hF hP hS hl
      have hs : sp = sX12_neverOf_h6 x0 x1 x2 (sX12_neverOf_l6 x0 x1 x2 n_6) y4_6 y5_6 fp_6 L := hs
      refine lv_iload hx hb dX12_neverOf_6 (lv_at hl 5 rfl) ?_
      refine lv_aload_n hx hb dX12_neverOf_8 rfl (lv_at hl 0 rfl) ?_
      refine lv_iload_n hx hb dX12_neverOf_9 rfl (lv_at hl 1 rfl) ?_
      refine sg_calli (va_runV (As := [.int x0]) (rest := [.int y5_6]) ⟨hx, hb, hml, hown, hts⟩ (kX12_shiftsOf l D ca za h hh fp_6 L Q hI x0 b0 H.size) (sl_c12_shiftsOf_0_0_0_0_12 hts ⟨Nat.le_of_ble_eq_true rfl, Nat.le_of_ble_eq_true rfl⟩) (sl_vM_0 hA hK hP hS hZ) rfl rfl hl.1 rfl (lv_room (Nat.le_of_ble_eq_true rfl)) dX12_neverOf_10 ⟨Nat.le_refl _, Nat.le_refl _⟩) hA hS (fun r_4 f_1 L_2 Q_3 H locs hq hP hS => ?_)
      obtain ⟨⟨ef9, eL9, eQ9⟩, hq, u_5⟩ := hq
      replace hs := hs.trans (spl_e u_5 rfl)
      rw [ef9, eL9, eQ9] at hP; clear ef9 eL9 eQ9
      refine lv_icmp_ge (tgt := 54) hx hb dX12_neverOf_13 (by decide) (fun c => ?_) (fun c => ?_)
      · skip
        have c_6 : r_4.toInt ≤ y5_6.toInt := (by first | exact (bn_le c) | (have z := bn_le c; omega))
        refine lv_iload hx hb dX12_neverOf_54 (lv_at hl 4 rfl) ?_
        exact hret _ _ _ _ (y4_6) fp_6 L Q dX12_neverOf_56 hP hS ⟨⟨hI, hF, rfl, rfl⟩, trivial, (Eq.trans (Eq.symm (hs.trans ((if_neg (Int.not_lt.mpr c_6)).trans rfl))) hsp)⟩
      · skip
        have c_7 : y5_6.toInt < r_4.toInt := (by first | exact (bn_nle c) | (have z := bn_nle c; omega))
        refine lv_iload hx hb dX12_neverOf_16 (lv_at hl 4 rfl) ?_
        refine lv_aload_n hx hb dX12_neverOf_18 rfl (lv_at hl 0 rfl) ?_
        refine lv_iload_n hx hb dX12_neverOf_19 rfl (lv_at hl 1 rfl) ?_
        refine lv_iload hx hb dX12_neverOf_20 (lv_at hl 5 rfl) ?_
        refine sg_calli (va_runV (As := [.int x0, .int y5_6]) (rest := [.int y4_6]) ⟨hx, hb, hml, hown, hts⟩ (kX12_whoSits l D ca za h hh fp_6 L Q hI x0 y5_6 b0 ⟨by omega, by omega⟩ H.size) (sl_c12_whoSits_2_0_0_47_12 hts ⟨Nat.le_of_ble_eq_true rfl, Nat.le_of_ble_eq_true rfl⟩) (sl_vM_0 hA hK hP hS hZ) rfl rfl hl.1 rfl (lv_room (Nat.le_of_ble_eq_true rfl)) dX12_neverOf_22 ⟨Nat.le_refl _, Nat.le_refl _⟩) hA hS (fun r_11 f_8 L_9 Q_10 H locs hq hP hS => ?_)
        obtain ⟨⟨ef9, eL9, eQ9⟩, hq, u_12⟩ := hq
        replace hs := hs.trans ((if_pos c_7).trans (spl_e u_12 rfl))
        rw [ef9, eL9, eQ9] at hP; clear ef9 eL9 eQ9
        refine lv_if_lt (tgt := 44) hx hb dX12_neverOf_25 (by decide) (fun c => ?_) (fun c => ?_)
        · skip
          have c_13 : r_11.toInt < 0 := (by first | exact (cm_lt1 ti_0 c) | (have z := bn_lt c; have k1 : (0 : Int32).toInt = 0 := ti_0; omega))
          refine lv_iconst (v := 0) hx hb dX12_neverOf_44 ic_0 ?_
          refine lv_iadd hx hb dX12_neverOf_45 ?_
          refine W.eq (g2 := F0 m 46 ls [.int y4_6]) (by rw [Int32.add_zero]) ?_
          refine lv_istore (lv' := [(4, .int y4_6), (0, .ref (h 0)), (1, .int x0), (2, .int x1), (3, .int x2), (5, .int y5_6)]) hx hb dX12_neverOf_46 hl (by decide) rfl (fun ls hl => ?_)
          obtain ⟨v_15, ev_15⟩ : ∃ z : Int32, z = y5_6 + 1 := ⟨_, rfl⟩
          have q_16 : v_15.toInt = y5_6.toInt + 1 := by rw [ev_15]; exact (bn_addc y5_6 1 (by decide) (by omega) (by omega))
          refine lv_iinc (v := v_15) (lv' := [(5, .int v_15), (4, .int y4_6), (0, .ref (h 0)), (1, .int x0), (2, .int x1), (3, .int x2)]) hx hb dX12_neverOf_48 hl (k := 5) rfl (by rw [ev_15]; rfl) (by decide) rfl (fun ls hl => ?_)
          refine lv_goto (tgt := 6) hx hb dX12_neverOf_51 (by decide) ?_
          exact ih_6 y4_6 v_15 fp_6 _ _ _ (hs.trans ((if_pos c_13).trans (spl_e ev_15 rfl))) (by omega) ⟨by omega, by omega⟩ hI hF hP hS (lv_sub hl [2, 3, 4, 5, 1, 0] rfl)
        · skip
          have c_14 : 0 ≤ r_11.toInt := (by first | exact (cm_nlt1 ti_0 c) | (have z := bn_nlt c; have k1 : (0 : Int32).toInt = 0 := ti_0; omega))
          refine lv_aload_n hx hb dX12_neverOf_28 rfl (lv_at hl 0 rfl) ?_
          refine lv_aload_n hx hb dX12_neverOf_29 rfl (lv_at hl 0 rfl) ?_
          refine lv_iload_n hx hb dX12_neverOf_30 rfl (lv_at hl 1 rfl) ?_
          refine lv_iload hx hb dX12_neverOf_31 (lv_at hl 5 rfl) ?_
          refine sg_calli (va_runV (As := [.int x0, .int y5_6]) (rest := [.ref (h 0), .int y4_6]) ⟨hx, hb, hml, hown, hts⟩ (kX12_whoSits l D ca za h hh fp_6 L Q hI x0 y5_6 b0 ⟨by omega, by omega⟩ H.size) (sl_c12_whoSits_2_0_0_47_12 hts ⟨Nat.le_of_ble_eq_true rfl, Nat.le_of_ble_eq_true rfl⟩) (sl_vM_0 hA hK hP hS hZ) rfl rfl hl.1 rfl (lv_room (Nat.le_of_ble_eq_true rfl)) dX12_neverOf_33 ⟨Nat.le_refl _, Nat.le_refl _⟩) hA hS (fun r_20 f_17 L_18 Q_19 H locs hq hP hS => ?_)
          obtain ⟨⟨ef9, eL9, eQ9⟩, hq, u_21⟩ := hq
          rw [ef9, eL9, eQ9] at hP; clear ef9 eL9 eQ9
          rw [show r_20 = r_11 from u_21.trans u_12.symm]
          refine lv_iload_n hx hb dX12_neverOf_36 rfl (lv_at hl 2 rfl) ?_
          refine lv_iload_n hx hb dX12_neverOf_37 rfl (lv_at hl 3 rfl) ?_
          refine sg_calli (va_runV (As := [.int r_11, .int x1, .int x2]) (rest := [.int y4_6]) ⟨hx, hb, hml, hown, hts⟩ (kX12_lossOf l D ca za h hh fp_6 L Q hI r_11 x1 x2 ⟨by omega, by omega⟩ b1 b2 H.size) (sl_c12_lossOf_44_0_0_1006_12 hts ⟨Nat.le_of_ble_eq_true rfl, Nat.le_of_ble_eq_true rfl⟩) (sl_vM_0 hA hK hP hS hZ) rfl rfl hl.1 rfl (lv_room (Nat.le_of_ble_eq_true rfl)) dX12_neverOf_38 ⟨Nat.le_refl _, Nat.le_refl _⟩) hA hS (fun r_25 f_22 L_23 Q_24 H locs hq hP hS => ?_)
          obtain ⟨⟨hI, hk_f_22, eL9, eQ9⟩, hq, u_26⟩ := hq
          rw [eL9, eQ9] at hP; clear eL9 eQ9
          have hF : sgK WkX12_neverOf f f_22 := sgK.tr hF hk_f_22 (by decide +kernel)
          refine lv_goto (tgt := 45) hx hb dX12_neverOf_41 (by decide) ?_
          refine lv_iadd hx hb dX12_neverOf_45 ?_
          refine lv_topi (fun v_27 ev_27 => ?_)
          refine lv_istore (lv' := [(4, .int v_27), (0, .ref (h 0)), (1, .int x0), (2, .int x1), (3, .int x2), (5, .int y5_6)]) hx hb dX12_neverOf_46 hl (by decide) rfl (fun ls hl => ?_)
          obtain ⟨v_28, ev_28⟩ : ∃ z : Int32, z = y5_6 + 1 := ⟨_, rfl⟩
          have q_29 : v_28.toInt = y5_6.toInt + 1 := by rw [ev_28]; exact (bn_addc y5_6 1 (by decide) (by omega) (by omega))
          refine lv_iinc (v := v_28) (lv' := [(5, .int v_28), (4, .int v_27), (0, .ref (h 0)), (1, .int x0), (2, .int x1), (3, .int x2)]) hx hb dX12_neverOf_48 hl (k := 5) rfl (by rw [ev_28]; rfl) (by decide) rfl (fun ls hl => ?_)
          refine lv_goto (tgt := 6) hx hb dX12_neverOf_51 (by decide) ?_
          exact ih_6 v_27 v_28 f_22 _ _ _ (hs.trans ((if_neg (Int.not_lt.mpr c_14)).trans (spl2_e u_26 (spl_e ev_27 (spl_e ev_28 rfl))))) (by omega) ⟨by omega, by omega⟩ hI hF hP hS (lv_sub hl [2, 3, 4, 5, 1, 0] rfl)
  refine lv_iconst (v := 0) hx hb dX12_neverOf_0 ic_0 ?_
  refine lv_istore (lv' := [(4, .int 0), (0, .ref (h 0)), (1, .int x0), (2, .int x1), (3, .int x2)]) hx hb dX12_neverOf_1 hl (by decide) rfl (fun ls hl => ?_)
  refine lv_iconst (v := 0) hx hb dX12_neverOf_3 ic_0 ?_
  refine lv_istore (lv' := [(5, .int 0), (4, .int 0), (0, .ref (h 0)), (1, .int x0), (2, .int x1), (3, .int x2)]) hx hb dX12_neverOf_4 hl (by decide) rfl (fun ls hl => ?_)
  exact loop_6 22 0 0 f _ _ _ hs (by have kc0 : (0 : Int32).toInt = 0 := ti_0; have kc1 : (0 : Int32).toInt = 0 := ti_0; omega) (by decide) hI hF hP hS (lv_sub hl [2, 3, 4, 5, 1, 0] rfl)

abbrev WkX12_never : List (Nat × Nat × Option Nat) := [(0, 0, some 12), (0, 0, some 13), (0, 0, some 14), (0, 0, some 15), (0, 0, some 16), (8, 8, none)]
set_option maxHeartbeats 4000000 in
set_option maxRecDepth 100000 in
theorem kX12_never (l : Launch) (D : va_G) (ca : Nat → ClassId) (za h : Nat → Nat) (hh : sgH 26 h) (f : sg_F) (L : sg_L) (Q : sg_Q) (hI : sgI loM hiM f) (x0 : Int32) (x1 : Int32) (x2 : Int32) (sz : Nat) : Met l yX12_never gwX12_never { frames := 46, cells := 0, slots := 0, locals := 1057 } (sgP D vwCl (tyX ca) 26 h (eM ca h) zcM za f L Q sz [.ref (h 0), .int x0, .int x1, .int x2]) (sgQi D vwCl 26 h (eM ca h) sz (fun r f1 L1 Q1 => ((sgI loM hiM f1 ∧ sgK WkX12_never f f1 ∧ L1 = L ∧ Q1 = Q) ∧ True ∧ (r, f1) = sX12_never x0 x1 x2 f L))) 0 0 (sgA 26 h sz) := by
  refine sg_ofWi (cc := cX12_never) (maxL := 4) RX12 (by decide) rfl rfl (Nat.le_of_ble_eq_true rfl) ?_
  intro p e s m below meth cd Qz ls hx hb hml hown hts hK hZ hP hS hl hret
  have hA := sgY.self (n := 26) (h := h) (sz := s.heap.size)
  have hl : lv_has ls 4 [(0, .ref (h 0)), (1, .int x0), (2, .int x1), (3, .int x2)] := hl
  obtain ⟨H, hH⟩ : ∃ z : Heap, z = s.heap := ⟨_, rfl⟩
  obtain ⟨locs, hlo⟩ : ∃ z : List Loc, z = [] := ⟨_, rfl⟩
  have hP : va_P D vwCl (sgw 26 h (eM ca h) f L Q) H := by rw [hH]; exact hP
  have hS : va_S (sgA 26 h s.heap.size) s.heap H locs := by rw [hH, hlo]; exact hS
  suffices hgo : W p l e ({ frames := 46, cells := 0, slots := 0, locals := 1057 }) s m ([.ref (h 0), .int x0, .int x1, .int x2] : List Value).toArray below meth cd H locs 0 0 Qz (F0 m 0 ls []) by rw [hH, hlo] at hgo; exact hgo
  clear hH hlo
  obtain ⟨sp, hsp⟩ : ∃ z : Int32 × sg_F, z = sX12_never x0 x1 x2 f L := ⟨_, rfl⟩
  have hs : sp = sX12_never x0 x1 x2 f L := hsp
  have hF : sgK WkX12_never f f := sgK.rf
  refine lv_aload_n hx hb dX12_never_0 rfl (lv_at hl 0 rfl) ?_
  refine lv_iload_n hx hb dX12_never_1 rfl (lv_at hl 1 rfl) ?_
  refine sg_calli (va_runV (As := [.int x0]) (rest := []) ⟨hx, hb, hml, hown, hts⟩ (kX12_bytesIs l D ca za h hh f L Q hI x0 H.size) (sl_c12_bytesIs_2_0_0_45_12 hts ⟨Nat.le_of_ble_eq_true rfl, Nat.le_of_ble_eq_true rfl⟩) (sl_vM_0 hA hK hP hS hZ) rfl rfl hl.1 rfl (lv_room (Nat.le_of_ble_eq_true rfl)) dX12_never_2 ⟨Nat.le_refl _, Nat.le_refl _⟩) hA hS (fun r_4 f_1 L_2 Q_3 H locs hq hP hS => ?_)
  obtain ⟨⟨ef9, eL9, eQ9⟩, hq, u_5⟩ := hq
  replace hs := hs.trans (spl_e u_5 rfl)
  rw [ef9, eL9, eQ9] at hP; clear ef9 eL9 eQ9
  rcases hq with ⟨rfl, hq⟩ | hq | ⟨rfl, hq⟩
  · skip
    have hc_6 := hq
    refine lv_iconst (v := (-1)) hx hb dX12_never_5 ic_m1 ?_
    refine lv_icmp_eq (tgt := 24) hx hb dX12_never_6 (by decide) (fun c => absurd c (by decide)) (fun c => ?_)
    refine lv_iload_n hx hb dX12_never_9 rfl (lv_at hl 2 rfl) ?_
    refine sg_calli (va_runS (As := [.int x1]) (rest := []) ⟨hx, hb, hml, hown, hts⟩ (kX12_isPart l D ca za h hh f L Q hI x1 H.size) (va_cwS 1 hts (gw_S (fun _ h => List.mem_cons_of_mem _ h) mw_636 mw_637 mw_619 mw_635) rfl rfl rfl hd_yX12_isPart.2 ⟨Nat.le_of_ble_eq_true rfl, Nat.le_of_ble_eq_true rfl⟩) (sg_preS hA hK hP hS hZ) rfl rfl hl.1 rfl (lv_room (Nat.le_of_ble_eq_true rfl)) dX12_never_10 ⟨Nat.le_refl _, Nat.le_refl _⟩) hA hS (fun r_10 f_7 L_8 Q_9 H locs hq hP hS => ?_)
    obtain ⟨⟨ef9, eL9, eQ9⟩, hq, u_11⟩ := hq
    replace hs := hs.trans ((if_pos rfl).trans (spl_e u_11 rfl))
    rw [ef9, eL9, eQ9] at hP; clear ef9 eL9 eQ9
    rcases hq with ⟨rfl, hq⟩ | ⟨rfl, hq⟩
    · skip
      have hc_12 := hq
      refine lv_if_eq (tgt := 24) hx hb dX12_never_13 (by decide) (fun c => absurd c (by decide)) (fun c => ?_)
      refine lv_iload_n hx hb dX12_never_16 rfl (lv_at hl 3 rfl) ?_
      obtain ⟨w_13, ew_13⟩ : ∃ z : Int64, z = Int32.toInt64 x2 := ⟨_, rfl⟩
      have q_14 : w_13.toInt = x2.toInt := by rw [ew_13]; exact Int32.toInt_toInt64 _
      refine lv_i2l (v := w_13) hx hb dX12_never_17 ew_13.symm ?_
      refine sg_calli (va_runS (As := [.long w_13]) (rest := []) ⟨hx, hb, hml, hown, hts⟩ (kX12_isSetting l D ca za h hh f L Q hI w_13 H.size) (va_cwS 1 hts (gw_S (fun _ h => List.mem_cons_of_mem _ h) mw_653 mw_654 mw_619 mw_652) rfl rfl rfl hd_yX12_isSetting.2 ⟨Nat.le_of_ble_eq_true rfl, Nat.le_of_ble_eq_true rfl⟩) (sg_preS hA hK hP hS hZ) rfl rfl hl.1 rfl (lv_room (Nat.le_of_ble_eq_true rfl)) dX12_never_18 ⟨Nat.le_refl _, Nat.le_refl _⟩) hA hS (fun r_18 f_15 L_16 Q_17 H locs hq hP hS => ?_)
      obtain ⟨⟨ef9, eL9, eQ9⟩, hq, u_19⟩ := hq
      replace hs := hs.trans ((if_pos rfl).trans (spl_e ew_13 (spl_e u_19 rfl)))
      rw [ef9, eL9, eQ9] at hP; clear ef9 eL9 eQ9
      rcases hq with ⟨rfl, hq⟩ | ⟨rfl, hq⟩
      · skip
        have hc_20 := hq
        refine lv_if_ne (tgt := 26) hx hb dX12_never_21 (by decide) (fun c => ?_) (fun c => absurd c (by decide))
        refine lv_aload_n hx hb dX12_never_26 rfl (lv_at hl 0 rfl) ?_
        refine lv_iload_n hx hb dX12_never_27 rfl (lv_at hl 1 rfl) ?_
        refine sg_calli (va_runV (As := [.int x0]) (rest := []) ⟨hx, hb, hml, hown, hts⟩ (kX12_bytesIs l D ca za h hh f L Q hI x0 H.size) (sl_c12_bytesIs_2_0_0_45_12 hts ⟨Nat.le_of_ble_eq_true rfl, Nat.le_of_ble_eq_true rfl⟩) (sl_vM_0 hA hK hP hS hZ) rfl rfl hl.1 rfl (lv_room (Nat.le_of_ble_eq_true rfl)) dX12_never_28 ⟨Nat.le_refl _, Nat.le_refl _⟩) hA hS (fun r_24 f_21 L_22 Q_23 H locs hq hP hS => ?_)
        obtain ⟨⟨ef9, eL9, eQ9⟩, hq, u_25⟩ := hq
        rw [ef9, eL9, eQ9] at hP; clear ef9 eL9 eQ9
        rw [show r_24 = 1 from u_25.trans u_5.symm]
        refine lv_if_ge (tgt := 42) hx hb dX12_never_31 (by decide) (fun c => ?_) (fun c => absurd c (by decide))
        refine lv_aload_n hx hb dX12_never_42 rfl (lv_at hl 0 rfl) ?_
        refine lv_iload_n hx hb dX12_never_43 rfl (lv_at hl 1 rfl) ?_
        refine lv_iload_n hx hb dX12_never_44 rfl (lv_at hl 2 rfl) ?_
        refine lv_iload_n hx hb dX12_never_45 rfl (lv_at hl 3 rfl) ?_
        refine sg_calli (va_runV (As := [.int x0, .int x1, .int x2]) (rest := []) ⟨hx, hb, hml, hown, hts⟩ (kX12_neverOf l D ca za h hh f L Q hI x0 x1 x2 ⟨by omega, by omega⟩ ⟨by omega, by omega⟩ ⟨by omega, by omega⟩ H.size) (sl_c12_neverOf_45_0_0_1032_12 hts ⟨Nat.le_of_ble_eq_true rfl, Nat.le_of_ble_eq_true rfl⟩) (sl_vM_0 hA hK hP hS hZ) rfl rfl hl.1 rfl (lv_room (Nat.le_of_ble_eq_true rfl)) dX12_never_46 ⟨Nat.le_refl _, Nat.le_refl _⟩) hA hS (fun r_29 f_26 L_27 Q_28 H locs hq hP hS => ?_)
        obtain ⟨⟨hI, hk_f_26, eL9, eQ9⟩, hq, u_30⟩ := hq
        rw [eL9, eQ9] at hP; clear eL9 eQ9
        have hF : sgK WkX12_never f f_26 := sgK.tr hF hk_f_26 (by decide +kernel)
        exact hret _ _ _ _ (r_29) f_26 L Q dX12_never_49 hP hS ⟨⟨hI, hF, rfl, rfl⟩, trivial, (Eq.trans (Eq.symm (hs.trans ((if_pos rfl).trans (spl2_e u_30 rfl)))) hsp)⟩
      · skip
        have hc_20 := hq
        refine lv_if_ne (tgt := 26) hx hb dX12_never_21 (by decide) (fun c => absurd c (by decide)) (fun c => ?_)
        refine lv_iconst (v := (-1)) hx hb dX12_never_24 ic_m1 ?_
        have k99 : ((-1) : Int32).toInt = (-1) := ti_m1
        exact hret _ _ _ _ (-1) f L Q dX12_never_25 hP hS ⟨⟨hI, hF, rfl, rfl⟩, trivial, (Eq.trans (Eq.symm (hs.trans ((if_neg (by decide)).trans rfl))) hsp)⟩
    · skip
      have hc_12 := hq
      refine lv_if_eq (tgt := 24) hx hb dX12_never_13 (by decide) (fun c => ?_) (fun c => absurd c (by decide))
      refine lv_iconst (v := (-1)) hx hb dX12_never_24 ic_m1 ?_
      have k99 : ((-1) : Int32).toInt = (-1) := ti_m1
      exact hret _ _ _ _ (-1) f L Q dX12_never_25 hP hS ⟨⟨hI, hF, rfl, rfl⟩, trivial, (Eq.trans (Eq.symm (hs.trans ((if_neg (by decide)).trans rfl))) hsp)⟩
  · skip
    have hc_6 := hq
    refine lv_iconst (v := (-1)) hx hb dX12_never_5 ic_m1 ?_
    refine lv_icmp_eq (tgt := 24) hx hb dX12_never_6 (by decide) (fun c => ?_) (fun c => ?_)
    · skip
      exfalso; have c_31 : r_4.toInt = (-1) := (by first | exact (cm_eq1 ti_m1 c) | (have z := Int32.toInt_inj.mpr c; have k1 : ((-1) : Int32).toInt = (-1) := ti_m1; omega)); first | exact absurd c_31 (by assumption) | omega
    · skip
      have c_32 : r_4.toInt ≠ (-1) := (by first | exact (cm_ne1 ti_m1 c) | (have z := bn_ne c; have k1 : ((-1) : Int32).toInt = (-1) := ti_m1; omega))
      refine lv_iload_n hx hb dX12_never_9 rfl (lv_at hl 2 rfl) ?_
      refine sg_calli (va_runS (As := [.int x1]) (rest := []) ⟨hx, hb, hml, hown, hts⟩ (kX12_isPart l D ca za h hh f L Q hI x1 H.size) (va_cwS 1 hts (gw_S (fun _ h => List.mem_cons_of_mem _ h) mw_636 mw_637 mw_619 mw_635) rfl rfl rfl hd_yX12_isPart.2 ⟨Nat.le_of_ble_eq_true rfl, Nat.le_of_ble_eq_true rfl⟩) (sg_preS hA hK hP hS hZ) rfl rfl hl.1 rfl (lv_room (Nat.le_of_ble_eq_true rfl)) dX12_never_10 ⟨Nat.le_refl _, Nat.le_refl _⟩) hA hS (fun r_36 f_33 L_34 Q_35 H locs hq hP hS => ?_)
      obtain ⟨⟨ef9, eL9, eQ9⟩, hq, u_37⟩ := hq
      rw [ef9, eL9, eQ9] at hP; clear ef9 eL9 eQ9
      rcases hq with ⟨rfl, hq⟩ | ⟨rfl, hq⟩
      · skip
        have hc_38 := hq
        refine lv_if_eq (tgt := 24) hx hb dX12_never_13 (by decide) (fun c => absurd c (by decide)) (fun c => ?_)
        refine lv_iload_n hx hb dX12_never_16 rfl (lv_at hl 3 rfl) ?_
        obtain ⟨w_39, ew_39⟩ : ∃ z : Int64, z = Int32.toInt64 x2 := ⟨_, rfl⟩
        have q_40 : w_39.toInt = x2.toInt := by rw [ew_39]; exact Int32.toInt_toInt64 _
        refine lv_i2l (v := w_39) hx hb dX12_never_17 ew_39.symm ?_
        refine sg_calli (va_runS (As := [.long w_39]) (rest := []) ⟨hx, hb, hml, hown, hts⟩ (kX12_isSetting l D ca za h hh f L Q hI w_39 H.size) (va_cwS 1 hts (gw_S (fun _ h => List.mem_cons_of_mem _ h) mw_653 mw_654 mw_619 mw_652) rfl rfl rfl hd_yX12_isSetting.2 ⟨Nat.le_of_ble_eq_true rfl, Nat.le_of_ble_eq_true rfl⟩) (sg_preS hA hK hP hS hZ) rfl rfl hl.1 rfl (lv_room (Nat.le_of_ble_eq_true rfl)) dX12_never_18 ⟨Nat.le_refl _, Nat.le_refl _⟩) hA hS (fun r_44 f_41 L_42 Q_43 H locs hq hP hS => ?_)
        obtain ⟨⟨ef9, eL9, eQ9⟩, hq, u_45⟩ := hq
        rw [ef9, eL9, eQ9] at hP; clear ef9 eL9 eQ9
        rcases hq with ⟨rfl, hq⟩ | ⟨rfl, hq⟩
        · skip
          have hc_46 := hq
          refine lv_if_ne (tgt := 26) hx hb dX12_never_21 (by decide) (fun c => ?_) (fun c => absurd c (by decide))
          refine lv_aload_n hx hb dX12_never_26 rfl (lv_at hl 0 rfl) ?_
          refine lv_iload_n hx hb dX12_never_27 rfl (lv_at hl 1 rfl) ?_
          refine sg_calli (va_runV (As := [.int x0]) (rest := []) ⟨hx, hb, hml, hown, hts⟩ (kX12_bytesIs l D ca za h hh f L Q hI x0 H.size) (sl_c12_bytesIs_2_0_0_45_12 hts ⟨Nat.le_of_ble_eq_true rfl, Nat.le_of_ble_eq_true rfl⟩) (sl_vM_0 hA hK hP hS hZ) rfl rfl hl.1 rfl (lv_room (Nat.le_of_ble_eq_true rfl)) dX12_never_28 ⟨Nat.le_refl _, Nat.le_refl _⟩) hA hS (fun r_50 f_47 L_48 Q_49 H locs hq hP hS => ?_)
          obtain ⟨⟨ef9, eL9, eQ9⟩, hq, u_51⟩ := hq
          rw [ef9, eL9, eQ9] at hP; clear ef9 eL9 eQ9
          rw [show r_50 = r_4 from u_51.trans u_5.symm]
          refine lv_if_ge (tgt := 42) hx hb dX12_never_31 (by decide) (fun c => ?_) (fun c => ?_)
          · skip
            exfalso; have c_52 : 0 ≤ r_4.toInt := (by first | exact (cm_le0 ti_0 c) | (have z := bn_le c; have k1 : (0 : Int32).toInt = 0 := ti_0; omega)); omega
          · skip
            have c_53 : r_4.toInt < 0 := (by first | exact (cm_nle0 ti_0 c) | (have z := bn_nle c; have k1 : (0 : Int32).toInt = 0 := ti_0; omega))
            refine lv_aload_n hx hb dX12_never_34 rfl (lv_at hl 0 rfl) ?_
            refine lv_iload_n hx hb dX12_never_35 rfl (lv_at hl 1 rfl) ?_
            refine sg_calli (va_runV (As := [.int x0]) (rest := []) ⟨hx, hb, hml, hown, hts⟩ (kX12_bytesIs l D ca za h hh f L Q hI x0 H.size) (sl_c12_bytesIs_2_0_0_45_12 hts ⟨Nat.le_of_ble_eq_true rfl, Nat.le_of_ble_eq_true rfl⟩) (sl_vM_0 hA hK hP hS hZ) rfl rfl hl.1 rfl (lv_room (Nat.le_of_ble_eq_true rfl)) dX12_never_36 ⟨Nat.le_refl _, Nat.le_refl _⟩) hA hS (fun r_57 f_54 L_55 Q_56 H locs hq hP hS => ?_)
            obtain ⟨⟨ef9, eL9, eQ9⟩, hq, u_58⟩ := hq
            rw [ef9, eL9, eQ9] at hP; clear ef9 eL9 eQ9
            rw [show r_57 = r_4 from u_58.trans u_5.symm]
            refine lv_goto (tgt := 49) hx hb dX12_never_39 (by decide) ?_
            exact hret _ _ _ _ (r_4) f L Q dX12_never_49 hP hS ⟨⟨hI, hF, rfl, rfl⟩, trivial, (Eq.trans (Eq.symm (hs.trans ((if_neg (fun z9 => by have k9 : (1 : Int32).toInt = 1 := ti_1; have h9 := hc_6; rw [z9] at h9; omega)).trans ((if_neg (fun z9 => by have k9 : ((-1) : Int32).toInt = (-1) := ti_m1; have h9 := hc_6; rw [z9] at h9; omega)).trans (spl_e u_37 ((if_pos rfl).trans (spl_e ew_39 (spl_e u_45 ((if_pos rfl).trans rfl))))))))) hsp)⟩
        · skip
          have hc_46 := hq
          refine lv_if_ne (tgt := 26) hx hb dX12_never_21 (by decide) (fun c => absurd c (by decide)) (fun c => ?_)
          refine lv_iconst (v := (-1)) hx hb dX12_never_24 ic_m1 ?_
          have k99 : ((-1) : Int32).toInt = (-1) := ti_m1
          exact hret _ _ _ _ (-1) f L Q dX12_never_25 hP hS ⟨⟨hI, hF, rfl, rfl⟩, trivial, (Eq.trans (Eq.symm (hs.trans ((if_neg (fun z9 => by have k9 : (1 : Int32).toInt = 1 := ti_1; have h9 := hc_6; rw [z9] at h9; omega)).trans ((if_neg (fun z9 => by have k9 : ((-1) : Int32).toInt = (-1) := ti_m1; have h9 := hc_6; rw [z9] at h9; omega)).trans (spl_e u_37 ((if_pos rfl).trans (spl_e ew_39 (spl_e u_45 ((if_neg (by decide)).trans rfl))))))))) hsp)⟩
      · skip
        have hc_38 := hq
        refine lv_if_eq (tgt := 24) hx hb dX12_never_13 (by decide) (fun c => ?_) (fun c => absurd c (by decide))
        refine lv_iconst (v := (-1)) hx hb dX12_never_24 ic_m1 ?_
        have k99 : ((-1) : Int32).toInt = (-1) := ti_m1
        exact hret _ _ _ _ (-1) f L Q dX12_never_25 hP hS ⟨⟨hI, hF, rfl, rfl⟩, trivial, (Eq.trans (Eq.symm (hs.trans ((if_neg (fun z9 => by have k9 : (1 : Int32).toInt = 1 := ti_1; have h9 := hc_6; rw [z9] at h9; omega)).trans ((if_neg (fun z9 => by have k9 : ((-1) : Int32).toInt = (-1) := ti_m1; have h9 := hc_6; rw [z9] at h9; omega)).trans (spl_e u_37 ((if_neg (by decide)).trans rfl)))))) hsp)⟩
  · skip
    have hc_6 := hq
    refine lv_iconst (v := (-1)) hx hb dX12_never_5 ic_m1 ?_
    refine lv_icmp_eq (tgt := 24) hx hb dX12_never_6 (by decide) (fun c => ?_) (fun c => absurd c (by decide))
    refine lv_iconst (v := (-1)) hx hb dX12_never_24 ic_m1 ?_
    have k99 : ((-1) : Int32).toInt = (-1) := ti_m1
    exact hret _ _ _ _ (-1) f L Q dX12_never_25 hP hS ⟨⟨hI, hF, rfl, rfl⟩, trivial, (Eq.trans (Eq.symm (hs.trans ((if_neg (by decide)).trans ((if_pos rfl).trans rfl)))) hsp)⟩

set_option maxHeartbeats 4000000 in
set_option maxRecDepth 100000 in
theorem kX12_anySits (l : Launch) (D : va_G) (ca : Nat → ClassId) (za h : Nat → Nat) (hh : sgH 26 h) (f : sg_F) (L : sg_L) (Q : sg_Q) (hI : sgI loM hiM f) (x0 : Int32) (b0 : 0 ≤ x0.toInt ∧ x0.toInt ≤ 5) (sz : Nat) : Met l yX12_anySits gwX12_anySits { frames := 3, cells := 0, slots := 0, locals := 71 } (sgP D vwCl (tyX ca) 26 h (eM ca h) zcM za f L Q sz [.ref (h 0), .int x0]) (sgQi D vwCl 26 h (eM ca h) sz (fun r f1 L1 Q1 => ((f1 = f ∧ L1 = L ∧ Q1 = Q) ∧ (0 ≤ r.toInt ∧ r.toInt ≤ 1) ∧ (r) = sX12_anySits x0 f L))) 0 0 (sgA 26 h sz) := by
  refine sg_ofWz (cc := cX12_anySits) (maxL := 3) RX12 (by decide) rfl rfl (Nat.le_of_ble_eq_true rfl) ?_
  intro p e s m below meth cd Qz ls hx hb hml hown hts hK hZ hP hS hl hret
  have hA := sgY.self (n := 26) (h := h) (sz := s.heap.size)
  have hl : lv_has ls 3 [(0, .ref (h 0)), (1, .int x0)] := hl
  obtain ⟨H, hH⟩ : ∃ z : Heap, z = s.heap := ⟨_, rfl⟩
  obtain ⟨locs, hlo⟩ : ∃ z : List Loc, z = [] := ⟨_, rfl⟩
  have hP : va_P D vwCl (sgw 26 h (eM ca h) f L Q) H := by rw [hH]; exact hP
  have hS : va_S (sgA 26 h s.heap.size) s.heap H locs := by rw [hH, hlo]; exact hS
  suffices hgo : W p l e ({ frames := 3, cells := 0, slots := 0, locals := 71 }) s m ([.ref (h 0), .int x0] : List Value).toArray below meth cd H locs 0 0 Qz (F0 m 0 ls []) by rw [hH, hlo] at hgo; exact hgo
  clear hH hlo
  obtain ⟨sp, hsp⟩ : ∃ z : Int32, z = sX12_anySits x0 f L := ⟨_, rfl⟩
  have hs : sp = sX12_anySits x0 f L := hsp
  have loop_2 : ∀ (n_2 : Nat) (y2_2 : Int32) (H : Heap) (locs : List Loc) (ls : Array Slot), sp = sX12_anySits_l2 x0 n_2 y2_2 f L → 21 - y2_2.toInt < (n_2 : Int) → 0 ≤ y2_2.toInt ∧ y2_2.toInt ≤ 21 → va_P D vwCl (sgw 26 h (eM ca h) f L Q) H → va_S (sgA 26 h s.heap.size) s.heap H locs → lv_has ls 3 [(0, .ref (h 0)), (1, .int x0), (2, .int y2_2)] → W p l e ({ frames := 3, cells := 0, slots := 0, locals := 71 }) s m ([.ref (h 0), .int x0] : List Value).toArray below meth cd H locs 0 0 Qz (F0 m 2 ls []) := by
    intro n_2
    induction n_2 with
    | zero => intro y2_2 H locs ls hs hm_2 hy0_2 hP hS hl; exact absurd hm_2 (by omega)
    | succ n_2 ih_2 =>
      intro y2_2 H locs ls hs hm_2 hy0_2 hP hS hl
      have hs : sp = sX12_anySits_h2 x0 (sX12_anySits_l2 x0 n_2) y2_2 f L := hs
      refine lv_iload_n hx hb dX12_anySits_2 rfl (lv_at hl 2 rfl) ?_
      refine lv_aload_n hx hb dX12_anySits_3 rfl (lv_at hl 0 rfl) ?_
      refine lv_iload_n hx hb dX12_anySits_4 rfl (lv_at hl 1 rfl) ?_
      refine sg_calli (va_runV (As := [.int x0]) (rest := [.int y2_2]) ⟨hx, hb, hml, hown, hts⟩ (kX12_shiftsOf l D ca za h hh f L Q hI x0 b0 H.size) (sl_c12_shiftsOf_0_0_0_0_12 hts ⟨Nat.le_of_ble_eq_true rfl, Nat.le_of_ble_eq_true rfl⟩) (sl_vM_0 hA hK hP hS hZ) rfl rfl hl.1 rfl (lv_room (Nat.le_of_ble_eq_true rfl)) dX12_anySits_5 ⟨Nat.le_refl _, Nat.le_refl _⟩) hA hS (fun r_4 f_1 L_2 Q_3 H locs hq hP hS => ?_)
      obtain ⟨⟨ef9, eL9, eQ9⟩, hq, u_5⟩ := hq
      replace hs := hs.trans (spl_e u_5 rfl)
      rw [ef9, eL9, eQ9] at hP; clear ef9 eL9 eQ9
      refine lv_icmp_ge (tgt := 28) hx hb dX12_anySits_8 (by decide) (fun c => ?_) (fun c => ?_)
      · skip
        have c_6 : r_4.toInt ≤ y2_2.toInt := (by first | exact (bn_le c) | (have z := bn_le c; omega))
        refine lv_iconst (v := 0) hx hb dX12_anySits_28 ic_0 ?_
        have k99 : (0 : Int32).toInt = 0 := ti_0
        exact hret _ _ _ _ (0) f L Q dX12_anySits_29 (by decide) hP hS ⟨⟨rfl, rfl, rfl⟩, (by decide), (Eq.trans (Eq.symm (hs.trans ((if_neg (Int.not_lt.mpr c_6)).trans rfl))) hsp)⟩
      · skip
        have c_7 : y2_2.toInt < r_4.toInt := (by first | exact (bn_nle c) | (have z := bn_nle c; omega))
        refine lv_aload_n hx hb dX12_anySits_11 rfl (lv_at hl 0 rfl) ?_
        refine lv_iload_n hx hb dX12_anySits_12 rfl (lv_at hl 1 rfl) ?_
        refine lv_iload_n hx hb dX12_anySits_13 rfl (lv_at hl 2 rfl) ?_
        refine sg_calli (va_runV (As := [.int x0, .int y2_2]) (rest := []) ⟨hx, hb, hml, hown, hts⟩ (kX12_whoSits l D ca za h hh f L Q hI x0 y2_2 b0 ⟨by omega, by omega⟩ H.size) (sl_c12_whoSits_2_0_0_47_12 hts ⟨Nat.le_of_ble_eq_true rfl, Nat.le_of_ble_eq_true rfl⟩) (sl_vM_0 hA hK hP hS hZ) rfl rfl hl.1 rfl (lv_room (Nat.le_of_ble_eq_true rfl)) dX12_anySits_14 ⟨Nat.le_refl _, Nat.le_refl _⟩) hA hS (fun r_11 f_8 L_9 Q_10 H locs hq hP hS => ?_)
        obtain ⟨⟨ef9, eL9, eQ9⟩, hq, u_12⟩ := hq
        replace hs := hs.trans ((if_pos c_7).trans (spl_e u_12 rfl))
        rw [ef9, eL9, eQ9] at hP; clear ef9 eL9 eQ9
        refine lv_if_lt (tgt := 22) hx hb dX12_anySits_17 (by decide) (fun c => ?_) (fun c => ?_)
        · skip
          have c_13 : r_11.toInt < 0 := (by first | exact (cm_lt1 ti_0 c) | (have z := bn_lt c; have k1 : (0 : Int32).toInt = 0 := ti_0; omega))
          obtain ⟨v_15, ev_15⟩ : ∃ z : Int32, z = y2_2 + 1 := ⟨_, rfl⟩
          have q_16 : v_15.toInt = y2_2.toInt + 1 := by rw [ev_15]; exact (bn_addc y2_2 1 (by decide) (by omega) (by omega))
          refine lv_iinc (v := v_15) (lv' := [(2, .int v_15), (0, .ref (h 0)), (1, .int x0)]) hx hb dX12_anySits_22 hl (k := 2) rfl (by rw [ev_15]; rfl) (by decide) rfl (fun ls hl => ?_)
          refine lv_goto (tgt := 2) hx hb dX12_anySits_25 (by decide) ?_
          exact ih_2 v_15 _ _ _ (hs.trans ((if_pos c_13).trans (spl_e ev_15 rfl))) (by omega) ⟨by omega, by omega⟩ hP hS (lv_sub hl [1, 2, 0] rfl)
        · skip
          have c_14 : 0 ≤ r_11.toInt := (by first | exact (cm_nlt1 ti_0 c) | (have z := bn_nlt c; have k1 : (0 : Int32).toInt = 0 := ti_0; omega))
          refine lv_iconst (v := 1) hx hb dX12_anySits_20 ic_1 ?_
          have k99 : (1 : Int32).toInt = 1 := ti_1
          exact hret _ _ _ _ (1) f L Q dX12_anySits_21 (by decide) hP hS ⟨⟨rfl, rfl, rfl⟩, (by decide), (Eq.trans (Eq.symm (hs.trans ((if_neg (Int.not_lt.mpr c_14)).trans rfl))) hsp)⟩
  refine lv_iconst (v := 0) hx hb dX12_anySits_0 ic_0 ?_
  refine lv_istore_n (lv' := [(2, .int 0), (0, .ref (h 0)), (1, .int x0)]) hx hb dX12_anySits_1 rfl hl (by decide) rfl (fun ls hl => ?_)
  exact loop_2 22 0 _ _ _ hs (by have kc0 : (0 : Int32).toInt = 0 := ti_0; omega) (by decide) hP hS (lv_sub hl [1, 2, 0] rfl)

abbrev WkX12_worstOf : List (Nat × Nat × Option Nat) := [(0, 0, some 12), (0, 0, some 13), (0, 0, some 14), (0, 0, some 15), (0, 0, some 16), (8, 8, none)]
set_option maxHeartbeats 4000000 in
set_option maxRecDepth 100000 in
theorem kX12_worstOf (l : Launch) (D : va_G) (ca : Nat → ClassId) (za h : Nat → Nat) (hh : sgH 26 h) (f : sg_F) (L : sg_L) (Q : sg_Q) (hI : sgI loM hiM f) (x0 : Int32) (x1 : Int32) (x2 : Int32) (b0 : 0 ≤ x0.toInt ∧ x0.toInt ≤ 5) (b1 : 0 ≤ x1.toInt ∧ x1.toInt ≤ 2) (b2 : 0 ≤ x2.toInt ∧ x2.toInt ≤ 60) (sz : Nat) : Met l yX12_worstOf gwX12_worstOf { frames := 45, cells := 0, slots := 0, locals := 1032 } (sgP D vwCl (tyX ca) 26 h (eM ca h) zcM za f L Q sz [.ref (h 0), .int x0, .int x1, .int x2]) (sgQi D vwCl 26 h (eM ca h) sz (fun r f1 L1 Q1 => ((sgI loM hiM f1 ∧ sgK WkX12_worstOf f f1 ∧ L1 = L ∧ Q1 = Q) ∧ (0 ≤ r.toInt) ∧ (r, f1) = sX12_worstOf x0 x1 x2 f L))) 0 0 (sgA 26 h sz) := by
  refine sg_ofWi (cc := cX12_worstOf) (maxL := 7) RX12 (by decide) rfl rfl (Nat.le_of_ble_eq_true rfl) ?_
  intro p e s m below meth cd Qz ls hx hb hml hown hts hK hZ hP hS hl hret
  have hA := sgY.self (n := 26) (h := h) (sz := s.heap.size)
  have hl : lv_has ls 7 [(0, .ref (h 0)), (1, .int x0), (2, .int x1), (3, .int x2)] := hl
  obtain ⟨H, hH⟩ : ∃ z : Heap, z = s.heap := ⟨_, rfl⟩
  obtain ⟨locs, hlo⟩ : ∃ z : List Loc, z = [] := ⟨_, rfl⟩
  have hP : va_P D vwCl (sgw 26 h (eM ca h) f L Q) H := by rw [hH]; exact hP
  have hS : va_S (sgA 26 h s.heap.size) s.heap H locs := by rw [hH, hlo]; exact hS
  suffices hgo : W p l e ({ frames := 45, cells := 0, slots := 0, locals := 1032 }) s m ([.ref (h 0), .int x0, .int x1, .int x2] : List Value).toArray below meth cd H locs 0 0 Qz (F0 m 0 ls []) by rw [hH, hlo] at hgo; exact hgo
  clear hH hlo
  obtain ⟨sp, hsp⟩ : ∃ z : Int32 × sg_F, z = sX12_worstOf x0 x1 x2 f L := ⟨_, rfl⟩
  have hs : sp = sX12_worstOf x0 x1 x2 f L := hsp
  have hF : sgK WkX12_worstOf f f := sgK.rf
  have loop_6 : ∀ (n_6 : Nat) (y4_6 : Int32) (y5_6 : Int32) (fp_6 : sg_F) (H : Heap) (locs : List Loc) (ls : Array Slot), sp = sX12_worstOf_l6 x0 x1 x2 n_6 y4_6 y5_6 fp_6 L → 21 - y5_6.toInt < (n_6 : Int) → 0 ≤ y4_6.toInt → 0 ≤ y5_6.toInt ∧ y5_6.toInt ≤ 21 → sgI loM hiM fp_6 → sgK WkX12_worstOf f fp_6 → va_P D vwCl (sgw 26 h (eM ca h) fp_6 L Q) H → va_S (sgA 26 h s.heap.size) s.heap H locs → lv_has ls 7 [(0, .ref (h 0)), (1, .int x0), (2, .int x1), (3, .int x2), (4, .int y4_6), (5, .int y5_6)] → W p l e ({ frames := 45, cells := 0, slots := 0, locals := 1032 }) s m ([.ref (h 0), .int x0, .int x1, .int x2] : List Value).toArray below meth cd H locs 0 0 Qz (F0 m 6 ls []) := by
    intro n_6
    induction n_6 with
    | zero => intro y4_6 y5_6 fp_6 H locs ls hs hm_6 hy0_6 hy1_6 hI hF hP hS hl; exact absurd hm_6 (by omega)
    | succ n_6 ih_6 =>
      intro y4_6 y5_6 fp_6 H locs ls hs hm_6 hy0_6 hy1_6 hI hF hP hS hl
      have hs : sp = sX12_worstOf_h6 x0 x1 x2 (sX12_worstOf_l6 x0 x1 x2 n_6) y4_6 y5_6 fp_6 L := hs
      refine lv_iload hx hb dX12_worstOf_6 (lv_at hl 5 rfl) ?_
      refine lv_aload_n hx hb dX12_worstOf_8 rfl (lv_at hl 0 rfl) ?_
      refine lv_iload_n hx hb dX12_worstOf_9 rfl (lv_at hl 1 rfl) ?_
      refine sg_calli (va_runV (As := [.int x0]) (rest := [.int y5_6]) ⟨hx, hb, hml, hown, hts⟩ (kX12_shiftsOf l D ca za h hh fp_6 L Q hI x0 b0 H.size) (sl_c12_shiftsOf_0_0_0_0_12 hts ⟨Nat.le_of_ble_eq_true rfl, Nat.le_of_ble_eq_true rfl⟩) (sl_vM_0 hA hK hP hS hZ) rfl rfl hl.1 rfl (lv_room (Nat.le_of_ble_eq_true rfl)) dX12_worstOf_10 ⟨Nat.le_refl _, Nat.le_refl _⟩) hA hS (fun r_4 f_1 L_2 Q_3 H locs hq hP hS => ?_)
      obtain ⟨⟨ef9, eL9, eQ9⟩, hq, u_5⟩ := hq
      replace hs := hs.trans (spl_e u_5 rfl)
      rw [ef9, eL9, eQ9] at hP; clear ef9 eL9 eQ9
      refine lv_icmp_ge (tgt := 67) hx hb dX12_worstOf_13 (by decide) (fun c => ?_) (fun c => ?_)
      · skip
        have c_6 : r_4.toInt ≤ y5_6.toInt := (by first | exact (bn_le c) | (have z := bn_le c; omega))
        refine lv_iload hx hb dX12_worstOf_67 (lv_at hl 4 rfl) ?_
        exact hret _ _ _ _ (y4_6) fp_6 L Q dX12_worstOf_69 hP hS ⟨⟨hI, hF, rfl, rfl⟩, (by omega), (Eq.trans (Eq.symm (hs.trans ((if_neg (Int.not_lt.mpr c_6)).trans rfl))) hsp)⟩
      · skip
        have c_7 : y5_6.toInt < r_4.toInt := (by first | exact (bn_nle c) | (have z := bn_nle c; omega))
        refine lv_aload_n hx hb dX12_worstOf_16 rfl (lv_at hl 0 rfl) ?_
        refine lv_iload_n hx hb dX12_worstOf_17 rfl (lv_at hl 1 rfl) ?_
        refine lv_iload hx hb dX12_worstOf_18 (lv_at hl 5 rfl) ?_
        refine sg_calli (va_runV (As := [.int x0, .int y5_6]) (rest := []) ⟨hx, hb, hml, hown, hts⟩ (kX12_whoSits l D ca za h hh fp_6 L Q hI x0 y5_6 b0 ⟨by omega, by omega⟩ H.size) (sl_c12_whoSits_2_0_0_47_12 hts ⟨Nat.le_of_ble_eq_true rfl, Nat.le_of_ble_eq_true rfl⟩) (sl_vM_0 hA hK hP hS hZ) rfl rfl hl.1 rfl (lv_room (Nat.le_of_ble_eq_true rfl)) dX12_worstOf_20 ⟨Nat.le_refl _, Nat.le_refl _⟩) hA hS (fun r_11 f_8 L_9 Q_10 H locs hq hP hS => ?_)
        obtain ⟨⟨ef9, eL9, eQ9⟩, hq, u_12⟩ := hq
        replace hs := hs.trans ((if_pos c_7).trans (spl_e u_12 rfl))
        rw [ef9, eL9, eQ9] at hP; clear ef9 eL9 eQ9
        refine lv_if_lt (tgt := 42) hx hb dX12_worstOf_23 (by decide) (fun c => ?_) (fun c => ?_)
        · skip
          have c_13 : r_11.toInt < 0 := (by first | exact (cm_lt1 ti_0 c) | (have z := bn_lt c; have k1 : (0 : Int32).toInt = 0 := ti_0; omega))
          refine lv_iconst (v := 0) hx hb dX12_worstOf_42 ic_0 ?_
          refine lv_istore (lv' := [(6, .int 0), (0, .ref (h 0)), (1, .int x0), (2, .int x1), (3, .int x2), (4, .int y4_6), (5, .int y5_6)]) hx hb dX12_worstOf_43 hl (by decide) rfl (fun ls hl => ?_)
          refine lv_iload hx hb dX12_worstOf_45 (lv_at hl 0 rfl) ?_
          refine lv_iload hx hb dX12_worstOf_47 (lv_at hl 5 rfl) ?_
          refine lv_icmp_le (tgt := 57) hx hb dX12_worstOf_49 (by decide) (fun c => ?_) (fun c => ?_)
          · skip
            have c_15 : 0 ≤ y4_6.toInt := (by first | exact (cm_le0 ti_0 c) | (have z := bn_le c; have k0 : (0 : Int32).toInt = 0 := ti_0; omega))
            refine lv_iload hx hb dX12_worstOf_57 (lv_at hl 5 rfl) ?_
            refine lv_istore (lv' := [(4, .int y4_6), (6, .int 0), (0, .ref (h 0)), (1, .int x0), (2, .int x1), (3, .int x2), (5, .int y5_6)]) hx hb dX12_worstOf_59 hl (by decide) rfl (fun ls hl => ?_)
            obtain ⟨v_17, ev_17⟩ : ∃ z : Int32, z = y5_6 + 1 := ⟨_, rfl⟩
            have q_18 : v_17.toInt = y5_6.toInt + 1 := by rw [ev_17]; exact (bn_addc y5_6 1 (by decide) (by omega) (by omega))
            refine lv_iinc (v := v_17) (lv' := [(5, .int v_17), (4, .int y4_6), (6, .int 0), (0, .ref (h 0)), (1, .int x0), (2, .int x1), (3, .int x2)]) hx hb dX12_worstOf_61 hl (k := 6) rfl (by rw [ev_17]; rfl) (by decide) rfl (fun ls hl => ?_)
            refine lv_goto (tgt := 6) hx hb dX12_worstOf_64 (by decide) ?_
            exact ih_6 y4_6 v_17 fp_6 _ _ _ (hs.trans ((if_pos c_13).trans (spl_e ev_17 rfl))) (by omega) c_15 ⟨by omega, by omega⟩ hI hF hP hS (lv_sub hl [3, 4, 5, 6, 1, 0] rfl)
          · skip
            exfalso; have c_16 : y4_6.toInt < 0 := (by first | exact (cm_nle0 ti_0 c) | (have z := bn_nle c; have k0 : (0 : Int32).toInt = 0 := ti_0; omega)); omega
        · skip
          have c_14 : 0 ≤ r_11.toInt := (by first | exact (cm_nlt1 ti_0 c) | (have z := bn_nlt c; have k1 : (0 : Int32).toInt = 0 := ti_0; omega))
          refine lv_aload_n hx hb dX12_worstOf_26 rfl (lv_at hl 0 rfl) ?_
          refine lv_aload_n hx hb dX12_worstOf_27 rfl (lv_at hl 0 rfl) ?_
          refine lv_iload_n hx hb dX12_worstOf_28 rfl (lv_at hl 1 rfl) ?_
          refine lv_iload hx hb dX12_worstOf_29 (lv_at hl 5 rfl) ?_
          refine sg_calli (va_runV (As := [.int x0, .int y5_6]) (rest := [.ref (h 0)]) ⟨hx, hb, hml, hown, hts⟩ (kX12_whoSits l D ca za h hh fp_6 L Q hI x0 y5_6 b0 ⟨by omega, by omega⟩ H.size) (sl_c12_whoSits_2_0_0_47_12 hts ⟨Nat.le_of_ble_eq_true rfl, Nat.le_of_ble_eq_true rfl⟩) (sl_vM_0 hA hK hP hS hZ) rfl rfl hl.1 rfl (lv_room (Nat.le_of_ble_eq_true rfl)) dX12_worstOf_31 ⟨Nat.le_refl _, Nat.le_refl _⟩) hA hS (fun r_22 f_19 L_20 Q_21 H locs hq hP hS => ?_)
          obtain ⟨⟨ef9, eL9, eQ9⟩, hq, u_23⟩ := hq
          rw [ef9, eL9, eQ9] at hP; clear ef9 eL9 eQ9
          rw [show r_22 = r_11 from u_23.trans u_12.symm]
          refine lv_iload_n hx hb dX12_worstOf_34 rfl (lv_at hl 2 rfl) ?_
          refine lv_iload_n hx hb dX12_worstOf_35 rfl (lv_at hl 3 rfl) ?_
          refine sg_calli (va_runV (As := [.int r_11, .int x1, .int x2]) (rest := []) ⟨hx, hb, hml, hown, hts⟩ (kX12_lossOf l D ca za h hh fp_6 L Q hI r_11 x1 x2 ⟨by omega, by omega⟩ b1 b2 H.size) (sl_c12_lossOf_44_0_0_1006_12 hts ⟨Nat.le_of_ble_eq_true rfl, Nat.le_of_ble_eq_true rfl⟩) (sl_vM_0 hA hK hP hS hZ) rfl rfl hl.1 rfl (lv_room (Nat.le_of_ble_eq_true rfl)) dX12_worstOf_36 ⟨Nat.le_refl _, Nat.le_refl _⟩) hA hS (fun r_27 f_24 L_25 Q_26 H locs hq hP hS => ?_)
          obtain ⟨⟨hI, hk_f_24, eL9, eQ9⟩, hq, u_28⟩ := hq
          replace hs := hs.trans ((if_neg (Int.not_lt.mpr c_14)).trans (spl2_e u_28 rfl))
          rw [eL9, eQ9] at hP; clear eL9 eQ9
          have hF : sgK WkX12_worstOf f f_24 := sgK.tr hF hk_f_24 (by decide +kernel)
          refine lv_goto (tgt := 43) hx hb dX12_worstOf_39 (by decide) ?_
          refine lv_istore (lv' := [(6, .int r_27), (0, .ref (h 0)), (1, .int x0), (2, .int x1), (3, .int x2), (4, .int y4_6), (5, .int y5_6)]) hx hb dX12_worstOf_43 hl (by decide) rfl (fun ls hl => ?_)
          refine lv_iload hx hb dX12_worstOf_45 (lv_at hl 0 rfl) ?_
          refine lv_iload hx hb dX12_worstOf_47 (lv_at hl 5 rfl) ?_
          refine lv_icmp_le (tgt := 57) hx hb dX12_worstOf_49 (by decide) (fun c => ?_) (fun c => ?_)
          · skip
            have c_29 : r_27.toInt ≤ y4_6.toInt := (by first | exact (bn_le c) | (have z := bn_le c; omega))
            refine lv_iload hx hb dX12_worstOf_57 (lv_at hl 5 rfl) ?_
            refine lv_istore (lv' := [(4, .int y4_6), (6, .int r_27), (0, .ref (h 0)), (1, .int x0), (2, .int x1), (3, .int x2), (5, .int y5_6)]) hx hb dX12_worstOf_59 hl (by decide) rfl (fun ls hl => ?_)
            obtain ⟨v_31, ev_31⟩ : ∃ z : Int32, z = y5_6 + 1 := ⟨_, rfl⟩
            have q_32 : v_31.toInt = y5_6.toInt + 1 := by rw [ev_31]; exact (bn_addc y5_6 1 (by decide) (by omega) (by omega))
            refine lv_iinc (v := v_31) (lv' := [(5, .int v_31), (4, .int y4_6), (6, .int r_27), (0, .ref (h 0)), (1, .int x0), (2, .int x1), (3, .int x2)]) hx hb dX12_worstOf_61 hl (k := 6) rfl (by rw [ev_31]; rfl) (by decide) rfl (fun ls hl => ?_)
            refine lv_goto (tgt := 6) hx hb dX12_worstOf_64 (by decide) ?_
            exact ih_6 y4_6 v_31 f_24 _ _ _ (hs.trans ((if_neg (Int.not_lt.mpr c_29)).trans (spl_e ev_31 rfl))) (by omega) hy0_6 ⟨by omega, by omega⟩ hI hF hP hS (lv_sub hl [3, 4, 5, 6, 1, 0] rfl)
          · skip
            have c_30 : y4_6.toInt < r_27.toInt := (by first | exact (bn_nle c) | (have z := bn_nle c; omega))
            refine lv_iload hx hb dX12_worstOf_52 (lv_at hl 0 rfl) ?_
            refine lv_goto (tgt := 59) hx hb dX12_worstOf_54 (by decide) ?_
            refine lv_istore (lv' := [(4, .int r_27), (6, .int r_27), (0, .ref (h 0)), (1, .int x0), (2, .int x1), (3, .int x2), (5, .int y5_6)]) hx hb dX12_worstOf_59 hl (by decide) rfl (fun ls hl => ?_)
            obtain ⟨v_33, ev_33⟩ : ∃ z : Int32, z = y5_6 + 1 := ⟨_, rfl⟩
            have q_34 : v_33.toInt = y5_6.toInt + 1 := by rw [ev_33]; exact (bn_addc y5_6 1 (by decide) (by omega) (by omega))
            refine lv_iinc (v := v_33) (lv' := [(5, .int v_33), (4, .int r_27), (6, .int r_27), (0, .ref (h 0)), (1, .int x0), (2, .int x1), (3, .int x2)]) hx hb dX12_worstOf_61 hl (k := 6) rfl (by rw [ev_33]; rfl) (by decide) rfl (fun ls hl => ?_)
            refine lv_goto (tgt := 6) hx hb dX12_worstOf_64 (by decide) ?_
            exact ih_6 r_27 v_33 f_24 _ _ _ (hs.trans ((if_pos c_30).trans (spl_e ev_33 rfl))) (by omega) (by omega) ⟨by omega, by omega⟩ hI hF hP hS (lv_sub hl [3, 4, 5, 6, 1, 0] rfl)
  refine lv_iconst (v := 0) hx hb dX12_worstOf_0 ic_0 ?_
  refine lv_istore (lv' := [(4, .int 0), (0, .ref (h 0)), (1, .int x0), (2, .int x1), (3, .int x2)]) hx hb dX12_worstOf_1 hl (by decide) rfl (fun ls hl => ?_)
  refine lv_iconst (v := 0) hx hb dX12_worstOf_3 ic_0 ?_
  refine lv_istore (lv' := [(5, .int 0), (4, .int 0), (0, .ref (h 0)), (1, .int x0), (2, .int x1), (3, .int x2)]) hx hb dX12_worstOf_4 hl (by decide) rfl (fun ls hl => ?_)
  exact loop_6 22 0 0 f _ _ _ hs (by have kc0 : (0 : Int32).toInt = 0 := ti_0; have kc1 : (0 : Int32).toInt = 0 := ti_0; omega) (by decide) (by decide) hI hF hP hS (lv_sub hl [2, 3, 4, 5, 1, 0] rfl)

abbrev WkX12_best : List (Nat × Nat × Option Nat) := [(0, 0, some 12), (0, 0, some 13), (0, 0, some 14), (0, 0, some 15), (0, 0, some 16), (8, 8, none)]
set_option maxHeartbeats 4000000 in
set_option maxRecDepth 100000 in
theorem kX12_best (l : Launch) (D : va_G) (ca : Nat → ClassId) (za h : Nat → Nat) (hh : sgH 26 h) (f : sg_F) (L : sg_L) (Q : sg_Q) (hI : sgI loM hiM f) (x0 : Int32) (x1 : Int32) (x2 : Int32) (sz : Nat) : Met l yX12_best gwX12_best { frames := 46, cells := 0, slots := 0, locals := 1058 } (sgP D vwCl (tyX ca) 26 h (eM ca h) zcM za f L Q sz [.ref (h 0), .int x0, .int x1, .int x2]) (sgQi D vwCl 26 h (eM ca h) sz (fun r f1 L1 Q1 => ((sgI loM hiM f1 ∧ sgK WkX12_best f f1 ∧ L1 = L ∧ Q1 = Q) ∧ True ∧ (r, f1) = sX12_best x0 x1 x2 f L))) 0 0 (sgA 26 h sz) := by
  refine sg_ofWi (cc := cX12_best) (maxL := 8) RX12 (by decide) rfl rfl (Nat.le_of_ble_eq_true rfl) ?_
  intro p e s m below meth cd Qz ls hx hb hml hown hts hK hZ hP hS hl hret
  have hA := sgY.self (n := 26) (h := h) (sz := s.heap.size)
  have hl : lv_has ls 8 [(0, .ref (h 0)), (1, .int x0), (2, .int x1), (3, .int x2)] := hl
  obtain ⟨H, hH⟩ : ∃ z : Heap, z = s.heap := ⟨_, rfl⟩
  obtain ⟨locs, hlo⟩ : ∃ z : List Loc, z = [] := ⟨_, rfl⟩
  have hP : va_P D vwCl (sgw 26 h (eM ca h) f L Q) H := by rw [hH]; exact hP
  have hS : va_S (sgA 26 h s.heap.size) s.heap H locs := by rw [hH, hlo]; exact hS
  suffices hgo : W p l e ({ frames := 46, cells := 0, slots := 0, locals := 1058 }) s m ([.ref (h 0), .int x0, .int x1, .int x2] : List Value).toArray below meth cd H locs 0 0 Qz (F0 m 0 ls []) by rw [hH, hlo] at hgo; exact hgo
  clear hH hlo
  obtain ⟨sp, hsp⟩ : ∃ z : Int32 × sg_F, z = sX12_best x0 x1 x2 f L := ⟨_, rfl⟩
  have hs : sp = sX12_best x0 x1 x2 f L := hsp
  have hF : sgK WkX12_best f f := sgK.rf
  have loop_64 : ∀ (n_64 : Nat) (y4_64 : Int32) (y5_64 : Int32) (y6_64 : Int32) (fp_64 : sg_F) (H : Heap) (locs : List Loc) (ls : Array Slot), sp = sX12_best_l64 x0 x1 x2 n_64 y4_64 y5_64 y6_64 fp_64 L → 61 - y6_64.toInt < (n_64 : Int) → 0 ≤ x0.toInt ∧ x0.toInt ≤ 5 → 0 ≤ x1.toInt ∧ x1.toInt ≤ 2 → 0 ≤ x2.toInt ∧ x2.toInt ≤ 3 → (-1) ≤ y4_64.toInt ∧ y4_64.toInt ≤ 60 → 0 ≤ y6_64.toInt ∧ y6_64.toInt ≤ 61 → sgI loM hiM fp_64 → sgK WkX12_best f fp_64 → va_P D vwCl (sgw 26 h (eM ca h) fp_64 L Q) H → va_S (sgA 26 h s.heap.size) s.heap H locs → lv_has ls 8 [(0, .ref (h 0)), (1, .int x0), (2, .int x1), (3, .int x2), (4, .int y4_64), (5, .int y5_64), (6, .int y6_64)] → W p l e ({ frames := 46, cells := 0, slots := 0, locals := 1058 }) s m ([.ref (h 0), .int x0, .int x1, .int x2] : List Value).toArray below meth cd H locs 0 0 Qz (F0 m 64 ls []) := by
    intro n_64
    induction n_64 with
    | zero => intro y4_64 y5_64 y6_64 fp_64 H locs ls hs hm_64 hy0_64 hy1_64 hy2_64 hy3_64 hy4_64 hI hF hP hS hl; exact absurd hm_64 (by omega)
    | succ n_64 ih_64 =>
      have blk_117 : ∀ (y4_117 : Int32) (y5_117 : Int32) (y6_117 : Int32) (fp_117 : sg_F) (H : Heap) (locs : List Loc) (ls : Array Slot), sp = sX12_best_b117 (sX12_best_l64 x0 x1 x2 n_64) x0 x1 x2 y4_117 y5_117 y6_117 fp_117 L → 61 - y6_117.toInt < ((n_64 + 1 : Nat) : Int) → 0 ≤ x0.toInt ∧ x0.toInt ≤ 5 → 0 ≤ x1.toInt ∧ x1.toInt ≤ 2 → 0 ≤ x2.toInt ∧ x2.toInt ≤ 3 → 0 ≤ y4_117.toInt ∧ y4_117.toInt ≤ 60 → 0 ≤ y6_117.toInt ∧ y6_117.toInt ≤ 60 → sgI loM hiM fp_117 → sgK WkX12_best f fp_117 → va_P D vwCl (sgw 26 h (eM ca h) fp_117 L Q) H → va_S (sgA 26 h s.heap.size) s.heap H locs → lv_has ls 8 [(0, .ref (h 0)), (1, .int x0), (2, .int x1), (3, .int x2), (4, .int y4_117), (5, .int y5_117), (6, .int y6_117)] → W p l e ({ frames := 46, cells := 0, slots := 0, locals := 1058 }) s m ([.ref (h 0), .int x0, .int x1, .int x2] : List Value).toArray below meth cd H locs 0 0 Qz (F0 m 117 ls []) := by
        intro y4_117 y5_117 y6_117 fp_117 H locs ls hs hm_64 hy0_117 hy1_117 hy2_117 hy3_117 hy4_117 hI hF hP hS hl
        obtain ⟨v_1, ev_1⟩ : ∃ z : Int32, z = y6_117 + 1 := ⟨_, rfl⟩
        have q_2 : v_1.toInt = y6_117.toInt + 1 := by rw [ev_1]; exact (bn_addc y6_117 1 (by decide) (by omega) (by omega))
        refine lv_iinc (v := v_1) (lv' := [(6, .int v_1), (0, .ref (h 0)), (1, .int x0), (2, .int x1), (3, .int x2), (4, .int y4_117), (5, .int y5_117)]) hx hb dX12_best_117 hl (k := 6) rfl (by rw [ev_1]; rfl) (by decide) rfl (fun ls hl => ?_)
        refine lv_goto (tgt := 64) hx hb dX12_best_120 (by decide) ?_
        exact ih_64 y4_117 y5_117 v_1 fp_117 _ _ _ (hs.trans ((spl_e ev_1 rfl))) (by omega) hy0_117 hy1_117 hy2_117 ⟨by omega, by omega⟩ ⟨by omega, by omega⟩ hI hF hP hS (lv_sub hl [1, 2, 3, 4, 5, 6, 0] rfl)
      have blk_109 : ∀ (y6_109 : Int32) (y7_109 : Int32) (fp_109 : sg_F) (H : Heap) (locs : List Loc) (ls : Array Slot), sp = sX12_best_b109 (sX12_best_l64 x0 x1 x2 n_64) x0 x1 x2 y6_109 y7_109 fp_109 L → 61 - y6_109.toInt < ((n_64 + 1 : Nat) : Int) → 0 ≤ x0.toInt ∧ x0.toInt ≤ 5 → 0 ≤ x1.toInt ∧ x1.toInt ≤ 2 → 0 ≤ x2.toInt ∧ x2.toInt ≤ 3 → 0 ≤ y6_109.toInt ∧ y6_109.toInt ≤ 60 → sgI loM hiM fp_109 → sgK WkX12_best f fp_109 → va_P D vwCl (sgw 26 h (eM ca h) fp_109 L Q) H → va_S (sgA 26 h s.heap.size) s.heap H locs → lv_has ls 8 [(0, .ref (h 0)), (1, .int x0), (2, .int x1), (3, .int x2), (6, .int y6_109), (7, .int y7_109)] → W p l e ({ frames := 46, cells := 0, slots := 0, locals := 1058 }) s m ([.ref (h 0), .int x0, .int x1, .int x2] : List Value).toArray below meth cd H locs 0 0 Qz (F0 m 109 ls []) := by
        intro y6_109 y7_109 fp_109 H locs ls hs hm_64 hy0_109 hy1_109 hy2_109 hy3_109 hI hF hP hS hl
        refine lv_iload hx hb dX12_best_109 (lv_at hl 4 rfl) ?_
        refine lv_istore (lv' := [(4, .int y6_109), (0, .ref (h 0)), (1, .int x0), (2, .int x1), (3, .int x2), (6, .int y6_109), (7, .int y7_109)]) hx hb dX12_best_111 hl (by decide) rfl (fun ls hl => ?_)
        refine lv_iload hx hb dX12_best_113 (lv_at hl 6 rfl) ?_
        refine lv_istore (lv' := [(5, .int y7_109), (4, .int y6_109), (0, .ref (h 0)), (1, .int x0), (2, .int x1), (3, .int x2), (6, .int y6_109), (7, .int y7_109)]) hx hb dX12_best_115 hl (by decide) rfl (fun ls hl => ?_)
        exact blk_117 y6_109 y7_109 y6_109 fp_109 _ _ _ hs hm_64 hy0_109 hy1_109 hy2_109 hy3_109 hy3_109 hI hF hP hS (lv_sub hl [2, 3, 4, 5, 1, 0, 6] rfl)
      intro y4_64 y5_64 y6_64 fp_64 H locs ls hs hm_64 hy0_64 hy1_64 hy2_64 hy3_64 hy4_64 hI hF hP hS hl
      have hs : sp = sX12_best_h64 x0 x1 x2 (sX12_best_l64 x0 x1 x2 n_64) y4_64 y5_64 y6_64 fp_64 L := hs
      refine lv_iload hx hb dX12_best_64 (lv_at hl 6 rfl) ?_
      refine lv_bipush (v := 61) hx hb dX12_best_66 bp_61 ?_
      refine lv_icmp_ge (tgt := 123) hx hb dX12_best_68 (by decide) (fun c => ?_) (fun c => ?_)
      · skip
        have c_3 : 61 ≤ y6_64.toInt := (by first | exact (cm_le0 ti_61 c) | (have z := bn_le c; have k1 : (61 : Int32).toInt = 61 := ti_61; omega))
        refine lv_iload_n hx hb dX12_best_123 rfl (lv_at hl 3 rfl) ?_
        refine lv_iconst (v := 2) hx hb dX12_best_124 ic_2 ?_
        refine lv_irem hx hb dX12_best_125 (by decide) ?_
        refine lv_topi (fun v_5 ev_5 => ?_)
        replace hs := hs.trans ((if_neg (Int.not_lt.mpr c_3)).trans (spl_e ev_5 rfl))
        have q_6 : v_5.toInt = x2.toInt % 2 := by rw [ev_5]; exact bn_remI (by omega) (by decide) (by decide)
        refine lv_if_ne (tgt := 134) hx hb dX12_best_126 (by decide) (fun c => ?_) (fun c => ?_)
        · skip
          have c_7 : v_5.toInt ≠ 0 := (by first | exact (cm_ne1 ti_0 c) | (have z := bn_ne c; have k1 : (0 : Int32).toInt = 0 := ti_0; omega))
          refine lv_iload hx hb dX12_best_134 (lv_at hl 5 rfl) ?_
          exact hret _ _ _ _ (y5_64) fp_64 L Q dX12_best_136 hP hS ⟨⟨hI, hF, rfl, rfl⟩, trivial, (Eq.trans (Eq.symm (hs.trans ((if_neg c_7).trans rfl))) hsp)⟩
        · skip
          have c_8 : v_5.toInt = 0 := (by first | exact (cm_eq1 ti_0 c) | (have z := Int32.toInt_inj.mpr c; have k1 : (0 : Int32).toInt = 0 := ti_0; omega))
          refine lv_iload hx hb dX12_best_129 (lv_at hl 4 rfl) ?_
          refine lv_goto (tgt := 136) hx hb dX12_best_131 (by decide) ?_
          exact hret _ _ _ _ (y4_64) fp_64 L Q dX12_best_136 hP hS ⟨⟨hI, hF, rfl, rfl⟩, trivial, (Eq.trans (Eq.symm (hs.trans ((if_pos c_8).trans rfl))) hsp)⟩
      · skip
        have c_4 : y6_64.toInt < 61 := (by first | exact (cm_nle0 ti_61 c) | (have z := bn_nle c; have k1 : (61 : Int32).toInt = 61 := ti_61; omega))
        replace hs := hs.trans ((if_pos c_4).trans rfl)
        refine lv_iload_n hx hb dX12_best_71 rfl (lv_at hl 3 rfl) ?_
        refine lv_iconst (v := 2) hx hb dX12_best_72 ic_2 ?_
        refine lv_icmp_ge (tgt := 87) hx hb dX12_best_73 (by decide) (fun c => ?_) (fun c => ?_)
        · skip
          have c_9 : 2 ≤ x2.toInt := (by first | exact (cm_le0 ti_2 c) | (have z := bn_le c; have k1 : (2 : Int32).toInt = 2 := ti_2; omega))
          refine lv_aload_n hx hb dX12_best_87 rfl (lv_at hl 0 rfl) ?_
          refine lv_iload_n hx hb dX12_best_88 rfl (lv_at hl 1 rfl) ?_
          refine lv_iload_n hx hb dX12_best_89 rfl (lv_at hl 2 rfl) ?_
          refine lv_iload hx hb dX12_best_90 (lv_at hl 6 rfl) ?_
          refine sg_calli (va_runV (As := [.int x0, .int x1, .int y6_64]) (rest := []) ⟨hx, hb, hml, hown, hts⟩ (kX12_worstOf l D ca za h hh fp_64 L Q hI x0 x1 y6_64 hy0_64 hy1_64 ⟨by omega, by omega⟩ H.size) (sl_c12_worstOf_45_0_0_1032_12 hts ⟨Nat.le_of_ble_eq_true rfl, Nat.le_of_ble_eq_true rfl⟩) (sl_vM_0 hA hK hP hS hZ) rfl rfl hl.1 rfl (lv_room (Nat.le_of_ble_eq_true rfl)) dX12_best_92 ⟨Nat.le_refl _, Nat.le_refl _⟩) hA hS (fun r_14 f_11 L_12 Q_13 H locs hq hP hS => ?_)
          obtain ⟨⟨hI, hk_f_11, eL9, eQ9⟩, hq, u_15⟩ := hq
          replace hs := hs.trans ((if_neg (Int.not_lt.mpr c_9)).trans (spl2_e u_15 rfl))
          rw [eL9, eQ9] at hP; clear eL9 eQ9
          have hF : sgK WkX12_best f f_11 := sgK.tr hF hk_f_11 (by decide +kernel)
          refine lv_istore (lv' := [(7, .int r_14), (0, .ref (h 0)), (1, .int x0), (2, .int x1), (3, .int x2), (4, .int y4_64), (5, .int y5_64), (6, .int y6_64)]) hx hb dX12_best_95 hl (by decide) rfl (fun ls hl => ?_)
          refine lv_iload hx hb dX12_best_97 (lv_at hl 5 rfl) ?_
          refine lv_if_lt (tgt := 109) hx hb dX12_best_99 (by decide) (fun c => ?_) (fun c => ?_)
          · skip
            have c_16 : y4_64.toInt < 0 := (by first | exact (cm_lt1 ti_0 c) | (have z := bn_lt c; have k1 : (0 : Int32).toInt = 0 := ti_0; omega))
            exact blk_109 y6_64 r_14 f_11 _ _ _ (hs.trans ((if_pos c_16).trans rfl)) (by omega) hy0_64 hy1_64 hy2_64 ⟨by omega, by omega⟩ hI hF hP hS (lv_sub hl [1, 2, 3, 4, 7, 0] rfl)
          · skip
            have c_17 : 0 ≤ y4_64.toInt := (by first | exact (cm_nlt1 ti_0 c) | (have z := bn_nlt c; have k1 : (0 : Int32).toInt = 0 := ti_0; omega))
            replace hs := hs.trans ((if_neg (Int.not_lt.mpr c_17)).trans rfl)
            refine lv_iload hx hb dX12_best_102 (lv_at hl 0 rfl) ?_
            refine lv_iload hx hb dX12_best_104 (lv_at hl 6 rfl) ?_
            refine lv_icmp_ge (tgt := 117) hx hb dX12_best_106 (by decide) (fun c => ?_) (fun c => ?_)
            · skip
              have c_18 : y5_64.toInt ≤ r_14.toInt := (by first | exact (bn_le c) | (have z := bn_le c; omega))
              exact blk_117 y4_64 y5_64 y6_64 f_11 _ _ _ (hs.trans ((if_neg (Int.not_lt.mpr c_18)).trans rfl)) (by omega) hy0_64 hy1_64 hy2_64 ⟨by omega, by omega⟩ ⟨by omega, by omega⟩ hI hF hP hS (lv_sub hl [1, 2, 3, 4, 5, 6, 7] rfl)
            · skip
              have c_19 : r_14.toInt < y5_64.toInt := (by first | exact (bn_nle c) | (have z := bn_nle c; omega))
              exact blk_109 y6_64 r_14 f_11 _ _ _ (hs.trans ((if_pos c_19).trans rfl)) (by omega) hy0_64 hy1_64 hy2_64 ⟨by omega, by omega⟩ hI hF hP hS (lv_sub hl [1, 2, 3, 4, 7, 0] rfl)
        · skip
          have c_10 : x2.toInt < 2 := (by first | exact (cm_nle0 ti_2 c) | (have z := bn_nle c; have k1 : (2 : Int32).toInt = 2 := ti_2; omega))
          refine lv_aload_n hx hb dX12_best_76 rfl (lv_at hl 0 rfl) ?_
          refine lv_iload_n hx hb dX12_best_77 rfl (lv_at hl 1 rfl) ?_
          refine lv_iload_n hx hb dX12_best_78 rfl (lv_at hl 2 rfl) ?_
          refine lv_iload hx hb dX12_best_79 (lv_at hl 6 rfl) ?_
          refine sg_calli (va_runV (As := [.int x0, .int x1, .int y6_64]) (rest := []) ⟨hx, hb, hml, hown, hts⟩ (kX12_neverOf l D ca za h hh fp_64 L Q hI x0 x1 y6_64 hy0_64 hy1_64 ⟨by omega, by omega⟩ H.size) (sl_c12_neverOf_45_0_0_1032_12 hts ⟨Nat.le_of_ble_eq_true rfl, Nat.le_of_ble_eq_true rfl⟩) (sl_vM_0 hA hK hP hS hZ) rfl rfl hl.1 rfl (lv_room (Nat.le_of_ble_eq_true rfl)) dX12_best_81 ⟨Nat.le_refl _, Nat.le_refl _⟩) hA hS (fun r_23 f_20 L_21 Q_22 H locs hq hP hS => ?_)
          obtain ⟨⟨hI, hk_f_20, eL9, eQ9⟩, hq, u_24⟩ := hq
          replace hs := hs.trans ((if_pos c_10).trans (spl2_e u_24 rfl))
          rw [eL9, eQ9] at hP; clear eL9 eQ9
          have hF : sgK WkX12_best f f_20 := sgK.tr hF hk_f_20 (by decide +kernel)
          refine lv_goto (tgt := 95) hx hb dX12_best_84 (by decide) ?_
          refine lv_istore (lv' := [(7, .int r_23), (0, .ref (h 0)), (1, .int x0), (2, .int x1), (3, .int x2), (4, .int y4_64), (5, .int y5_64), (6, .int y6_64)]) hx hb dX12_best_95 hl (by decide) rfl (fun ls hl => ?_)
          refine lv_iload hx hb dX12_best_97 (lv_at hl 5 rfl) ?_
          refine lv_if_lt (tgt := 109) hx hb dX12_best_99 (by decide) (fun c => ?_) (fun c => ?_)
          · skip
            have c_25 : y4_64.toInt < 0 := (by first | exact (cm_lt1 ti_0 c) | (have z := bn_lt c; have k1 : (0 : Int32).toInt = 0 := ti_0; omega))
            exact blk_109 y6_64 r_23 f_20 _ _ _ (hs.trans ((if_pos c_25).trans rfl)) (by omega) hy0_64 hy1_64 hy2_64 ⟨by omega, by omega⟩ hI hF hP hS (lv_sub hl [1, 2, 3, 4, 7, 0] rfl)
          · skip
            have c_26 : 0 ≤ y4_64.toInt := (by first | exact (cm_nlt1 ti_0 c) | (have z := bn_nlt c; have k1 : (0 : Int32).toInt = 0 := ti_0; omega))
            replace hs := hs.trans ((if_neg (Int.not_lt.mpr c_26)).trans rfl)
            refine lv_iload hx hb dX12_best_102 (lv_at hl 0 rfl) ?_
            refine lv_iload hx hb dX12_best_104 (lv_at hl 6 rfl) ?_
            refine lv_icmp_ge (tgt := 117) hx hb dX12_best_106 (by decide) (fun c => ?_) (fun c => ?_)
            · skip
              have c_27 : y5_64.toInt ≤ r_23.toInt := (by first | exact (bn_le c) | (have z := bn_le c; omega))
              exact blk_117 y4_64 y5_64 y6_64 f_20 _ _ _ (hs.trans ((if_neg (Int.not_lt.mpr c_27)).trans rfl)) (by omega) hy0_64 hy1_64 hy2_64 ⟨by omega, by omega⟩ ⟨by omega, by omega⟩ hI hF hP hS (lv_sub hl [1, 2, 3, 4, 5, 6, 7] rfl)
            · skip
              have c_28 : r_23.toInt < y5_64.toInt := (by first | exact (bn_nle c) | (have z := bn_nle c; omega))
              exact blk_109 y6_64 r_23 f_20 _ _ _ (hs.trans ((if_pos c_28).trans rfl)) (by omega) hy0_64 hy1_64 hy2_64 ⟨by omega, by omega⟩ hI hF hP hS (lv_sub hl [1, 2, 3, 4, 7, 0] rfl)
  refine lv_aload_n hx hb dX12_best_0 rfl (lv_at hl 0 rfl) ?_
  refine lv_iload_n hx hb dX12_best_1 rfl (lv_at hl 1 rfl) ?_
  refine sg_calli (va_runV (As := [.int x0]) (rest := []) ⟨hx, hb, hml, hown, hts⟩ (kX12_bytesIs l D ca za h hh f L Q hI x0 H.size) (sl_c12_bytesIs_2_0_0_45_12 hts ⟨Nat.le_of_ble_eq_true rfl, Nat.le_of_ble_eq_true rfl⟩) (sl_vM_0 hA hK hP hS hZ) rfl rfl hl.1 rfl (lv_room (Nat.le_of_ble_eq_true rfl)) dX12_best_2 ⟨Nat.le_refl _, Nat.le_refl _⟩) hA hS (fun r_32 f_29 L_30 Q_31 H locs hq hP hS => ?_)
  obtain ⟨⟨ef9, eL9, eQ9⟩, hq, u_33⟩ := hq
  replace hs := hs.trans (spl_e u_33 rfl)
  rw [ef9, eL9, eQ9] at hP; clear ef9 eL9 eQ9
  rcases hq with ⟨rfl, hq⟩ | hq | ⟨rfl, hq⟩
  · skip
    have hc_34 := hq
    refine lv_iconst (v := (-1)) hx hb dX12_best_5 ic_m1 ?_
    refine lv_icmp_eq (tgt := 28) hx hb dX12_best_6 (by decide) (fun c => absurd c (by decide)) (fun c => ?_)
    refine lv_iload_n hx hb dX12_best_9 rfl (lv_at hl 2 rfl) ?_
    refine sg_calli (va_runS (As := [.int x1]) (rest := []) ⟨hx, hb, hml, hown, hts⟩ (kX12_isPart l D ca za h hh f L Q hI x1 H.size) (va_cwS 1 hts (gw_S (fun _ h => List.mem_cons_of_mem _ h) mw_636 mw_637 mw_619 mw_635) rfl rfl rfl hd_yX12_isPart.2 ⟨Nat.le_of_ble_eq_true rfl, Nat.le_of_ble_eq_true rfl⟩) (sg_preS hA hK hP hS hZ) rfl rfl hl.1 rfl (lv_room (Nat.le_of_ble_eq_true rfl)) dX12_best_10 ⟨Nat.le_refl _, Nat.le_refl _⟩) hA hS (fun r_38 f_35 L_36 Q_37 H locs hq hP hS => ?_)
    obtain ⟨⟨ef9, eL9, eQ9⟩, hq, u_39⟩ := hq
    replace hs := hs.trans ((if_pos rfl).trans (spl_e u_39 rfl))
    rw [ef9, eL9, eQ9] at hP; clear ef9 eL9 eQ9
    rcases hq with ⟨rfl, hq⟩ | ⟨rfl, hq⟩
    · skip
      have hc_40 := hq
      refine lv_if_eq (tgt := 28) hx hb dX12_best_13 (by decide) (fun c => absurd c (by decide)) (fun c => ?_)
      refine lv_iload_n hx hb dX12_best_16 rfl (lv_at hl 3 rfl) ?_
      obtain ⟨w_41, ew_41⟩ : ∃ z : Int64, z = Int32.toInt64 x2 := ⟨_, rfl⟩
      have q_42 : w_41.toInt = x2.toInt := by rw [ew_41]; exact Int32.toInt_toInt64 _
      refine lv_i2l (v := w_41) hx hb dX12_best_17 ew_41.symm ?_
      refine lv_lconst (v := 0) hx hb dX12_best_18 (by decide) ?_
      refine lv_ldc2 (v := 3) hx hb hown (hts _ (List.mem_cons_of_mem _ mw_692)) dX12_best_19 ?_
      refine sg_calli (va_runS (As := [.long w_41, .long 0, .long 3]) (rest := []) ⟨hx, hb, hml, hown, hts⟩ (kX12_within l D ca za h hh f L Q hI w_41 0 3 H.size) (va_cwS 3 hts (gw_S (fun _ h => List.mem_cons_of_mem _ h) mw_631 mw_632 mw_619 mw_630) rfl rfl rfl hd_yX12_within.2 ⟨Nat.le_of_ble_eq_true rfl, Nat.le_of_ble_eq_true rfl⟩) (sg_preS hA hK hP hS hZ) rfl rfl hl.1 rfl (lv_room (Nat.le_of_ble_eq_true rfl)) dX12_best_22 ⟨Nat.le_refl _, Nat.le_refl _⟩) hA hS (fun r_46 f_43 L_44 Q_45 H locs hq hP hS => ?_)
      obtain ⟨⟨ef9, eL9, eQ9⟩, hq, u_47⟩ := hq
      replace hs := hs.trans ((if_pos rfl).trans (spl_e ew_41 (spl_e u_47 rfl)))
      rw [ef9, eL9, eQ9] at hP; clear ef9 eL9 eQ9
      have k_48 : (0 : Int64).toInt = 0 := by decide
      have k_49 : (3 : Int64).toInt = 3 := by decide
      rcases hq with ⟨rfl, hq⟩ | ⟨rfl, hq⟩
      · skip
        have hc_50 := hq
        refine lv_if_ne (tgt := 30) hx hb dX12_best_25 (by decide) (fun c => ?_) (fun c => absurd c (by decide))
        refine lv_aload_n hx hb dX12_best_30 rfl (lv_at hl 0 rfl) ?_
        refine lv_iload_n hx hb dX12_best_31 rfl (lv_at hl 1 rfl) ?_
        refine sg_calli (va_runV (As := [.int x0]) (rest := []) ⟨hx, hb, hml, hown, hts⟩ (kX12_bytesIs l D ca za h hh f L Q hI x0 H.size) (sl_c12_bytesIs_2_0_0_45_12 hts ⟨Nat.le_of_ble_eq_true rfl, Nat.le_of_ble_eq_true rfl⟩) (sl_vM_0 hA hK hP hS hZ) rfl rfl hl.1 rfl (lv_room (Nat.le_of_ble_eq_true rfl)) dX12_best_32 ⟨Nat.le_refl _, Nat.le_refl _⟩) hA hS (fun r_54 f_51 L_52 Q_53 H locs hq hP hS => ?_)
        obtain ⟨⟨ef9, eL9, eQ9⟩, hq, u_55⟩ := hq
        rw [ef9, eL9, eQ9] at hP; clear ef9 eL9 eQ9
        rw [show r_54 = 1 from u_55.trans u_33.symm]
        refine lv_if_ge (tgt := 44) hx hb dX12_best_35 (by decide) (fun c => ?_) (fun c => absurd c (by decide))
        refine lv_aload_n hx hb dX12_best_44 rfl (lv_at hl 0 rfl) ?_
        refine lv_iload_n hx hb dX12_best_45 rfl (lv_at hl 1 rfl) ?_
        refine sg_calli (va_runV (As := [.int x0]) (rest := []) ⟨hx, hb, hml, hown, hts⟩ (kX12_anySits l D ca za h hh f L Q hI x0 ⟨by omega, by omega⟩ H.size) (sl_c12_anySits_3_0_0_71_12 hts ⟨Nat.le_of_ble_eq_true rfl, Nat.le_of_ble_eq_true rfl⟩) (sl_vM_0 hA hK hP hS hZ) rfl rfl hl.1 rfl (lv_room (Nat.le_of_ble_eq_true rfl)) dX12_best_46 ⟨Nat.le_refl _, Nat.le_refl _⟩) hA hS (fun r_59 f_56 L_57 Q_58 H locs hq hP hS => ?_)
        obtain ⟨⟨ef9, eL9, eQ9⟩, hq, u_60⟩ := hq
        replace hs := hs.trans ((if_pos rfl).trans (spl_e u_60 rfl))
        rw [ef9, eL9, eQ9] at hP; clear ef9 eL9 eQ9
        refine lv_if_ne (tgt := 55) hx hb dX12_best_49 (by decide) (fun c => ?_) (fun c => ?_)
        · skip
          have c_61 : r_59.toInt ≠ 0 := (by first | exact (cm_ne1 ti_0 c) | (have z := bn_ne c; have k1 : (0 : Int32).toInt = 0 := ti_0; omega))
          refine lv_iconst (v := (-1)) hx hb dX12_best_55 ic_m1 ?_
          refine lv_istore (lv' := [(4, .int (-1)), (0, .ref (h 0)), (1, .int x0), (2, .int x1), (3, .int x2)]) hx hb dX12_best_56 hl (by decide) rfl (fun ls hl => ?_)
          refine lv_iconst (v := 0) hx hb dX12_best_58 ic_0 ?_
          refine lv_istore (lv' := [(5, .int 0), (4, .int (-1)), (0, .ref (h 0)), (1, .int x0), (2, .int x1), (3, .int x2)]) hx hb dX12_best_59 hl (by decide) rfl (fun ls hl => ?_)
          refine lv_iconst (v := 0) hx hb dX12_best_61 ic_0 ?_
          refine lv_istore (lv' := [(6, .int 0), (5, .int 0), (4, .int (-1)), (0, .ref (h 0)), (1, .int x0), (2, .int x1), (3, .int x2)]) hx hb dX12_best_62 hl (by decide) rfl (fun ls hl => ?_)
          exact loop_64 62 (-1) 0 0 f _ _ _ (hs.trans ((if_neg c_61).trans rfl)) (by have kc0 : ((-1) : Int32).toInt = (-1) := ti_m1; have kc1 : (0 : Int32).toInt = 0 := ti_0; have kc2 : (0 : Int32).toInt = 0 := ti_0; omega) ⟨by omega, by omega⟩ ⟨by omega, by omega⟩ ⟨by omega, by omega⟩ (by decide) (by decide) hI hF hP hS (lv_sub hl [3, 4, 5, 6, 2, 1, 0] rfl)
        · skip
          have c_62 : r_59.toInt = 0 := (by first | exact (cm_eq1 ti_0 c) | (have z := Int32.toInt_inj.mpr c; have k1 : (0 : Int32).toInt = 0 := ti_0; omega))
          refine lv_bipush (v := (-2)) hx hb dX12_best_52 bp_m2 ?_
          have k99 : ((-2) : Int32).toInt = (-2) := ti_m2
          exact hret _ _ _ _ (-2) f L Q dX12_best_54 hP hS ⟨⟨hI, hF, rfl, rfl⟩, trivial, (Eq.trans (Eq.symm (hs.trans ((if_pos c_62).trans rfl))) hsp)⟩
      · skip
        have hc_50 := hq
        refine lv_if_ne (tgt := 30) hx hb dX12_best_25 (by decide) (fun c => absurd c (by decide)) (fun c => ?_)
        refine lv_iconst (v := (-1)) hx hb dX12_best_28 ic_m1 ?_
        have k99 : ((-1) : Int32).toInt = (-1) := ti_m1
        exact hret _ _ _ _ (-1) f L Q dX12_best_29 hP hS ⟨⟨hI, hF, rfl, rfl⟩, trivial, (Eq.trans (Eq.symm (hs.trans ((if_neg (by decide)).trans rfl))) hsp)⟩
    · skip
      have hc_40 := hq
      refine lv_if_eq (tgt := 28) hx hb dX12_best_13 (by decide) (fun c => ?_) (fun c => absurd c (by decide))
      refine lv_iconst (v := (-1)) hx hb dX12_best_28 ic_m1 ?_
      have k99 : ((-1) : Int32).toInt = (-1) := ti_m1
      exact hret _ _ _ _ (-1) f L Q dX12_best_29 hP hS ⟨⟨hI, hF, rfl, rfl⟩, trivial, (Eq.trans (Eq.symm (hs.trans ((if_neg (by decide)).trans rfl))) hsp)⟩
  · skip
    have hc_34 := hq
    refine lv_iconst (v := (-1)) hx hb dX12_best_5 ic_m1 ?_
    refine lv_icmp_eq (tgt := 28) hx hb dX12_best_6 (by decide) (fun c => ?_) (fun c => ?_)
    · skip
      exfalso; have c_63 : r_32.toInt = (-1) := (by first | exact (cm_eq1 ti_m1 c) | (have z := Int32.toInt_inj.mpr c; have k1 : ((-1) : Int32).toInt = (-1) := ti_m1; omega)); first | exact absurd c_63 (by assumption) | omega
    · skip
      have c_64 : r_32.toInt ≠ (-1) := (by first | exact (cm_ne1 ti_m1 c) | (have z := bn_ne c; have k1 : ((-1) : Int32).toInt = (-1) := ti_m1; omega))
      refine lv_iload_n hx hb dX12_best_9 rfl (lv_at hl 2 rfl) ?_
      refine sg_calli (va_runS (As := [.int x1]) (rest := []) ⟨hx, hb, hml, hown, hts⟩ (kX12_isPart l D ca za h hh f L Q hI x1 H.size) (va_cwS 1 hts (gw_S (fun _ h => List.mem_cons_of_mem _ h) mw_636 mw_637 mw_619 mw_635) rfl rfl rfl hd_yX12_isPart.2 ⟨Nat.le_of_ble_eq_true rfl, Nat.le_of_ble_eq_true rfl⟩) (sg_preS hA hK hP hS hZ) rfl rfl hl.1 rfl (lv_room (Nat.le_of_ble_eq_true rfl)) dX12_best_10 ⟨Nat.le_refl _, Nat.le_refl _⟩) hA hS (fun r_68 f_65 L_66 Q_67 H locs hq hP hS => ?_)
      obtain ⟨⟨ef9, eL9, eQ9⟩, hq, u_69⟩ := hq
      rw [ef9, eL9, eQ9] at hP; clear ef9 eL9 eQ9
      rcases hq with ⟨rfl, hq⟩ | ⟨rfl, hq⟩
      · skip
        have hc_70 := hq
        refine lv_if_eq (tgt := 28) hx hb dX12_best_13 (by decide) (fun c => absurd c (by decide)) (fun c => ?_)
        refine lv_iload_n hx hb dX12_best_16 rfl (lv_at hl 3 rfl) ?_
        obtain ⟨w_71, ew_71⟩ : ∃ z : Int64, z = Int32.toInt64 x2 := ⟨_, rfl⟩
        have q_72 : w_71.toInt = x2.toInt := by rw [ew_71]; exact Int32.toInt_toInt64 _
        refine lv_i2l (v := w_71) hx hb dX12_best_17 ew_71.symm ?_
        refine lv_lconst (v := 0) hx hb dX12_best_18 (by decide) ?_
        refine lv_ldc2 (v := 3) hx hb hown (hts _ (List.mem_cons_of_mem _ mw_692)) dX12_best_19 ?_
        refine sg_calli (va_runS (As := [.long w_71, .long 0, .long 3]) (rest := []) ⟨hx, hb, hml, hown, hts⟩ (kX12_within l D ca za h hh f L Q hI w_71 0 3 H.size) (va_cwS 3 hts (gw_S (fun _ h => List.mem_cons_of_mem _ h) mw_631 mw_632 mw_619 mw_630) rfl rfl rfl hd_yX12_within.2 ⟨Nat.le_of_ble_eq_true rfl, Nat.le_of_ble_eq_true rfl⟩) (sg_preS hA hK hP hS hZ) rfl rfl hl.1 rfl (lv_room (Nat.le_of_ble_eq_true rfl)) dX12_best_22 ⟨Nat.le_refl _, Nat.le_refl _⟩) hA hS (fun r_76 f_73 L_74 Q_75 H locs hq hP hS => ?_)
        obtain ⟨⟨ef9, eL9, eQ9⟩, hq, u_77⟩ := hq
        rw [ef9, eL9, eQ9] at hP; clear ef9 eL9 eQ9
        have k_78 : (0 : Int64).toInt = 0 := by decide
        have k_79 : (3 : Int64).toInt = 3 := by decide
        rcases hq with ⟨rfl, hq⟩ | ⟨rfl, hq⟩
        · skip
          have hc_80 := hq
          refine lv_if_ne (tgt := 30) hx hb dX12_best_25 (by decide) (fun c => ?_) (fun c => absurd c (by decide))
          refine lv_aload_n hx hb dX12_best_30 rfl (lv_at hl 0 rfl) ?_
          refine lv_iload_n hx hb dX12_best_31 rfl (lv_at hl 1 rfl) ?_
          refine sg_calli (va_runV (As := [.int x0]) (rest := []) ⟨hx, hb, hml, hown, hts⟩ (kX12_bytesIs l D ca za h hh f L Q hI x0 H.size) (sl_c12_bytesIs_2_0_0_45_12 hts ⟨Nat.le_of_ble_eq_true rfl, Nat.le_of_ble_eq_true rfl⟩) (sl_vM_0 hA hK hP hS hZ) rfl rfl hl.1 rfl (lv_room (Nat.le_of_ble_eq_true rfl)) dX12_best_32 ⟨Nat.le_refl _, Nat.le_refl _⟩) hA hS (fun r_84 f_81 L_82 Q_83 H locs hq hP hS => ?_)
          obtain ⟨⟨ef9, eL9, eQ9⟩, hq, u_85⟩ := hq
          rw [ef9, eL9, eQ9] at hP; clear ef9 eL9 eQ9
          rw [show r_84 = r_32 from u_85.trans u_33.symm]
          refine lv_if_ge (tgt := 44) hx hb dX12_best_35 (by decide) (fun c => ?_) (fun c => ?_)
          · skip
            exfalso; have c_86 : 0 ≤ r_32.toInt := (by first | exact (cm_le0 ti_0 c) | (have z := bn_le c; have k1 : (0 : Int32).toInt = 0 := ti_0; omega)); omega
          · skip
            have c_87 : r_32.toInt < 0 := (by first | exact (cm_nle0 ti_0 c) | (have z := bn_nle c; have k1 : (0 : Int32).toInt = 0 := ti_0; omega))
            refine lv_aload_n hx hb dX12_best_38 rfl (lv_at hl 0 rfl) ?_
            refine lv_iload_n hx hb dX12_best_39 rfl (lv_at hl 1 rfl) ?_
            refine sg_calli (va_runV (As := [.int x0]) (rest := []) ⟨hx, hb, hml, hown, hts⟩ (kX12_bytesIs l D ca za h hh f L Q hI x0 H.size) (sl_c12_bytesIs_2_0_0_45_12 hts ⟨Nat.le_of_ble_eq_true rfl, Nat.le_of_ble_eq_true rfl⟩) (sl_vM_0 hA hK hP hS hZ) rfl rfl hl.1 rfl (lv_room (Nat.le_of_ble_eq_true rfl)) dX12_best_40 ⟨Nat.le_refl _, Nat.le_refl _⟩) hA hS (fun r_91 f_88 L_89 Q_90 H locs hq hP hS => ?_)
            obtain ⟨⟨ef9, eL9, eQ9⟩, hq, u_92⟩ := hq
            rw [ef9, eL9, eQ9] at hP; clear ef9 eL9 eQ9
            rw [show r_91 = r_32 from u_92.trans u_33.symm]
            exact hret _ _ _ _ (r_32) f L Q dX12_best_43 hP hS ⟨⟨hI, hF, rfl, rfl⟩, trivial, (Eq.trans (Eq.symm (hs.trans ((if_neg (fun z9 => by have k9 : (1 : Int32).toInt = 1 := ti_1; have h9 := hc_34; rw [z9] at h9; omega)).trans ((if_neg (fun z9 => by have k9 : ((-1) : Int32).toInt = (-1) := ti_m1; have h9 := hc_34; rw [z9] at h9; omega)).trans (spl_e u_69 ((if_pos rfl).trans (spl_e ew_71 (spl_e u_77 ((if_pos rfl).trans rfl))))))))) hsp)⟩
        · skip
          have hc_80 := hq
          refine lv_if_ne (tgt := 30) hx hb dX12_best_25 (by decide) (fun c => absurd c (by decide)) (fun c => ?_)
          refine lv_iconst (v := (-1)) hx hb dX12_best_28 ic_m1 ?_
          have k99 : ((-1) : Int32).toInt = (-1) := ti_m1
          exact hret _ _ _ _ (-1) f L Q dX12_best_29 hP hS ⟨⟨hI, hF, rfl, rfl⟩, trivial, (Eq.trans (Eq.symm (hs.trans ((if_neg (fun z9 => by have k9 : (1 : Int32).toInt = 1 := ti_1; have h9 := hc_34; rw [z9] at h9; omega)).trans ((if_neg (fun z9 => by have k9 : ((-1) : Int32).toInt = (-1) := ti_m1; have h9 := hc_34; rw [z9] at h9; omega)).trans (spl_e u_69 ((if_pos rfl).trans (spl_e ew_71 (spl_e u_77 ((if_neg (by decide)).trans rfl))))))))) hsp)⟩
      · skip
        have hc_70 := hq
        refine lv_if_eq (tgt := 28) hx hb dX12_best_13 (by decide) (fun c => ?_) (fun c => absurd c (by decide))
        refine lv_iconst (v := (-1)) hx hb dX12_best_28 ic_m1 ?_
        have k99 : ((-1) : Int32).toInt = (-1) := ti_m1
        exact hret _ _ _ _ (-1) f L Q dX12_best_29 hP hS ⟨⟨hI, hF, rfl, rfl⟩, trivial, (Eq.trans (Eq.symm (hs.trans ((if_neg (fun z9 => by have k9 : (1 : Int32).toInt = 1 := ti_1; have h9 := hc_34; rw [z9] at h9; omega)).trans ((if_neg (fun z9 => by have k9 : ((-1) : Int32).toInt = (-1) := ti_m1; have h9 := hc_34; rw [z9] at h9; omega)).trans (spl_e u_69 ((if_neg (by decide)).trans rfl)))))) hsp)⟩
  · skip
    have hc_34 := hq
    refine lv_iconst (v := (-1)) hx hb dX12_best_5 ic_m1 ?_
    refine lv_icmp_eq (tgt := 28) hx hb dX12_best_6 (by decide) (fun c => ?_) (fun c => absurd c (by decide))
    refine lv_iconst (v := (-1)) hx hb dX12_best_28 ic_m1 ?_
    have k99 : ((-1) : Int32).toInt = (-1) := ti_m1
    exact hret _ _ _ _ (-1) f L Q dX12_best_29 hP hS ⟨⟨hI, hF, rfl, rfl⟩, trivial, (Eq.trans (Eq.symm (hs.trans ((if_neg (by decide)).trans ((if_pos rfl).trans rfl)))) hsp)⟩

set_option maxHeartbeats 4000000 in
set_option maxRecDepth 100000 in
theorem kX12_weightOf (l : Launch) (D : va_G) (ca : Nat → ClassId) (za h : Nat → Nat) (hh : sgH 26 h) (f : sg_F) (L : sg_L) (Q : sg_Q) (hI : sgI loM hiM f) (x0 : Int32) (b0 : 0 ≤ x0.toInt ∧ x0.toInt ≤ 7) (sz : Nat) : Met l yX12_weightOf gwX12_weightOf { frames := 1, cells := 0, slots := 0, locals := 22 } (sgP D vwCl (tyX ca) 26 h (eM ca h) zcM za f L Q sz [.ref (h 0), .int x0]) (sgQi D vwCl 26 h (eM ca h) sz (fun r f1 L1 Q1 => ((f1 = f ∧ L1 = L ∧ Q1 = Q) ∧ True ∧ (r) = sX12_weightOf x0 f L))) 0 0 (sgA 26 h sz) := by
  refine sg_ofWi (cc := cX12_weightOf) (maxL := 2) RX12 (by decide) rfl rfl (Nat.le_of_ble_eq_true rfl) ?_
  intro p e s m below meth cd Qz ls hx hb hml hown hts hK hZ hP hS hl hret
  have hA := sgY.self (n := 26) (h := h) (sz := s.heap.size)
  have hl : lv_has ls 2 [(0, .ref (h 0)), (1, .int x0)] := hl
  obtain ⟨H, hH⟩ : ∃ z : Heap, z = s.heap := ⟨_, rfl⟩
  obtain ⟨locs, hlo⟩ : ∃ z : List Loc, z = [] := ⟨_, rfl⟩
  have hP : va_P D vwCl (sgw 26 h (eM ca h) f L Q) H := by rw [hH]; exact hP
  have hS : va_S (sgA 26 h s.heap.size) s.heap H locs := by rw [hH, hlo]; exact hS
  suffices hgo : W p l e ({ frames := 1, cells := 0, slots := 0, locals := 22 }) s m ([.ref (h 0), .int x0] : List Value).toArray below meth cd H locs 0 0 Qz (F0 m 0 ls []) by rw [hH, hlo] at hgo; exact hgo
  clear hH hlo
  obtain ⟨sp, hsp⟩ : ∃ z : Int32, z = sX12_weightOf x0 f L := ⟨_, rfl⟩
  have hs : sp = sX12_weightOf x0 f L := hsp
  refine lv_aload_n hx hb dX12_weightOf_0 rfl (lv_at hl 0 rfl) ?_
  refine lv_iload_n hx hb dX12_weightOf_1 rfl (lv_at hl 1 rfl) ?_
  refine lv_iconst (v := 5) hx hb dX12_weightOf_2 ic_5 ?_
  refine sg_calli (va_runV (As := [.int x0, .int 5]) (rest := []) ⟨hx, hb, hml, hown, hts⟩ (kX12_numberOf l D ca za h hh f L Q hI x0 5 b0 (by decide) H.size) (sl_c12_numberOf_0_0_0_0_12 hts ⟨Nat.le_of_ble_eq_true rfl, Nat.le_of_ble_eq_true rfl⟩) (sl_vM_0 hA hK hP hS hZ) rfl rfl hl.1 rfl (lv_room (Nat.le_of_ble_eq_true rfl)) dX12_weightOf_3 ⟨Nat.le_refl _, Nat.le_refl _⟩) hA hS (fun r_4 f_1 L_2 Q_3 H locs hq hP hS => ?_)
  obtain ⟨⟨ef9, eL9, eQ9⟩, hq, u_5⟩ := hq
  rw [ef9, eL9, eQ9] at hP; clear ef9 eL9 eQ9
  refine lv_aload_n hx hb dX12_weightOf_6 rfl (lv_at hl 0 rfl) ?_
  refine lv_iload_n hx hb dX12_weightOf_7 rfl (lv_at hl 1 rfl) ?_
  refine lv_iconst (v := 3) hx hb dX12_weightOf_8 ic_3 ?_
  refine sg_calli (va_runV (As := [.int x0, .int 3]) (rest := [.int r_4]) ⟨hx, hb, hml, hown, hts⟩ (kX12_numberOf l D ca za h hh f L Q hI x0 3 b0 (by decide) H.size) (sl_c12_numberOf_0_0_0_0_12 hts ⟨Nat.le_of_ble_eq_true rfl, Nat.le_of_ble_eq_true rfl⟩) (sl_vM_0 hA hK hP hS hZ) rfl rfl hl.1 rfl (lv_room (Nat.le_of_ble_eq_true rfl)) dX12_weightOf_9 ⟨Nat.le_refl _, Nat.le_refl _⟩) hA hS (fun r_9 f_6 L_7 Q_8 H locs hq hP hS => ?_)
  obtain ⟨⟨ef9, eL9, eQ9⟩, hq, u_10⟩ := hq
  rw [ef9, eL9, eQ9] at hP; clear ef9 eL9 eQ9
  refine lv_aload_n hx hb dX12_weightOf_12 rfl (lv_at hl 0 rfl) ?_
  refine lv_iload_n hx hb dX12_weightOf_13 rfl (lv_at hl 1 rfl) ?_
  refine lv_iconst (v := 4) hx hb dX12_weightOf_14 ic_4 ?_
  refine sg_calli (va_runV (As := [.int x0, .int 4]) (rest := [.int r_9, .int r_4]) ⟨hx, hb, hml, hown, hts⟩ (kX12_numberOf l D ca za h hh f L Q hI x0 4 b0 (by decide) H.size) (sl_c12_numberOf_0_0_0_0_12 hts ⟨Nat.le_of_ble_eq_true rfl, Nat.le_of_ble_eq_true rfl⟩) (sl_vM_0 hA hK hP hS hZ) rfl rfl hl.1 rfl (lv_room (Nat.le_of_ble_eq_true rfl)) dX12_weightOf_15 ⟨Nat.le_refl _, Nat.le_refl _⟩) hA hS (fun r_14 f_11 L_12 Q_13 H locs hq hP hS => ?_)
  obtain ⟨⟨ef9, eL9, eQ9⟩, hq, u_15⟩ := hq
  rw [ef9, eL9, eQ9] at hP; clear ef9 eL9 eQ9
  refine lv_iadd hx hb dX12_weightOf_18 ?_
  refine lv_topi (fun v_16 ev_16 => ?_)
  have q_17 : v_16.toInt = r_9.toInt + r_14.toInt := by rw [ev_16]; first | exact bn_addI (by omega) (by omega) | exact (bn_addI (by omega) (by omega)).trans (by omega)
  refine lv_imul hx hb dX12_weightOf_19 ?_
  refine lv_topi (fun v_18 ev_18 => ?_)
  exact hret _ _ _ _ (v_18) f L Q dX12_weightOf_20 hP hS ⟨⟨rfl, rfl, rfl⟩, trivial, (Eq.trans (Eq.symm (hs.trans ((spl_e u_5 (spl_e u_10 (spl_e u_15 (spl_e ev_16 (spl_e ev_18 rfl)))))))) hsp)⟩

set_option maxHeartbeats 4000000 in
set_option maxRecDepth 100000 in
theorem kX12_weightTo (l : Launch) (D : va_G) (ca : Nat → ClassId) (za h : Nat → Nat) (hh : sgH 26 h) (f : sg_F) (L : sg_L) (Q : sg_Q) (hI : sgI loM hiM f) (x0 : Int32) (x1 : Int32) (x2 : Int32) (b0 : 0 ≤ x0.toInt ∧ x0.toInt ≤ 5) (b1 : 0 ≤ x1.toInt ∧ x1.toInt ≤ 2) (b2 : 0 ≤ x2.toInt ∧ x2.toInt ≤ 60) (sz : Nat) : Met l yX12_weightTo gwX12_weightTo { frames := 3, cells := 0, slots := 0, locals := 71 } (sgP D vwCl (tyX ca) 26 h (eM ca h) zcM za f L Q sz [.ref (h 0), .int x0, .int x1, .int x2]) (sgQi D vwCl 26 h (eM ca h) sz (fun r f1 L1 Q1 => ((f1 = f ∧ L1 = L ∧ Q1 = Q) ∧ True ∧ (r) = sX12_weightTo x0 x1 x2 f L))) 0 0 (sgA 26 h sz) := by
  refine sg_ofWi (cc := cX12_weightTo) (maxL := 7) RX12 (by decide) rfl rfl (Nat.le_of_ble_eq_true rfl) ?_
  intro p e s m below meth cd Qz ls hx hb hml hown hts hK hZ hP hS hl hret
  have hA := sgY.self (n := 26) (h := h) (sz := s.heap.size)
  have hl : lv_has ls 7 [(0, .ref (h 0)), (1, .int x0), (2, .int x1), (3, .int x2)] := hl
  obtain ⟨H, hH⟩ : ∃ z : Heap, z = s.heap := ⟨_, rfl⟩
  obtain ⟨locs, hlo⟩ : ∃ z : List Loc, z = [] := ⟨_, rfl⟩
  have hP : va_P D vwCl (sgw 26 h (eM ca h) f L Q) H := by rw [hH]; exact hP
  have hS : va_S (sgA 26 h s.heap.size) s.heap H locs := by rw [hH, hlo]; exact hS
  suffices hgo : W p l e ({ frames := 3, cells := 0, slots := 0, locals := 71 }) s m ([.ref (h 0), .int x0, .int x1, .int x2] : List Value).toArray below meth cd H locs 0 0 Qz (F0 m 0 ls []) by rw [hH, hlo] at hgo; exact hgo
  clear hH hlo
  obtain ⟨sp, hsp⟩ : ∃ z : Int32, z = sX12_weightTo x0 x1 x2 f L := ⟨_, rfl⟩
  have hs : sp = sX12_weightTo x0 x1 x2 f L := hsp
  have loop_6 : ∀ (n_6 : Nat) (y4_6 : Int32) (y5_6 : Int32) (H : Heap) (locs : List Loc) (ls : Array Slot), sp = sX12_weightTo_l6 x0 x1 x2 n_6 y4_6 y5_6 f L → 21 - y5_6.toInt < (n_6 : Int) → 0 ≤ y5_6.toInt ∧ y5_6.toInt ≤ 21 → va_P D vwCl (sgw 26 h (eM ca h) f L Q) H → va_S (sgA 26 h s.heap.size) s.heap H locs → lv_has ls 7 [(0, .ref (h 0)), (1, .int x0), (2, .int x1), (3, .int x2), (4, .int y4_6), (5, .int y5_6)] → W p l e ({ frames := 3, cells := 0, slots := 0, locals := 71 }) s m ([.ref (h 0), .int x0, .int x1, .int x2] : List Value).toArray below meth cd H locs 0 0 Qz (F0 m 6 ls []) := by
    intro n_6
    induction n_6 with
    | zero => intro y4_6 y5_6 H locs ls hs hm_6 hy0_6 hP hS hl; exact absurd hm_6 (by omega)
    | succ n_6 ih_6 =>
      intro y4_6 y5_6 H locs ls hs hm_6 hy0_6 hP hS hl
      have hs : sp = sX12_weightTo_h6 x0 x1 x2 (sX12_weightTo_l6 x0 x1 x2 n_6) y4_6 y5_6 f L := hs
      refine lv_iload hx hb dX12_weightTo_6 (lv_at hl 5 rfl) ?_
      refine lv_aload_n hx hb dX12_weightTo_8 rfl (lv_at hl 0 rfl) ?_
      refine lv_iload_n hx hb dX12_weightTo_9 rfl (lv_at hl 1 rfl) ?_
      refine sg_calli (va_runV (As := [.int x0]) (rest := [.int y5_6]) ⟨hx, hb, hml, hown, hts⟩ (kX12_shiftsOf l D ca za h hh f L Q hI x0 b0 H.size) (sl_c12_shiftsOf_0_0_0_0_12 hts ⟨Nat.le_of_ble_eq_true rfl, Nat.le_of_ble_eq_true rfl⟩) (sl_vM_0 hA hK hP hS hZ) rfl rfl hl.1 rfl (lv_room (Nat.le_of_ble_eq_true rfl)) dX12_weightTo_10 ⟨Nat.le_refl _, Nat.le_refl _⟩) hA hS (fun r_4 f_1 L_2 Q_3 H locs hq hP hS => ?_)
      obtain ⟨⟨ef9, eL9, eQ9⟩, hq, u_5⟩ := hq
      replace hs := hs.trans (spl_e u_5 rfl)
      rw [ef9, eL9, eQ9] at hP; clear ef9 eL9 eQ9
      refine lv_icmp_ge (tgt := 62) hx hb dX12_weightTo_13 (by decide) (fun c => ?_) (fun c => ?_)
      · skip
        have c_6 : r_4.toInt ≤ y5_6.toInt := (by first | exact (bn_le c) | (have z := bn_le c; omega))
        refine lv_iload hx hb dX12_weightTo_62 (lv_at hl 4 rfl) ?_
        exact hret _ _ _ _ (y4_6) f L Q dX12_weightTo_64 hP hS ⟨⟨rfl, rfl, rfl⟩, trivial, (Eq.trans (Eq.symm (hs.trans ((if_neg (Int.not_lt.mpr c_6)).trans rfl))) hsp)⟩
      · skip
        have c_7 : y5_6.toInt < r_4.toInt := (by first | exact (bn_nle c) | (have z := bn_nle c; omega))
        refine lv_aload_n hx hb dX12_weightTo_16 rfl (lv_at hl 0 rfl) ?_
        refine lv_iload_n hx hb dX12_weightTo_17 rfl (lv_at hl 1 rfl) ?_
        refine lv_iload hx hb dX12_weightTo_18 (lv_at hl 5 rfl) ?_
        refine sg_calli (va_runV (As := [.int x0, .int y5_6]) (rest := []) ⟨hx, hb, hml, hown, hts⟩ (kX12_whoSits l D ca za h hh f L Q hI x0 y5_6 b0 ⟨by omega, by omega⟩ H.size) (sl_c12_whoSits_2_0_0_47_12 hts ⟨Nat.le_of_ble_eq_true rfl, Nat.le_of_ble_eq_true rfl⟩) (sl_vM_0 hA hK hP hS hZ) rfl rfl hl.1 rfl (lv_room (Nat.le_of_ble_eq_true rfl)) dX12_weightTo_20 ⟨Nat.le_refl _, Nat.le_refl _⟩) hA hS (fun r_11 f_8 L_9 Q_10 H locs hq hP hS => ?_)
        obtain ⟨⟨ef9, eL9, eQ9⟩, hq, u_12⟩ := hq
        replace hs := hs.trans ((if_pos c_7).trans (spl_e u_12 rfl))
        rw [ef9, eL9, eQ9] at hP; clear ef9 eL9 eQ9
        refine lv_istore (lv' := [(6, .int r_11), (0, .ref (h 0)), (1, .int x0), (2, .int x1), (3, .int x2), (4, .int y4_6), (5, .int y5_6)]) hx hb dX12_weightTo_23 hl (by decide) rfl (fun ls hl => ?_)
        refine lv_iload hx hb dX12_weightTo_25 (lv_at hl 5 rfl) ?_
        refine lv_iload hx hb dX12_weightTo_27 (lv_at hl 0 rfl) ?_
        refine lv_if_lt (tgt := 52) hx hb dX12_weightTo_29 (by decide) (fun c => ?_) (fun c => ?_)
        · skip
          have c_13 : r_11.toInt < 0 := (by first | exact (cm_lt1 ti_0 c) | (have z := bn_lt c; have k1 : (0 : Int32).toInt = 0 := ti_0; omega))
          refine lv_iconst (v := 0) hx hb dX12_weightTo_52 ic_0 ?_
          refine lv_iadd hx hb dX12_weightTo_53 ?_
          refine W.eq (g2 := F0 m 54 ls [.int y4_6]) (by rw [Int32.add_zero]) ?_
          refine lv_istore (lv' := [(4, .int y4_6), (6, .int r_11), (0, .ref (h 0)), (1, .int x0), (2, .int x1), (3, .int x2), (5, .int y5_6)]) hx hb dX12_weightTo_54 hl (by decide) rfl (fun ls hl => ?_)
          obtain ⟨v_15, ev_15⟩ : ∃ z : Int32, z = y5_6 + 1 := ⟨_, rfl⟩
          have q_16 : v_15.toInt = y5_6.toInt + 1 := by rw [ev_15]; exact (bn_addc y5_6 1 (by decide) (by omega) (by omega))
          refine lv_iinc (v := v_15) (lv' := [(5, .int v_15), (4, .int y4_6), (6, .int r_11), (0, .ref (h 0)), (1, .int x0), (2, .int x1), (3, .int x2)]) hx hb dX12_weightTo_56 hl (k := 6) rfl (by rw [ev_15]; rfl) (by decide) rfl (fun ls hl => ?_)
          refine lv_goto (tgt := 6) hx hb dX12_weightTo_59 (by decide) ?_
          exact ih_6 y4_6 v_15 _ _ _ (hs.trans ((if_pos c_13).trans (spl_e ev_15 rfl))) (by omega) ⟨by omega, by omega⟩ hP hS (lv_sub hl [3, 4, 5, 6, 1, 0] rfl)
        · skip
          have c_14 : 0 ≤ r_11.toInt := (by first | exact (cm_nlt1 ti_0 c) | (have z := bn_nlt c; have k1 : (0 : Int32).toInt = 0 := ti_0; omega))
          refine lv_aload_n hx hb dX12_weightTo_32 rfl (lv_at hl 1 rfl) ?_
          refine lv_iload hx hb dX12_weightTo_33 (lv_at hl 0 rfl) ?_
          refine lv_iload_n hx hb dX12_weightTo_35 rfl (lv_at hl 3 rfl) ?_
          refine sg_calli (va_runV (As := [.int r_11, .int x1]) (rest := [.int y4_6]) ⟨hx, hb, hml, hown, hts⟩ (kX12_numberOf l D ca za h hh f L Q hI r_11 x1 ⟨by omega, by omega⟩ ⟨by omega, by omega⟩ H.size) (sl_c12_numberOf_0_0_0_0_12 hts ⟨Nat.le_of_ble_eq_true rfl, Nat.le_of_ble_eq_true rfl⟩) (sl_vM_0 hA hK hP hS hZ) rfl rfl hl.1 rfl (lv_room (Nat.le_of_ble_eq_true rfl)) dX12_weightTo_36 ⟨Nat.le_refl _, Nat.le_refl _⟩) hA hS (fun r_20 f_17 L_18 Q_19 H locs hq hP hS => ?_)
          obtain ⟨⟨ef9, eL9, eQ9⟩, hq, u_21⟩ := hq
          replace hs := hs.trans ((if_neg (Int.not_lt.mpr c_14)).trans (spl_e u_21 rfl))
          rw [ef9, eL9, eQ9] at hP; clear ef9 eL9 eQ9
          refine lv_iload_n hx hb dX12_weightTo_39 rfl (lv_at hl 4 rfl) ?_
          refine lv_icmp_gt (tgt := 52) hx hb dX12_weightTo_40 (by decide) (fun c => ?_) (fun c => ?_)
          · skip
            have c_22 : x2.toInt < r_20.toInt := (by first | exact (bn_lt c) | (have z := bn_lt c; omega))
            refine lv_iconst (v := 0) hx hb dX12_weightTo_52 ic_0 ?_
            refine lv_iadd hx hb dX12_weightTo_53 ?_
            refine W.eq (g2 := F0 m 54 ls [.int y4_6]) (by rw [Int32.add_zero]) ?_
            refine lv_istore (lv' := [(4, .int y4_6), (6, .int r_11), (0, .ref (h 0)), (1, .int x0), (2, .int x1), (3, .int x2), (5, .int y5_6)]) hx hb dX12_weightTo_54 hl (by decide) rfl (fun ls hl => ?_)
            obtain ⟨v_24, ev_24⟩ : ∃ z : Int32, z = y5_6 + 1 := ⟨_, rfl⟩
            have q_25 : v_24.toInt = y5_6.toInt + 1 := by rw [ev_24]; exact (bn_addc y5_6 1 (by decide) (by omega) (by omega))
            refine lv_iinc (v := v_24) (lv' := [(5, .int v_24), (4, .int y4_6), (6, .int r_11), (0, .ref (h 0)), (1, .int x0), (2, .int x1), (3, .int x2)]) hx hb dX12_weightTo_56 hl (k := 6) rfl (by rw [ev_24]; rfl) (by decide) rfl (fun ls hl => ?_)
            refine lv_goto (tgt := 6) hx hb dX12_weightTo_59 (by decide) ?_
            exact ih_6 y4_6 v_24 _ _ _ (hs.trans ((if_pos c_22).trans (spl_e ev_24 rfl))) (by omega) ⟨by omega, by omega⟩ hP hS (lv_sub hl [3, 4, 5, 6, 1, 0] rfl)
          · skip
            have c_23 : r_20.toInt ≤ x2.toInt := (by first | exact (bn_nlt c) | (have z := bn_nlt c; omega))
            refine lv_aload_n hx hb dX12_weightTo_43 rfl (lv_at hl 1 rfl) ?_
            refine lv_iload hx hb dX12_weightTo_44 (lv_at hl 0 rfl) ?_
            refine sg_calli (va_runV (As := [.int r_11]) (rest := [.int y4_6]) ⟨hx, hb, hml, hown, hts⟩ (kX12_weightOf l D ca za h hh f L Q hI r_11 ⟨by omega, by omega⟩ H.size) (sl_c12_weightOf_1_0_0_22_12 hts ⟨Nat.le_of_ble_eq_true rfl, Nat.le_of_ble_eq_true rfl⟩) (sl_vM_0 hA hK hP hS hZ) rfl rfl hl.1 rfl (lv_room (Nat.le_of_ble_eq_true rfl)) dX12_weightTo_46 ⟨Nat.le_refl _, Nat.le_refl _⟩) hA hS (fun r_29 f_26 L_27 Q_28 H locs hq hP hS => ?_)
            obtain ⟨⟨ef9, eL9, eQ9⟩, hq, u_30⟩ := hq
            rw [ef9, eL9, eQ9] at hP; clear ef9 eL9 eQ9
            refine lv_goto (tgt := 53) hx hb dX12_weightTo_49 (by decide) ?_
            refine lv_iadd hx hb dX12_weightTo_53 ?_
            refine lv_topi (fun v_31 ev_31 => ?_)
            refine lv_istore (lv' := [(4, .int v_31), (6, .int r_11), (0, .ref (h 0)), (1, .int x0), (2, .int x1), (3, .int x2), (5, .int y5_6)]) hx hb dX12_weightTo_54 hl (by decide) rfl (fun ls hl => ?_)
            obtain ⟨v_32, ev_32⟩ : ∃ z : Int32, z = y5_6 + 1 := ⟨_, rfl⟩
            have q_33 : v_32.toInt = y5_6.toInt + 1 := by rw [ev_32]; exact (bn_addc y5_6 1 (by decide) (by omega) (by omega))
            refine lv_iinc (v := v_32) (lv' := [(5, .int v_32), (4, .int v_31), (6, .int r_11), (0, .ref (h 0)), (1, .int x0), (2, .int x1), (3, .int x2)]) hx hb dX12_weightTo_56 hl (k := 6) rfl (by rw [ev_32]; rfl) (by decide) rfl (fun ls hl => ?_)
            refine lv_goto (tgt := 6) hx hb dX12_weightTo_59 (by decide) ?_
            exact ih_6 v_31 v_32 _ _ _ (hs.trans ((if_neg (Int.not_lt.mpr c_23)).trans (spl_e u_30 (spl_e ev_31 (spl_e ev_32 rfl))))) (by omega) ⟨by omega, by omega⟩ hP hS (lv_sub hl [3, 4, 5, 6, 1, 0] rfl)
  refine lv_iconst (v := 0) hx hb dX12_weightTo_0 ic_0 ?_
  refine lv_istore (lv' := [(4, .int 0), (0, .ref (h 0)), (1, .int x0), (2, .int x1), (3, .int x2)]) hx hb dX12_weightTo_1 hl (by decide) rfl (fun ls hl => ?_)
  refine lv_iconst (v := 0) hx hb dX12_weightTo_3 ic_0 ?_
  refine lv_istore (lv' := [(5, .int 0), (4, .int 0), (0, .ref (h 0)), (1, .int x0), (2, .int x1), (3, .int x2)]) hx hb dX12_weightTo_4 hl (by decide) rfl (fun ls hl => ?_)
  exact loop_6 22 0 0 _ _ _ hs (by have kc0 : (0 : Int32).toInt = 0 := ti_0; have kc1 : (0 : Int32).toInt = 0 := ti_0; omega) (by decide) hP hS (lv_sub hl [2, 3, 4, 5, 1, 0] rfl)

set_option maxHeartbeats 4000000 in
set_option maxRecDepth 100000 in
theorem kX12_isWanted (l : Launch) (D : va_G) (ca : Nat → ClassId) (za h : Nat → Nat) (hh : sgH 26 h) (f : sg_F) (L : sg_L) (Q : sg_Q) (hI : sgI loM hiM f) (x0 : Int32) (x1 : Int32) (x2 : Int32) (b0 : 0 ≤ x0.toInt ∧ x0.toInt ≤ 5) (b1 : 0 ≤ x1.toInt ∧ x1.toInt ≤ 2) (b2 : 0 ≤ x2.toInt ∧ x2.toInt ≤ 60) (sz : Nat) : Met l yX12_isWanted gwX12_isWanted { frames := 3, cells := 0, slots := 0, locals := 71 } (sgP D vwCl (tyX ca) 26 h (eM ca h) zcM za f L Q sz [.ref (h 0), .int x0, .int x1, .int x2]) (sgQi D vwCl 26 h (eM ca h) sz (fun r f1 L1 Q1 => ((f1 = f ∧ L1 = L ∧ Q1 = Q) ∧ (0 ≤ r.toInt ∧ r.toInt ≤ 1) ∧ (r) = sX12_isWanted x0 x1 x2 f L))) 0 0 (sgA 26 h sz) := by
  refine sg_ofWz (cc := cX12_isWanted) (maxL := 5) RX12 (by decide) rfl rfl (Nat.le_of_ble_eq_true rfl) ?_
  intro p e s m below meth cd Qz ls hx hb hml hown hts hK hZ hP hS hl hret
  have hA := sgY.self (n := 26) (h := h) (sz := s.heap.size)
  have hl : lv_has ls 5 [(0, .ref (h 0)), (1, .int x0), (2, .int x1), (3, .int x2)] := hl
  obtain ⟨H, hH⟩ : ∃ z : Heap, z = s.heap := ⟨_, rfl⟩
  obtain ⟨locs, hlo⟩ : ∃ z : List Loc, z = [] := ⟨_, rfl⟩
  have hP : va_P D vwCl (sgw 26 h (eM ca h) f L Q) H := by rw [hH]; exact hP
  have hS : va_S (sgA 26 h s.heap.size) s.heap H locs := by rw [hH, hlo]; exact hS
  suffices hgo : W p l e ({ frames := 3, cells := 0, slots := 0, locals := 71 }) s m ([.ref (h 0), .int x0, .int x1, .int x2] : List Value).toArray below meth cd H locs 0 0 Qz (F0 m 0 ls []) by rw [hH, hlo] at hgo; exact hgo
  clear hH hlo
  obtain ⟨sp, hsp⟩ : ∃ z : Int32, z = sX12_isWanted x0 x1 x2 f L := ⟨_, rfl⟩
  have hs : sp = sX12_isWanted x0 x1 x2 f L := hsp
  have loop_3 : ∀ (n_3 : Nat) (y4_3 : Int32) (H : Heap) (locs : List Loc) (ls : Array Slot), sp = sX12_isWanted_l3 x0 x1 x2 n_3 y4_3 f L → 21 - y4_3.toInt < (n_3 : Int) → 0 ≤ y4_3.toInt ∧ y4_3.toInt ≤ 21 → va_P D vwCl (sgw 26 h (eM ca h) f L Q) H → va_S (sgA 26 h s.heap.size) s.heap H locs → lv_has ls 5 [(0, .ref (h 0)), (1, .int x0), (2, .int x1), (3, .int x2), (4, .int y4_3)] → W p l e ({ frames := 3, cells := 0, slots := 0, locals := 71 }) s m ([.ref (h 0), .int x0, .int x1, .int x2] : List Value).toArray below meth cd H locs 0 0 Qz (F0 m 3 ls []) := by
    intro n_3
    induction n_3 with
    | zero => intro y4_3 H locs ls hs hm_3 hy0_3 hP hS hl; exact absurd hm_3 (by omega)
    | succ n_3 ih_3 =>
      have blk_41 : ∀ (y4_41 : Int32) (H : Heap) (locs : List Loc) (ls : Array Slot), sp = sX12_isWanted_b41 (sX12_isWanted_l3 x0 x1 x2 n_3) x0 x1 x2 y4_41 f L → 21 - y4_41.toInt < ((n_3 + 1 : Nat) : Int) → 0 ≤ y4_41.toInt ∧ y4_41.toInt ≤ 20 → va_P D vwCl (sgw 26 h (eM ca h) f L Q) H → va_S (sgA 26 h s.heap.size) s.heap H locs → lv_has ls 5 [(0, .ref (h 0)), (1, .int x0), (2, .int x1), (3, .int x2), (4, .int y4_41)] → W p l e ({ frames := 3, cells := 0, slots := 0, locals := 71 }) s m ([.ref (h 0), .int x0, .int x1, .int x2] : List Value).toArray below meth cd H locs 0 0 Qz (F0 m 41 ls []) := by
        intro y4_41 H locs ls hs hm_3 hy0_41 hP hS hl
        obtain ⟨v_1, ev_1⟩ : ∃ z : Int32, z = y4_41 + 1 := ⟨_, rfl⟩
        have q_2 : v_1.toInt = y4_41.toInt + 1 := by rw [ev_1]; exact (bn_addc y4_41 1 (by decide) (by omega) (by omega))
        refine lv_iinc (v := v_1) (lv' := [(4, .int v_1), (0, .ref (h 0)), (1, .int x0), (2, .int x1), (3, .int x2)]) hx hb dX12_isWanted_41 hl (k := 4) rfl (by rw [ev_1]; rfl) (by decide) rfl (fun ls hl => ?_)
        refine lv_goto (tgt := 3) hx hb dX12_isWanted_44 (by decide) ?_
        exact ih_3 v_1 _ _ _ (hs.trans ((spl_e ev_1 rfl))) (by omega) ⟨by omega, by omega⟩ hP hS (lv_sub hl [1, 2, 3, 4, 0] rfl)
      intro y4_3 H locs ls hs hm_3 hy0_3 hP hS hl
      have hs : sp = sX12_isWanted_h3 x0 x1 x2 (sX12_isWanted_l3 x0 x1 x2 n_3) y4_3 f L := hs
      refine lv_iload hx hb dX12_isWanted_3 (lv_at hl 4 rfl) ?_
      refine lv_aload_n hx hb dX12_isWanted_5 rfl (lv_at hl 0 rfl) ?_
      refine lv_iload_n hx hb dX12_isWanted_6 rfl (lv_at hl 1 rfl) ?_
      refine sg_calli (va_runV (As := [.int x0]) (rest := [.int y4_3]) ⟨hx, hb, hml, hown, hts⟩ (kX12_shiftsOf l D ca za h hh f L Q hI x0 b0 H.size) (sl_c12_shiftsOf_0_0_0_0_12 hts ⟨Nat.le_of_ble_eq_true rfl, Nat.le_of_ble_eq_true rfl⟩) (sl_vM_0 hA hK hP hS hZ) rfl rfl hl.1 rfl (lv_room (Nat.le_of_ble_eq_true rfl)) dX12_isWanted_7 ⟨Nat.le_refl _, Nat.le_refl _⟩) hA hS (fun r_6 f_3 L_4 Q_5 H locs hq hP hS => ?_)
      obtain ⟨⟨ef9, eL9, eQ9⟩, hq, u_7⟩ := hq
      replace hs := hs.trans (spl_e u_7 rfl)
      rw [ef9, eL9, eQ9] at hP; clear ef9 eL9 eQ9
      refine lv_icmp_ge (tgt := 47) hx hb dX12_isWanted_10 (by decide) (fun c => ?_) (fun c => ?_)
      · skip
        have c_8 : r_6.toInt ≤ y4_3.toInt := (by first | exact (bn_le c) | (have z := bn_le c; omega))
        refine lv_iconst (v := 0) hx hb dX12_isWanted_47 ic_0 ?_
        have k99 : (0 : Int32).toInt = 0 := ti_0
        exact hret _ _ _ _ (0) f L Q dX12_isWanted_48 (by decide) hP hS ⟨⟨rfl, rfl, rfl⟩, (by decide), (Eq.trans (Eq.symm (hs.trans ((if_neg (Int.not_lt.mpr c_8)).trans rfl))) hsp)⟩
      · skip
        have c_9 : y4_3.toInt < r_6.toInt := (by first | exact (bn_nle c) | (have z := bn_nle c; omega))
        refine lv_aload_n hx hb dX12_isWanted_13 rfl (lv_at hl 0 rfl) ?_
        refine lv_iload_n hx hb dX12_isWanted_14 rfl (lv_at hl 1 rfl) ?_
        refine lv_iload hx hb dX12_isWanted_15 (lv_at hl 4 rfl) ?_
        refine sg_calli (va_runV (As := [.int x0, .int y4_3]) (rest := []) ⟨hx, hb, hml, hown, hts⟩ (kX12_whoSits l D ca za h hh f L Q hI x0 y4_3 b0 ⟨by omega, by omega⟩ H.size) (sl_c12_whoSits_2_0_0_47_12 hts ⟨Nat.le_of_ble_eq_true rfl, Nat.le_of_ble_eq_true rfl⟩) (sl_vM_0 hA hK hP hS hZ) rfl rfl hl.1 rfl (lv_room (Nat.le_of_ble_eq_true rfl)) dX12_isWanted_17 ⟨Nat.le_refl _, Nat.le_refl _⟩) hA hS (fun r_13 f_10 L_11 Q_12 H locs hq hP hS => ?_)
        obtain ⟨⟨ef9, eL9, eQ9⟩, hq, u_14⟩ := hq
        replace hs := hs.trans ((if_pos c_9).trans (spl_e u_14 rfl))
        rw [ef9, eL9, eQ9] at hP; clear ef9 eL9 eQ9
        refine lv_if_lt (tgt := 41) hx hb dX12_isWanted_20 (by decide) (fun c => ?_) (fun c => ?_)
        · skip
          have c_15 : r_13.toInt < 0 := (by first | exact (cm_lt1 ti_0 c) | (have z := bn_lt c; have k1 : (0 : Int32).toInt = 0 := ti_0; omega))
          exact blk_41 y4_3 _ _ _ (hs.trans ((if_pos c_15).trans rfl)) (by omega) ⟨by omega, by omega⟩ hP hS (lv_sub hl [0, 1, 2, 3, 4] rfl)
        · skip
          have c_16 : 0 ≤ r_13.toInt := (by first | exact (cm_nlt1 ti_0 c) | (have z := bn_nlt c; have k1 : (0 : Int32).toInt = 0 := ti_0; omega))
          refine lv_aload_n hx hb dX12_isWanted_23 rfl (lv_at hl 0 rfl) ?_
          refine lv_aload_n hx hb dX12_isWanted_24 rfl (lv_at hl 0 rfl) ?_
          refine lv_iload_n hx hb dX12_isWanted_25 rfl (lv_at hl 1 rfl) ?_
          refine lv_iload hx hb dX12_isWanted_26 (lv_at hl 4 rfl) ?_
          refine sg_calli (va_runV (As := [.int x0, .int y4_3]) (rest := [.ref (h 0)]) ⟨hx, hb, hml, hown, hts⟩ (kX12_whoSits l D ca za h hh f L Q hI x0 y4_3 b0 ⟨by omega, by omega⟩ H.size) (sl_c12_whoSits_2_0_0_47_12 hts ⟨Nat.le_of_ble_eq_true rfl, Nat.le_of_ble_eq_true rfl⟩) (sl_vM_0 hA hK hP hS hZ) rfl rfl hl.1 rfl (lv_room (Nat.le_of_ble_eq_true rfl)) dX12_isWanted_28 ⟨Nat.le_refl _, Nat.le_refl _⟩) hA hS (fun r_20 f_17 L_18 Q_19 H locs hq hP hS => ?_)
          obtain ⟨⟨ef9, eL9, eQ9⟩, hq, u_21⟩ := hq
          rw [ef9, eL9, eQ9] at hP; clear ef9 eL9 eQ9
          rw [show r_20 = r_13 from u_21.trans u_14.symm]
          refine lv_iload_n hx hb dX12_isWanted_31 rfl (lv_at hl 2 rfl) ?_
          refine sg_calli (va_runV (As := [.int r_13, .int x1]) (rest := []) ⟨hx, hb, hml, hown, hts⟩ (kX12_numberOf l D ca za h hh f L Q hI r_13 x1 ⟨by omega, by omega⟩ ⟨by omega, by omega⟩ H.size) (sl_c12_numberOf_0_0_0_0_12 hts ⟨Nat.le_of_ble_eq_true rfl, Nat.le_of_ble_eq_true rfl⟩) (sl_vM_0 hA hK hP hS hZ) rfl rfl hl.1 rfl (lv_room (Nat.le_of_ble_eq_true rfl)) dX12_isWanted_32 ⟨Nat.le_refl _, Nat.le_refl _⟩) hA hS (fun r_25 f_22 L_23 Q_24 H locs hq hP hS => ?_)
          obtain ⟨⟨ef9, eL9, eQ9⟩, hq, u_26⟩ := hq
          replace hs := hs.trans ((if_neg (Int.not_lt.mpr c_16)).trans (spl_e u_26 rfl))
          rw [ef9, eL9, eQ9] at hP; clear ef9 eL9 eQ9
          refine lv_iload_n hx hb dX12_isWanted_35 rfl (lv_at hl 3 rfl) ?_
          refine lv_icmp_ne (tgt := 41) hx hb dX12_isWanted_36 (by decide) (fun c => ?_) (fun c => ?_)
          · skip
            have c_27 : r_25.toInt ≠ x2.toInt := (by first | exact (bn_ne c) | (have z := bn_ne c; omega))
            exact blk_41 y4_3 _ _ _ (hs.trans ((if_neg c_27).trans rfl)) (by omega) ⟨by omega, by omega⟩ hP hS (lv_sub hl [0, 1, 2, 3, 4] rfl)
          · skip
            have c_28 : r_25.toInt = x2.toInt := (by first | exact (Int32.toInt_inj.mpr c) | (have z := Int32.toInt_inj.mpr c; omega))
            refine lv_iconst (v := 1) hx hb dX12_isWanted_39 ic_1 ?_
            have k99 : (1 : Int32).toInt = 1 := ti_1
            exact hret _ _ _ _ (1) f L Q dX12_isWanted_40 (by decide) hP hS ⟨⟨rfl, rfl, rfl⟩, (by decide), (Eq.trans (Eq.symm (hs.trans ((if_pos c_28).trans rfl))) hsp)⟩
  refine lv_iconst (v := 0) hx hb dX12_isWanted_0 ic_0 ?_
  refine lv_istore (lv' := [(4, .int 0), (0, .ref (h 0)), (1, .int x0), (2, .int x1), (3, .int x2)]) hx hb dX12_isWanted_1 hl (by decide) rfl (fun ls hl => ?_)
  exact loop_3 22 0 _ _ _ hs (by have kc0 : (0 : Int32).toInt = 0 := ti_0; omega) (by decide) hP hS (lv_sub hl [1, 2, 3, 4, 0] rfl)

set_option maxHeartbeats 4000000 in
set_option maxRecDepth 100000 in
theorem kX12_middle (l : Launch) (D : va_G) (ca : Nat → ClassId) (za h : Nat → Nat) (hh : sgH 26 h) (f : sg_F) (L : sg_L) (Q : sg_Q) (hI : sgI loM hiM f) (x0 : Int32) (x1 : Int32) (sz : Nat) : Met l yX12_middle gwX12_middle { frames := 4, cells := 0, slots := 0, locals := 97 } (sgP D vwCl (tyX ca) 26 h (eM ca h) zcM za f L Q sz [.ref (h 0), .int x0, .int x1]) (sgQi D vwCl 26 h (eM ca h) sz (fun r f1 L1 Q1 => ((f1 = f ∧ L1 = L ∧ Q1 = Q) ∧ ((-12) ≤ r.toInt ∧ r.toInt ≤ 60) ∧ (r) = sX12_middle x0 x1 f L))) 0 0 (sgA 26 h sz) := by
  refine sg_ofWi (cc := cX12_middle) (maxL := 5) RX12 (by decide) rfl rfl (Nat.le_of_ble_eq_true rfl) ?_
  intro p e s m below meth cd Qz ls hx hb hml hown hts hK hZ hP hS hl hret
  have hA := sgY.self (n := 26) (h := h) (sz := s.heap.size)
  have hl : lv_has ls 5 [(0, .ref (h 0)), (1, .int x0), (2, .int x1)] := hl
  obtain ⟨H, hH⟩ : ∃ z : Heap, z = s.heap := ⟨_, rfl⟩
  obtain ⟨locs, hlo⟩ : ∃ z : List Loc, z = [] := ⟨_, rfl⟩
  have hP : va_P D vwCl (sgw 26 h (eM ca h) f L Q) H := by rw [hH]; exact hP
  have hS : va_S (sgA 26 h s.heap.size) s.heap H locs := by rw [hH, hlo]; exact hS
  suffices hgo : W p l e ({ frames := 4, cells := 0, slots := 0, locals := 97 }) s m ([.ref (h 0), .int x0, .int x1] : List Value).toArray below meth cd H locs 0 0 Qz (F0 m 0 ls []) by rw [hH, hlo] at hgo; exact hgo
  clear hH hlo
  obtain ⟨sp, hsp⟩ : ∃ z : Int32, z = sX12_middle x0 x1 f L := ⟨_, rfl⟩
  have hs : sp = sX12_middle x0 x1 f L := hsp
  have loop_44 : ∀ (n_44 : Nat) (y3_44 : Int32) (y4_44 : Int32) (H : Heap) (locs : List Loc) (ls : Array Slot), sp = sX12_middle_l44 x0 x1 n_44 y3_44 y4_44 f L → 61 - y4_44.toInt < (n_44 : Int) → 0 ≤ x0.toInt ∧ x0.toInt ≤ 5 → 0 ≤ x1.toInt ∧ x1.toInt ≤ 2 → 0 ≤ y4_44.toInt ∧ y4_44.toInt ≤ 61 → va_P D vwCl (sgw 26 h (eM ca h) f L Q) H → va_S (sgA 26 h s.heap.size) s.heap H locs → lv_has ls 5 [(0, .ref (h 0)), (1, .int x0), (2, .int x1), (3, .int y3_44), (4, .int y4_44)] → W p l e ({ frames := 4, cells := 0, slots := 0, locals := 97 }) s m ([.ref (h 0), .int x0, .int x1] : List Value).toArray below meth cd H locs 0 0 Qz (F0 m 44 ls []) := by
    intro n_44
    induction n_44 with
    | zero => intro y3_44 y4_44 H locs ls hs hm_44 hy0_44 hy1_44 hy2_44 hP hS hl; exact absurd hm_44 (by omega)
    | succ n_44 ih_44 =>
      have blk_79 : ∀ (y3_79 : Int32) (y4_79 : Int32) (H : Heap) (locs : List Loc) (ls : Array Slot), sp = sX12_middle_b79 (sX12_middle_l44 x0 x1 n_44) x0 x1 y3_79 y4_79 f L → 61 - y4_79.toInt < ((n_44 + 1 : Nat) : Int) → 0 ≤ x0.toInt ∧ x0.toInt ≤ 5 → 0 ≤ x1.toInt ∧ x1.toInt ≤ 2 → 0 ≤ y4_79.toInt ∧ y4_79.toInt ≤ 60 → va_P D vwCl (sgw 26 h (eM ca h) f L Q) H → va_S (sgA 26 h s.heap.size) s.heap H locs → lv_has ls 5 [(0, .ref (h 0)), (1, .int x0), (2, .int x1), (3, .int y3_79), (4, .int y4_79)] → W p l e ({ frames := 4, cells := 0, slots := 0, locals := 97 }) s m ([.ref (h 0), .int x0, .int x1] : List Value).toArray below meth cd H locs 0 0 Qz (F0 m 79 ls []) := by
        intro y3_79 y4_79 H locs ls hs hm_44 hy0_79 hy1_79 hy2_79 hP hS hl
        obtain ⟨v_1, ev_1⟩ : ∃ z : Int32, z = y4_79 + 1 := ⟨_, rfl⟩
        have q_2 : v_1.toInt = y4_79.toInt + 1 := by rw [ev_1]; exact (bn_addc y4_79 1 (by decide) (by omega) (by omega))
        refine lv_iinc (v := v_1) (lv' := [(4, .int v_1), (0, .ref (h 0)), (1, .int x0), (2, .int x1), (3, .int y3_79)]) hx hb dX12_middle_79 hl (k := 4) rfl (by rw [ev_1]; rfl) (by decide) rfl (fun ls hl => ?_)
        refine lv_goto (tgt := 44) hx hb dX12_middle_82 (by decide) ?_
        exact ih_44 y3_79 v_1 _ _ _ (hs.trans ((spl_e ev_1 rfl))) (by omega) hy0_79 hy1_79 ⟨by omega, by omega⟩ hP hS (lv_sub hl [1, 2, 3, 4, 0] rfl)
      intro y3_44 y4_44 H locs ls hs hm_44 hy0_44 hy1_44 hy2_44 hP hS hl
      have hs : sp = sX12_middle_h44 x0 x1 (sX12_middle_l44 x0 x1 n_44) y3_44 y4_44 f L := hs
      refine lv_iload hx hb dX12_middle_44 (lv_at hl 4 rfl) ?_
      refine lv_bipush (v := 61) hx hb dX12_middle_46 bp_61 ?_
      refine lv_icmp_ge (tgt := 85) hx hb dX12_middle_48 (by decide) (fun c => ?_) (fun c => ?_)
      · skip
        have c_3 : 61 ≤ y4_44.toInt := (by first | exact (cm_le0 ti_61 c) | (have z := bn_le c; have k1 : (61 : Int32).toInt = 61 := ti_61; omega))
        refine lv_bipush (v := (-2)) hx hb dX12_middle_85 bp_m2 ?_
        have k99 : ((-2) : Int32).toInt = (-2) := ti_m2
        exact hret _ _ _ _ (-2) f L Q dX12_middle_87 hP hS ⟨⟨rfl, rfl, rfl⟩, (by decide), (Eq.trans (Eq.symm (hs.trans (((if_neg (Int.not_lt.mpr c_3)).trans rfl)))) hsp)⟩
      · skip
        have c_4 : y4_44.toInt < 61 := (by first | exact (cm_nle0 ti_61 c) | (have z := bn_nle c; have k1 : (61 : Int32).toInt = 61 := ti_61; omega))
        refine lv_aload_n hx hb dX12_middle_51 rfl (lv_at hl 0 rfl) ?_
        refine lv_iload_n hx hb dX12_middle_52 rfl (lv_at hl 1 rfl) ?_
        refine lv_iload_n hx hb dX12_middle_53 rfl (lv_at hl 2 rfl) ?_
        refine lv_iload hx hb dX12_middle_54 (lv_at hl 4 rfl) ?_
        refine sg_calli (va_runV (As := [.int x0, .int x1, .int y4_44]) (rest := []) ⟨hx, hb, hml, hown, hts⟩ (kX12_isWanted l D ca za h hh f L Q hI x0 x1 y4_44 hy0_44 hy1_44 ⟨by omega, by omega⟩ H.size) (sl_c12_isWanted_3_0_0_71_12 hts ⟨Nat.le_of_ble_eq_true rfl, Nat.le_of_ble_eq_true rfl⟩) (sl_vM_0 hA hK hP hS hZ) rfl rfl hl.1 rfl (lv_room (Nat.le_of_ble_eq_true rfl)) dX12_middle_56 ⟨Nat.le_refl _, Nat.le_refl _⟩) hA hS (fun r_8 f_5 L_6 Q_7 H locs hq hP hS => ?_)
        obtain ⟨⟨ef9, eL9, eQ9⟩, hq, u_9⟩ := hq
        replace hs := hs.trans ((if_pos c_4).trans (spl_e u_9 rfl))
        rw [ef9, eL9, eQ9] at hP; clear ef9 eL9 eQ9
        refine lv_if_eq (tgt := 79) hx hb dX12_middle_59 (by decide) (fun c => ?_) (fun c => ?_)
        · skip
          have c_10 : r_8.toInt = 0 := (by first | exact (cm_eq1 ti_0 c) | (have z := Int32.toInt_inj.mpr c; have k1 : (0 : Int32).toInt = 0 := ti_0; omega))
          exact blk_79 y3_44 y4_44 _ _ _ (hs.trans ((if_pos c_10).trans rfl)) (by omega) hy0_44 hy1_44 ⟨by omega, by omega⟩ hP hS (lv_sub hl [0, 1, 2, 3, 4] rfl)
        · skip
          have c_11 : r_8.toInt ≠ 0 := (by first | exact (cm_ne1 ti_0 c) | (have z := bn_ne c; have k1 : (0 : Int32).toInt = 0 := ti_0; omega))
          refine lv_iconst (v := 2) hx hb dX12_middle_62 ic_2 ?_
          refine lv_aload_n hx hb dX12_middle_63 rfl (lv_at hl 0 rfl) ?_
          refine lv_iload_n hx hb dX12_middle_64 rfl (lv_at hl 1 rfl) ?_
          refine lv_iload_n hx hb dX12_middle_65 rfl (lv_at hl 2 rfl) ?_
          refine lv_iload hx hb dX12_middle_66 (lv_at hl 4 rfl) ?_
          refine sg_calli (va_runV (As := [.int x0, .int x1, .int y4_44]) (rest := [.int 2]) ⟨hx, hb, hml, hown, hts⟩ (kX12_weightTo l D ca za h hh f L Q hI x0 x1 y4_44 hy0_44 hy1_44 ⟨by omega, by omega⟩ H.size) (sl_c12_weightTo_3_0_0_71_12 hts ⟨Nat.le_of_ble_eq_true rfl, Nat.le_of_ble_eq_true rfl⟩) (sl_vM_0 hA hK hP hS hZ) rfl rfl hl.1 rfl (lv_room (Nat.le_of_ble_eq_true rfl)) dX12_middle_68 ⟨Nat.le_refl _, Nat.le_refl _⟩) hA hS (fun r_15 f_12 L_13 Q_14 H locs hq hP hS => ?_)
          obtain ⟨⟨ef9, eL9, eQ9⟩, hq, u_16⟩ := hq
          rw [ef9, eL9, eQ9] at hP; clear ef9 eL9 eQ9
          refine lv_imul hx hb dX12_middle_71 ?_
          refine lv_topi (fun v_17 ev_17 => ?_)
          replace hs := hs.trans ((if_neg c_11).trans (spl_e u_16 (spl_e ev_17 rfl)))
          refine lv_iload_n hx hb dX12_middle_72 rfl (lv_at hl 3 rfl) ?_
          refine lv_icmp_lt (tgt := 79) hx hb dX12_middle_73 (by decide) (fun c => ?_) (fun c => ?_)
          · skip
            have c_18 : v_17.toInt < y3_44.toInt := (by first | exact (bn_lt c) | (have z := bn_lt c; omega))
            exact blk_79 y3_44 y4_44 _ _ _ (hs.trans ((if_pos c_18).trans rfl)) (by omega) hy0_44 hy1_44 ⟨by omega, by omega⟩ hP hS (lv_sub hl [0, 1, 2, 3, 4] rfl)
          · skip
            have c_19 : y3_44.toInt ≤ v_17.toInt := (by first | exact (bn_nlt c) | (have z := bn_nlt c; omega))
            refine lv_iload hx hb dX12_middle_76 (lv_at hl 4 rfl) ?_
            exact hret _ _ _ _ (y4_44) f L Q dX12_middle_78 hP hS ⟨⟨rfl, rfl, rfl⟩, ⟨by omega, by omega⟩, (Eq.trans (Eq.symm (hs.trans ((if_neg (Int.not_lt.mpr c_19)).trans rfl))) hsp)⟩
  refine lv_aload_n hx hb dX12_middle_0 rfl (lv_at hl 0 rfl) ?_
  refine lv_iload_n hx hb dX12_middle_1 rfl (lv_at hl 1 rfl) ?_
  refine sg_calli (va_runV (As := [.int x0]) (rest := []) ⟨hx, hb, hml, hown, hts⟩ (kX12_bytesIs l D ca za h hh f L Q hI x0 H.size) (sl_c12_bytesIs_2_0_0_45_12 hts ⟨Nat.le_of_ble_eq_true rfl, Nat.le_of_ble_eq_true rfl⟩) (sl_vM_0 hA hK hP hS hZ) rfl rfl hl.1 rfl (lv_room (Nat.le_of_ble_eq_true rfl)) dX12_middle_2 ⟨Nat.le_refl _, Nat.le_refl _⟩) hA hS (fun r_23 f_20 L_21 Q_22 H locs hq hP hS => ?_)
  obtain ⟨⟨ef9, eL9, eQ9⟩, hq, u_24⟩ := hq
  replace hs := hs.trans (spl_e u_24 rfl)
  rw [ef9, eL9, eQ9] at hP; clear ef9 eL9 eQ9
  rcases hq with ⟨rfl, hq⟩ | hq | ⟨rfl, hq⟩
  · skip
    have hc_25 := hq
    refine lv_iconst (v := (-1)) hx hb dX12_middle_5 ic_m1 ?_
    refine lv_icmp_eq (tgt := 16) hx hb dX12_middle_6 (by decide) (fun c => absurd c (by decide)) (fun c => ?_)
    refine lv_iload_n hx hb dX12_middle_9 rfl (lv_at hl 2 rfl) ?_
    refine sg_calli (va_runS (As := [.int x1]) (rest := []) ⟨hx, hb, hml, hown, hts⟩ (kX12_isPart l D ca za h hh f L Q hI x1 H.size) (va_cwS 1 hts (gw_S (fun _ h => List.mem_cons_of_mem _ h) mw_636 mw_637 mw_619 mw_635) rfl rfl rfl hd_yX12_isPart.2 ⟨Nat.le_of_ble_eq_true rfl, Nat.le_of_ble_eq_true rfl⟩) (sg_preS hA hK hP hS hZ) rfl rfl hl.1 rfl (lv_room (Nat.le_of_ble_eq_true rfl)) dX12_middle_10 ⟨Nat.le_refl _, Nat.le_refl _⟩) hA hS (fun r_29 f_26 L_27 Q_28 H locs hq hP hS => ?_)
    obtain ⟨⟨ef9, eL9, eQ9⟩, hq, u_30⟩ := hq
    replace hs := hs.trans ((if_pos rfl).trans (spl_e u_30 rfl))
    rw [ef9, eL9, eQ9] at hP; clear ef9 eL9 eQ9
    rcases hq with ⟨rfl, hq⟩ | ⟨rfl, hq⟩
    · skip
      have hc_31 := hq
      refine lv_if_ne (tgt := 18) hx hb dX12_middle_13 (by decide) (fun c => ?_) (fun c => absurd c (by decide))
      refine lv_aload_n hx hb dX12_middle_18 rfl (lv_at hl 0 rfl) ?_
      refine lv_iload_n hx hb dX12_middle_19 rfl (lv_at hl 1 rfl) ?_
      refine sg_calli (va_runV (As := [.int x0]) (rest := []) ⟨hx, hb, hml, hown, hts⟩ (kX12_bytesIs l D ca za h hh f L Q hI x0 H.size) (sl_c12_bytesIs_2_0_0_45_12 hts ⟨Nat.le_of_ble_eq_true rfl, Nat.le_of_ble_eq_true rfl⟩) (sl_vM_0 hA hK hP hS hZ) rfl rfl hl.1 rfl (lv_room (Nat.le_of_ble_eq_true rfl)) dX12_middle_20 ⟨Nat.le_refl _, Nat.le_refl _⟩) hA hS (fun r_35 f_32 L_33 Q_34 H locs hq hP hS => ?_)
      obtain ⟨⟨ef9, eL9, eQ9⟩, hq, u_36⟩ := hq
      rw [ef9, eL9, eQ9] at hP; clear ef9 eL9 eQ9
      rw [show r_35 = 1 from u_36.trans u_24.symm]
      refine lv_if_ge (tgt := 32) hx hb dX12_middle_23 (by decide) (fun c => ?_) (fun c => absurd c (by decide))
      refine lv_aload_n hx hb dX12_middle_32 rfl (lv_at hl 0 rfl) ?_
      refine lv_iload_n hx hb dX12_middle_33 rfl (lv_at hl 1 rfl) ?_
      refine lv_iload_n hx hb dX12_middle_34 rfl (lv_at hl 2 rfl) ?_
      refine lv_bipush (v := 60) hx hb dX12_middle_35 bp_60 ?_
      refine sg_calli (va_runV (As := [.int x0, .int x1, .int 60]) (rest := []) ⟨hx, hb, hml, hown, hts⟩ (kX12_weightTo l D ca za h hh f L Q hI x0 x1 60 ⟨by omega, by omega⟩ ⟨by omega, by omega⟩ (by decide) H.size) (sl_c12_weightTo_3_0_0_71_12 hts ⟨Nat.le_of_ble_eq_true rfl, Nat.le_of_ble_eq_true rfl⟩) (sl_vM_0 hA hK hP hS hZ) rfl rfl hl.1 rfl (lv_room (Nat.le_of_ble_eq_true rfl)) dX12_middle_37 ⟨Nat.le_refl _, Nat.le_refl _⟩) hA hS (fun r_40 f_37 L_38 Q_39 H locs hq hP hS => ?_)
      obtain ⟨⟨ef9, eL9, eQ9⟩, hq, u_41⟩ := hq
      rw [ef9, eL9, eQ9] at hP; clear ef9 eL9 eQ9
      refine lv_istore_n (lv' := [(3, .int r_40), (0, .ref (h 0)), (1, .int x0), (2, .int x1)]) hx hb dX12_middle_40 rfl hl (by decide) rfl (fun ls hl => ?_)
      refine lv_iconst (v := 0) hx hb dX12_middle_41 ic_0 ?_
      refine lv_istore (lv' := [(4, .int 0), (3, .int r_40), (0, .ref (h 0)), (1, .int x0), (2, .int x1)]) hx hb dX12_middle_42 hl (by decide) rfl (fun ls hl => ?_)
      exact loop_44 62 r_40 0 _ _ _ (hs.trans ((if_pos rfl).trans (spl_e u_41 rfl))) (by have kc1 : (0 : Int32).toInt = 0 := ti_0; omega) ⟨by omega, by omega⟩ ⟨by omega, by omega⟩ (by decide) hP hS (lv_sub hl [2, 3, 4, 1, 0] rfl)
    · skip
      have hc_31 := hq
      refine lv_if_ne (tgt := 18) hx hb dX12_middle_13 (by decide) (fun c => absurd c (by decide)) (fun c => ?_)
      refine lv_iconst (v := (-1)) hx hb dX12_middle_16 ic_m1 ?_
      have k99 : ((-1) : Int32).toInt = (-1) := ti_m1
      exact hret _ _ _ _ (-1) f L Q dX12_middle_17 hP hS ⟨⟨rfl, rfl, rfl⟩, (by decide), (Eq.trans (Eq.symm (hs.trans ((if_neg (by decide)).trans rfl))) hsp)⟩
  · skip
    have hc_25 := hq
    refine lv_iconst (v := (-1)) hx hb dX12_middle_5 ic_m1 ?_
    refine lv_icmp_eq (tgt := 16) hx hb dX12_middle_6 (by decide) (fun c => ?_) (fun c => ?_)
    · skip
      exfalso; have c_42 : r_23.toInt = (-1) := (by first | exact (cm_eq1 ti_m1 c) | (have z := Int32.toInt_inj.mpr c; have k1 : ((-1) : Int32).toInt = (-1) := ti_m1; omega)); first | exact absurd c_42 (by assumption) | omega
    · skip
      have c_43 : r_23.toInt ≠ (-1) := (by first | exact (cm_ne1 ti_m1 c) | (have z := bn_ne c; have k1 : ((-1) : Int32).toInt = (-1) := ti_m1; omega))
      refine lv_iload_n hx hb dX12_middle_9 rfl (lv_at hl 2 rfl) ?_
      refine sg_calli (va_runS (As := [.int x1]) (rest := []) ⟨hx, hb, hml, hown, hts⟩ (kX12_isPart l D ca za h hh f L Q hI x1 H.size) (va_cwS 1 hts (gw_S (fun _ h => List.mem_cons_of_mem _ h) mw_636 mw_637 mw_619 mw_635) rfl rfl rfl hd_yX12_isPart.2 ⟨Nat.le_of_ble_eq_true rfl, Nat.le_of_ble_eq_true rfl⟩) (sg_preS hA hK hP hS hZ) rfl rfl hl.1 rfl (lv_room (Nat.le_of_ble_eq_true rfl)) dX12_middle_10 ⟨Nat.le_refl _, Nat.le_refl _⟩) hA hS (fun r_47 f_44 L_45 Q_46 H locs hq hP hS => ?_)
      obtain ⟨⟨ef9, eL9, eQ9⟩, hq, u_48⟩ := hq
      rw [ef9, eL9, eQ9] at hP; clear ef9 eL9 eQ9
      rcases hq with ⟨rfl, hq⟩ | ⟨rfl, hq⟩
      · skip
        have hc_49 := hq
        refine lv_if_ne (tgt := 18) hx hb dX12_middle_13 (by decide) (fun c => ?_) (fun c => absurd c (by decide))
        refine lv_aload_n hx hb dX12_middle_18 rfl (lv_at hl 0 rfl) ?_
        refine lv_iload_n hx hb dX12_middle_19 rfl (lv_at hl 1 rfl) ?_
        refine sg_calli (va_runV (As := [.int x0]) (rest := []) ⟨hx, hb, hml, hown, hts⟩ (kX12_bytesIs l D ca za h hh f L Q hI x0 H.size) (sl_c12_bytesIs_2_0_0_45_12 hts ⟨Nat.le_of_ble_eq_true rfl, Nat.le_of_ble_eq_true rfl⟩) (sl_vM_0 hA hK hP hS hZ) rfl rfl hl.1 rfl (lv_room (Nat.le_of_ble_eq_true rfl)) dX12_middle_20 ⟨Nat.le_refl _, Nat.le_refl _⟩) hA hS (fun r_53 f_50 L_51 Q_52 H locs hq hP hS => ?_)
        obtain ⟨⟨ef9, eL9, eQ9⟩, hq, u_54⟩ := hq
        rw [ef9, eL9, eQ9] at hP; clear ef9 eL9 eQ9
        rw [show r_53 = r_23 from u_54.trans u_24.symm]
        refine lv_if_ge (tgt := 32) hx hb dX12_middle_23 (by decide) (fun c => ?_) (fun c => ?_)
        · skip
          exfalso; have c_55 : 0 ≤ r_23.toInt := (by first | exact (cm_le0 ti_0 c) | (have z := bn_le c; have k1 : (0 : Int32).toInt = 0 := ti_0; omega)); omega
        · skip
          have c_56 : r_23.toInt < 0 := (by first | exact (cm_nle0 ti_0 c) | (have z := bn_nle c; have k1 : (0 : Int32).toInt = 0 := ti_0; omega))
          refine lv_aload_n hx hb dX12_middle_26 rfl (lv_at hl 0 rfl) ?_
          refine lv_iload_n hx hb dX12_middle_27 rfl (lv_at hl 1 rfl) ?_
          refine sg_calli (va_runV (As := [.int x0]) (rest := []) ⟨hx, hb, hml, hown, hts⟩ (kX12_bytesIs l D ca za h hh f L Q hI x0 H.size) (sl_c12_bytesIs_2_0_0_45_12 hts ⟨Nat.le_of_ble_eq_true rfl, Nat.le_of_ble_eq_true rfl⟩) (sl_vM_0 hA hK hP hS hZ) rfl rfl hl.1 rfl (lv_room (Nat.le_of_ble_eq_true rfl)) dX12_middle_28 ⟨Nat.le_refl _, Nat.le_refl _⟩) hA hS (fun r_60 f_57 L_58 Q_59 H locs hq hP hS => ?_)
          obtain ⟨⟨ef9, eL9, eQ9⟩, hq, u_61⟩ := hq
          rw [ef9, eL9, eQ9] at hP; clear ef9 eL9 eQ9
          rw [show r_60 = r_23 from u_61.trans u_24.symm]
          exact hret _ _ _ _ (r_23) f L Q dX12_middle_31 hP hS ⟨⟨rfl, rfl, rfl⟩, ⟨by omega, by omega⟩, (Eq.trans (Eq.symm (hs.trans ((if_neg (fun z9 => by have k9 : (1 : Int32).toInt = 1 := ti_1; have h9 := hc_25; rw [z9] at h9; omega)).trans ((if_neg (fun z9 => by have k9 : ((-1) : Int32).toInt = (-1) := ti_m1; have h9 := hc_25; rw [z9] at h9; omega)).trans (spl_e u_48 ((if_pos rfl).trans rfl)))))) hsp)⟩
      · skip
        have hc_49 := hq
        refine lv_if_ne (tgt := 18) hx hb dX12_middle_13 (by decide) (fun c => absurd c (by decide)) (fun c => ?_)
        refine lv_iconst (v := (-1)) hx hb dX12_middle_16 ic_m1 ?_
        have k99 : ((-1) : Int32).toInt = (-1) := ti_m1
        exact hret _ _ _ _ (-1) f L Q dX12_middle_17 hP hS ⟨⟨rfl, rfl, rfl⟩, (by decide), (Eq.trans (Eq.symm (hs.trans ((if_neg (fun z9 => by have k9 : (1 : Int32).toInt = 1 := ti_1; have h9 := hc_25; rw [z9] at h9; omega)).trans ((if_neg (fun z9 => by have k9 : ((-1) : Int32).toInt = (-1) := ti_m1; have h9 := hc_25; rw [z9] at h9; omega)).trans (spl_e u_48 ((if_neg (by decide)).trans rfl)))))) hsp)⟩
  · skip
    have hc_25 := hq
    refine lv_iconst (v := (-1)) hx hb dX12_middle_5 ic_m1 ?_
    refine lv_icmp_eq (tgt := 16) hx hb dX12_middle_6 (by decide) (fun c => ?_) (fun c => absurd c (by decide))
    refine lv_iconst (v := (-1)) hx hb dX12_middle_16 ic_m1 ?_
    have k99 : ((-1) : Int32).toInt = (-1) := ti_m1
    exact hret _ _ _ _ (-1) f L Q dX12_middle_17 hP hS ⟨⟨rfl, rfl, rfl⟩, (by decide), (Eq.trans (Eq.symm (hs.trans ((if_neg (by decide)).trans ((if_pos rfl).trans rfl)))) hsp)⟩

abbrev WkX12_asksLosses : List (Nat × Nat × Option Nat) := [(0, 0, some 12), (0, 0, some 13), (0, 0, some 14), (0, 0, some 15), (0, 0, some 16), (8, 8, none), (9, 9, none)]
set_option maxHeartbeats 4000000 in
set_option maxRecDepth 100000 in
theorem kX12_asksLosses (l : Launch) (D : va_G) (ca : Nat → ClassId) (za h : Nat → Nat) (hh : sgH 26 h) (f : sg_F) (L : sg_L) (Q : sg_Q) (hI : sgI loM hiM f) (x0 : Int32) (x1 : Int32) (b0 : 0 ≤ x0.toInt ∧ x0.toInt ≤ 5) (b1 : 0 ≤ x1.toInt ∧ x1.toInt ≤ 2) (sz : Nat) : Met l yX12_asksLosses gwX12_asksLosses { frames := 45, cells := 0, slots := 0, locals := 1032 } (sgP D vwCl (tyX ca) 26 h (eM ca h) zcM za f L Q sz [.ref (h 0), .int x0, .int x1]) (sgQv D vwCl 26 h (eM ca h) sz (fun f1 L1 Q1 => ((sgI loM hiM f1 ∧ sgK WkX12_asksLosses f f1 ∧ L1 = L ∧ Q1 = Q) ∧ (f1) = sX12_asksLosses x0 x1 f L))) 0 0 (sgA 26 h sz) := by
  refine sg_ofWv (cc := cX12_asksLosses) (maxL := 5) RX12 (by decide) rfl rfl (Nat.le_of_ble_eq_true rfl) ?_
  intro p e s m below meth cd Qz ls hx hb hml hown hts hK hZ hP hS hl hret
  have hA := sgY.self (n := 26) (h := h) (sz := s.heap.size)
  have hl : lv_has ls 5 [(0, .ref (h 0)), (1, .int x0), (2, .int x1)] := hl
  obtain ⟨H, hH⟩ : ∃ z : Heap, z = s.heap := ⟨_, rfl⟩
  obtain ⟨locs, hlo⟩ : ∃ z : List Loc, z = [] := ⟨_, rfl⟩
  have hP : va_P D vwCl (sgw 26 h (eM ca h) f L Q) H := by rw [hH]; exact hP
  have hS : va_S (sgA 26 h s.heap.size) s.heap H locs := by rw [hH, hlo]; exact hS
  suffices hgo : W p l e ({ frames := 45, cells := 0, slots := 0, locals := 1032 }) s m ([.ref (h 0), .int x0, .int x1] : List Value).toArray below meth cd H locs 0 0 Qz (F0 m 0 ls []) by rw [hH, hlo] at hgo; exact hgo
  clear hH hlo
  obtain ⟨sp, hsp⟩ : ∃ z : sg_F, z = sX12_asksLosses x0 x1 f L := ⟨_, rfl⟩
  have hs : sp = sX12_asksLosses x0 x1 f L := hsp
  have hF : sgK WkX12_asksLosses f f := sgK.rf
  have loop_2 : ∀ (n_2 : Nat) (y3_2 : Int32) (fp_2 : sg_F) (H : Heap) (locs : List Loc) (ls : Array Slot), sp = sX12_asksLosses_l2 x0 x1 n_2 y3_2 fp_2 L → 21 - y3_2.toInt < (n_2 : Int) → 0 ≤ y3_2.toInt ∧ y3_2.toInt ≤ 21 → sgI loM hiM fp_2 → sgK WkX12_asksLosses f fp_2 → va_P D vwCl (sgw 26 h (eM ca h) fp_2 L Q) H → va_S (sgA 26 h s.heap.size) s.heap H locs → lv_has ls 5 [(0, .ref (h 0)), (1, .int x0), (2, .int x1), (3, .int y3_2)] → W p l e ({ frames := 45, cells := 0, slots := 0, locals := 1032 }) s m ([.ref (h 0), .int x0, .int x1] : List Value).toArray below meth cd H locs 0 0 Qz (F0 m 2 ls []) := by
    intro n_2
    induction n_2 with
    | zero => intro y3_2 fp_2 H locs ls hs hm_2 hy0_2 hI hF hP hS hl; exact absurd hm_2 (by omega)
    | succ n_2 ih_2 =>
      have loop_14 : ∀ (n_14 : Nat) (y3_14 : Int32) (y4_14 : Int32) (fp_14 : sg_F) (H : Heap) (locs : List Loc) (ls : Array Slot), sp = sX12_asksLosses_l14 (sX12_asksLosses_l2 x0 x1 n_2) x0 x1 n_14 y3_14 y4_14 fp_14 L → 61 - y4_14.toInt < (n_14 : Int) → 21 - y3_14.toInt < ((n_2 + 1 : Nat) : Int) → 0 ≤ y3_14.toInt ∧ y3_14.toInt ≤ 20 → 0 ≤ y4_14.toInt ∧ y4_14.toInt ≤ 61 → sgI loM hiM fp_14 → sgK WkX12_asksLosses f fp_14 → va_P D vwCl (sgw 26 h (eM ca h) fp_14 L Q) H → va_S (sgA 26 h s.heap.size) s.heap H locs → lv_has ls 5 [(0, .ref (h 0)), (1, .int x0), (2, .int x1), (3, .int y3_14), (4, .int y4_14)] → W p l e ({ frames := 45, cells := 0, slots := 0, locals := 1032 }) s m ([.ref (h 0), .int x0, .int x1] : List Value).toArray below meth cd H locs 0 0 Qz (F0 m 14 ls []) := by
        intro n_14
        induction n_14 with
        | zero => intro y3_14 y4_14 fp_14 H locs ls hs hm_14 hm_2 hy0_14 hy1_14 hI hF hP hS hl; exact absurd hm_14 (by omega)
        | succ n_14 ih_14 =>
          intro y3_14 y4_14 fp_14 H locs ls hs hm_14 hm_2 hy0_14 hy1_14 hI hF hP hS hl
          have hs : sp = sX12_asksLosses_h14 (sX12_asksLosses_l2 x0 x1 n_2) x0 x1 (sX12_asksLosses_l14 (sX12_asksLosses_l2 x0 x1 n_2) x0 x1 n_14) y3_14 y4_14 fp_14 L := hs
          refine lv_iload hx hb dX12_asksLosses_14 (lv_at hl 4 rfl) ?_
          refine lv_bipush (v := 61) hx hb dX12_asksLosses_16 bp_61 ?_
          refine lv_icmp_ge (tgt := 65) hx hb dX12_asksLosses_18 (by decide) (fun c => ?_) (fun c => ?_)
          · skip
            have c_1 : 61 ≤ y4_14.toInt := (by first | exact (cm_le0 ti_61 c) | (have z := bn_le c; have k1 : (61 : Int32).toInt = 61 := ti_61; omega))
            obtain ⟨v_3, ev_3⟩ : ∃ z : Int32, z = y3_14 + 1 := ⟨_, rfl⟩
            have q_4 : v_3.toInt = y3_14.toInt + 1 := by rw [ev_3]; exact (bn_addc y3_14 1 (by decide) (by omega) (by omega))
            refine lv_iinc (v := v_3) (lv' := [(3, .int v_3), (0, .ref (h 0)), (1, .int x0), (2, .int x1), (4, .int y4_14)]) hx hb dX12_asksLosses_65 hl (k := 3) rfl (by rw [ev_3]; rfl) (by decide) rfl (fun ls hl => ?_)
            refine lv_goto (tgt := 2) hx hb dX12_asksLosses_68 (by decide) ?_
            exact ih_2 v_3 fp_14 _ _ _ (hs.trans (((if_neg (Int.not_lt.mpr c_1)).trans (spl_e ev_3 rfl)))) (by omega) ⟨by omega, by omega⟩ hI hF hP hS (lv_sub hl [1, 2, 3, 0] rfl)
          · skip
            have c_2 : y4_14.toInt < 61 := (by first | exact (cm_nle0 ti_61 c) | (have z := bn_nle c; have k1 : (61 : Int32).toInt = 61 := ti_61; omega))
            refine lv_aload_n hx hb dX12_asksLosses_21 rfl (lv_at hl 0 rfl) ?_
            refine sl_gM_0_18_12 hx hb hts hown hK hP dX12_asksLosses_22 ?_
            refine lv_bipush (v := 61) hx hb dX12_asksLosses_25 bp_61 ?_
            refine lv_iload_n hx hb dX12_asksLosses_27 rfl (lv_at hl 3 rfl) ?_
            refine lv_imul hx hb dX12_asksLosses_28 ?_
            refine lv_topi (fun v_5 ev_5 => ?_)
            have q_6 : v_5.toInt = 61 * y3_14.toInt := by rw [ev_5]; exact bn_mulJ (by decide) (by omega) (by omega)
            refine lv_iload hx hb dX12_asksLosses_29 (lv_at hl 4 rfl) ?_
            refine lv_iadd hx hb dX12_asksLosses_31 ?_
            refine lv_topi (fun v_7 ev_7 => ?_)
            have q_8 : v_7.toInt = v_5.toInt + y4_14.toInt := by rw [ev_7]; first | exact bn_addI (by omega) (by omega) | exact (bn_addI (by omega) (by omega)).trans (by omega)
            refine lv_aload_n hx hb dX12_asksLosses_32 rfl (lv_at hl 0 rfl) ?_
            refine lv_iload_n hx hb dX12_asksLosses_33 rfl (lv_at hl 1 rfl) ?_
            refine lv_iload_n hx hb dX12_asksLosses_34 rfl (lv_at hl 3 rfl) ?_
            refine sg_calli (va_runV (As := [.int x0, .int y3_14]) (rest := [.int v_7, .ref (h 9)]) ⟨hx, hb, hml, hown, hts⟩ (kX12_whoSits l D ca za h hh fp_14 L Q hI x0 y3_14 b0 hy0_14 H.size) (sl_c12_whoSits_2_0_0_47_12 hts ⟨Nat.le_of_ble_eq_true rfl, Nat.le_of_ble_eq_true rfl⟩) (sl_vM_0 hA hK hP hS hZ) rfl rfl hl.1 rfl (lv_room (Nat.le_of_ble_eq_true rfl)) dX12_asksLosses_35 ⟨Nat.le_refl _, Nat.le_refl _⟩) hA hS (fun r_12 f_9 L_10 Q_11 H locs hq hP hS => ?_)
            obtain ⟨⟨ef9, eL9, eQ9⟩, hq, u_13⟩ := hq
            replace hs := hs.trans ((if_pos c_2).trans (spl_e ev_5 (spl_e ev_7 (spl_e u_13 rfl))))
            rw [ef9, eL9, eQ9] at hP; clear ef9 eL9 eQ9
            refine lv_if_lt (tgt := 57) hx hb dX12_asksLosses_38 (by decide) (fun c => ?_) (fun c => ?_)
            · skip
              have c_14 : r_12.toInt < 0 := (by first | exact (cm_lt1 ti_0 c) | (have z := bn_lt c; have k1 : (0 : Int32).toInt = 0 := ti_0; omega))
              refine lv_iconst (v := 0) hx hb dX12_asksLosses_57 ic_0 ?_
              refine sg_iast hx hb hh hA hK hP hS 9 (by decide) 0 (fun _ => rfl) rfl (i := v_7) (x := 0) (vp_in_iff.mpr ⟨by omega, by omega⟩) dX12_asksLosses_58 (fun f_16 H locs ef_16 hP hS => ?_)
              have hI : sgI loM hiM f_16 := by rw [ef_16]; exact sgI.put hI 9 v_7.toNatClampNeg (bn_top _)
              have hF : sgK WkX12_asksLosses f f_16 := sgK.put hF ef_16 (by rfl)
              obtain ⟨v_17, ev_17⟩ : ∃ z : Int32, z = y4_14 + 1 := ⟨_, rfl⟩
              have q_18 : v_17.toInt = y4_14.toInt + 1 := by rw [ev_17]; exact (bn_addc y4_14 1 (by decide) (by omega) (by omega))
              refine lv_iinc (v := v_17) (lv' := [(4, .int v_17), (0, .ref (h 0)), (1, .int x0), (2, .int x1), (3, .int y3_14)]) hx hb dX12_asksLosses_59 hl (k := 4) rfl (by rw [ev_17]; rfl) (by decide) rfl (fun ls hl => ?_)
              refine lv_goto (tgt := 14) hx hb dX12_asksLosses_62 (by decide) ?_
              exact ih_14 y3_14 v_17 f_16 _ _ _ (hs.trans ((if_pos c_14).trans (spl_e ef_16 (spl_e ev_17 rfl)))) (by omega) hm_2 hy0_14 ⟨by omega, by omega⟩ hI hF hP hS (lv_sub hl [1, 2, 3, 4, 0] rfl)
            · skip
              have c_15 : 0 ≤ r_12.toInt := (by first | exact (cm_nlt1 ti_0 c) | (have z := bn_nlt c; have k1 : (0 : Int32).toInt = 0 := ti_0; omega))
              refine lv_aload_n hx hb dX12_asksLosses_41 rfl (lv_at hl 0 rfl) ?_
              refine lv_aload_n hx hb dX12_asksLosses_42 rfl (lv_at hl 0 rfl) ?_
              refine lv_iload_n hx hb dX12_asksLosses_43 rfl (lv_at hl 1 rfl) ?_
              refine lv_iload_n hx hb dX12_asksLosses_44 rfl (lv_at hl 3 rfl) ?_
              refine sg_calli (va_runV (As := [.int x0, .int y3_14]) (rest := [.ref (h 0), .int v_7, .ref (h 9)]) ⟨hx, hb, hml, hown, hts⟩ (kX12_whoSits l D ca za h hh fp_14 L Q hI x0 y3_14 b0 hy0_14 H.size) (sl_c12_whoSits_2_0_0_47_12 hts ⟨Nat.le_of_ble_eq_true rfl, Nat.le_of_ble_eq_true rfl⟩) (sl_vM_0 hA hK hP hS hZ) rfl rfl hl.1 rfl (lv_room (Nat.le_of_ble_eq_true rfl)) dX12_asksLosses_45 ⟨Nat.le_refl _, Nat.le_refl _⟩) hA hS (fun r_22 f_19 L_20 Q_21 H locs hq hP hS => ?_)
              obtain ⟨⟨ef9, eL9, eQ9⟩, hq, u_23⟩ := hq
              rw [ef9, eL9, eQ9] at hP; clear ef9 eL9 eQ9
              rw [show r_22 = r_12 from u_23.trans u_13.symm]
              refine lv_iload_n hx hb dX12_asksLosses_48 rfl (lv_at hl 2 rfl) ?_
              refine lv_iload hx hb dX12_asksLosses_49 (lv_at hl 4 rfl) ?_
              refine sg_calli (va_runV (As := [.int r_12, .int x1, .int y4_14]) (rest := [.int v_7, .ref (h 9)]) ⟨hx, hb, hml, hown, hts⟩ (kX12_lossOf l D ca za h hh fp_14 L Q hI r_12 x1 y4_14 ⟨by omega, by omega⟩ b1 ⟨by omega, by omega⟩ H.size) (sl_c12_lossOf_44_0_0_1006_12 hts ⟨Nat.le_of_ble_eq_true rfl, Nat.le_of_ble_eq_true rfl⟩) (sl_vM_0 hA hK hP hS hZ) rfl rfl hl.1 rfl (lv_room (Nat.le_of_ble_eq_true rfl)) dX12_asksLosses_51 ⟨Nat.le_refl _, Nat.le_refl _⟩) hA hS (fun r_27 f_24 L_25 Q_26 H locs hq hP hS => ?_)
              obtain ⟨⟨hI, hk_f_24, eL9, eQ9⟩, hq, u_28⟩ := hq
              rw [eL9, eQ9] at hP; clear eL9 eQ9
              have hF : sgK WkX12_asksLosses f f_24 := sgK.tr hF hk_f_24 (by decide +kernel)
              refine lv_goto (tgt := 58) hx hb dX12_asksLosses_54 (by decide) ?_
              refine sg_iast hx hb hh hA hK hP hS 9 (by decide) 0 (fun _ => rfl) rfl (i := v_7) (x := r_27) (vp_in_iff.mpr ⟨by omega, by omega⟩) dX12_asksLosses_58 (fun f_29 H locs ef_29 hP hS => ?_)
              have hI : sgI loM hiM f_29 := by rw [ef_29]; exact sgI.put hI 9 v_7.toNatClampNeg (bn_top _)
              have hF : sgK WkX12_asksLosses f f_29 := sgK.put hF ef_29 (by rfl)
              obtain ⟨v_30, ev_30⟩ : ∃ z : Int32, z = y4_14 + 1 := ⟨_, rfl⟩
              have q_31 : v_30.toInt = y4_14.toInt + 1 := by rw [ev_30]; exact (bn_addc y4_14 1 (by decide) (by omega) (by omega))
              refine lv_iinc (v := v_30) (lv' := [(4, .int v_30), (0, .ref (h 0)), (1, .int x0), (2, .int x1), (3, .int y3_14)]) hx hb dX12_asksLosses_59 hl (k := 4) rfl (by rw [ev_30]; rfl) (by decide) rfl (fun ls hl => ?_)
              refine lv_goto (tgt := 14) hx hb dX12_asksLosses_62 (by decide) ?_
              exact ih_14 y3_14 v_30 f_29 _ _ _ (hs.trans ((if_neg (Int.not_lt.mpr c_15)).trans (spl2_e u_28 (spl_e ef_29 (spl_e ev_30 rfl))))) (by omega) hm_2 hy0_14 ⟨by omega, by omega⟩ hI hF hP hS (lv_sub hl [1, 2, 3, 4, 0] rfl)
      intro y3_2 fp_2 H locs ls hs hm_2 hy0_2 hI hF hP hS hl
      have hs : sp = sX12_asksLosses_h2 x0 x1 (sX12_asksLosses_l2 x0 x1 n_2) y3_2 fp_2 L := hs
      refine lv_iload_n hx hb dX12_asksLosses_2 rfl (lv_at hl 3 rfl) ?_
      refine lv_aload_n hx hb dX12_asksLosses_3 rfl (lv_at hl 0 rfl) ?_
      refine lv_iload_n hx hb dX12_asksLosses_4 rfl (lv_at hl 1 rfl) ?_
      refine sg_calli (va_runV (As := [.int x0]) (rest := [.int y3_2]) ⟨hx, hb, hml, hown, hts⟩ (kX12_shiftsOf l D ca za h hh fp_2 L Q hI x0 b0 H.size) (sl_c12_shiftsOf_0_0_0_0_12 hts ⟨Nat.le_of_ble_eq_true rfl, Nat.le_of_ble_eq_true rfl⟩) (sl_vM_0 hA hK hP hS hZ) rfl rfl hl.1 rfl (lv_room (Nat.le_of_ble_eq_true rfl)) dX12_asksLosses_5 ⟨Nat.le_refl _, Nat.le_refl _⟩) hA hS (fun r_35 f_32 L_33 Q_34 H locs hq hP hS => ?_)
      obtain ⟨⟨ef9, eL9, eQ9⟩, hq, u_36⟩ := hq
      replace hs := hs.trans (spl_e u_36 rfl)
      rw [ef9, eL9, eQ9] at hP; clear ef9 eL9 eQ9
      refine lv_icmp_ge (tgt := 71) hx hb dX12_asksLosses_8 (by decide) (fun c => ?_) (fun c => ?_)
      · skip
        have c_37 : r_35.toInt ≤ y3_2.toInt := (by first | exact (bn_le c) | (have z := bn_le c; omega))
        exact hret _ _ _ _ fp_2 L Q dX12_asksLosses_71 hP hS ⟨⟨hI, hF, rfl, rfl⟩, (Eq.trans (Eq.symm (hs.trans ((if_neg (Int.not_lt.mpr c_37)).trans rfl))) hsp)⟩
      · skip
        have c_38 : y3_2.toInt < r_35.toInt := (by first | exact (bn_nle c) | (have z := bn_nle c; omega))
        refine lv_iconst (v := 0) hx hb dX12_asksLosses_11 ic_0 ?_
        refine lv_istore (lv' := [(4, .int 0), (0, .ref (h 0)), (1, .int x0), (2, .int x1), (3, .int y3_2)]) hx hb dX12_asksLosses_12 hl (by decide) rfl (fun ls hl => ?_)
        exact loop_14 62 y3_2 0 fp_2 _ _ _ (hs.trans ((if_pos c_38).trans rfl)) (by have kc1 : (0 : Int32).toInt = 0 := ti_0; omega) (by have kc1 : (0 : Int32).toInt = 0 := ti_0; omega) ⟨by omega, by omega⟩ (by decide) hI hF hP hS (lv_sub hl [1, 2, 3, 4, 0] rfl)
  refine lv_iconst (v := 0) hx hb dX12_asksLosses_0 ic_0 ?_
  refine lv_istore_n (lv' := [(3, .int 0), (0, .ref (h 0)), (1, .int x0), (2, .int x1)]) hx hb dX12_asksLosses_1 rfl hl (by decide) rfl (fun ls hl => ?_)
  exact loop_2 22 0 f _ _ _ hs (by have kc0 : (0 : Int32).toInt = 0 := ti_0; omega) (by decide) hI hF hP hS (lv_sub hl [1, 2, 3, 0] rfl)

set_option maxHeartbeats 4000000 in
set_option maxRecDepth 100000 in
theorem kX12_slipped (l : Launch) (D : va_G) (ca : Nat → ClassId) (za h : Nat → Nat) (hh : sgH 26 h) (f : sg_F) (L : sg_L) (Q : sg_Q) (hI : sgI loM hiM f) (x0 : Int32) (x1 : Int32) (b0 : 0 ≤ x0.toInt ∧ x0.toInt ≤ 2) (b1 : (-1) ≤ x1.toInt ∧ x1.toInt ≤ 60) (sz : Nat) : Met l yX12_slipped gwX12_slipped { frames := 0, cells := 0, slots := 0, locals := 0 } (sgP D vwCl (tyX ca) 26 h (eM ca h) zcM za f L Q sz [.ref (h 0), .int x0, .int x1]) (sgQi D vwCl 26 h (eM ca h) sz (fun r f1 L1 Q1 => ((f1 = f ∧ L1 = L ∧ Q1 = Q) ∧ (0 ≤ r.toInt ∧ r.toInt ≤ 60) ∧ (r) = sX12_slipped x0 x1 f L))) 0 0 (sgA 26 h sz) := by
  refine sg_ofWi (cc := cX12_slipped) (maxL := 4) RX12 (by decide) rfl rfl (Nat.le_of_ble_eq_true rfl) ?_
  intro p e s m below meth cd Qz ls hx hb hml hown hts hK hZ hP hS hl hret
  have hA := sgY.self (n := 26) (h := h) (sz := s.heap.size)
  have hl : lv_has ls 4 [(0, .ref (h 0)), (1, .int x0), (2, .int x1)] := hl
  obtain ⟨H, hH⟩ : ∃ z : Heap, z = s.heap := ⟨_, rfl⟩
  obtain ⟨locs, hlo⟩ : ∃ z : List Loc, z = [] := ⟨_, rfl⟩
  have hP : va_P D vwCl (sgw 26 h (eM ca h) f L Q) H := by rw [hH]; exact hP
  have hS : va_S (sgA 26 h s.heap.size) s.heap H locs := by rw [hH, hlo]; exact hS
  suffices hgo : W p l e ({ frames := 0, cells := 0, slots := 0, locals := 0 }) s m ([.ref (h 0), .int x0, .int x1] : List Value).toArray below meth cd H locs 0 0 Qz (F0 m 0 ls []) by rw [hH, hlo] at hgo; exact hgo
  clear hH hlo
  obtain ⟨sp, hsp⟩ : ∃ z : Int32, z = sX12_slipped x0 x1 f L := ⟨_, rfl⟩
  have hs : sp = sX12_slipped x0 x1 f L := hsp
  refine lv_iload_n hx hb dX12_slipped_0 rfl (lv_at hl 2 rfl) ?_
  refine lv_aload_n hx hb dX12_slipped_1 rfl (lv_at hl 0 rfl) ?_
  refine sl_gM_0_0_12 hx hb hts hown hK hP dX12_slipped_2 ?_
  refine lv_bipush (v := 64) hx hb dX12_slipped_5 bp_64 ?_
  refine lv_iload_n hx hb dX12_slipped_7 rfl (lv_at hl 1 rfl) ?_
  refine lv_iadd hx hb dX12_slipped_8 ?_
  refine lv_topi (fun v_1 ev_1 => ?_)
  have q_2 : v_1.toInt = 64 + x0.toInt := by rw [ev_1]; have k0 : (64 : Int32).toInt = 64 := ti_64; exact (bn_addI (by omega) (by omega)).trans (by omega)
  refine sg_iald hx hb hK hP 1 (by decide) 0 rfl rfl (i := v_1) (vp_in_iff.mpr ⟨by omega, by omega⟩) dX12_slipped_9 ?_
  refine lv_topi (fun v_3 ev_3 => ?_)
  have q_4 : v_1.toInt < 64 → v_3.toInt ≤ 60 := by rw [ev_3]; have z1 := segM1_r hI (j := Int32.toNatClampNeg v_1); have z2 := bn_clI (x := v_1) (by omega); intro z3; exact (z1.2.2 (by omega)).2
  have q_5 : 0 ≤ v_3.toInt ∧ v_3.toInt ≤ 99 := by rw [ev_3]; have z1 := segM1_r hI (j := Int32.toNatClampNeg v_1); have z2 := bn_clI (x := v_1) (by omega); omega
  refine lv_isub hx hb dX12_slipped_10 ?_
  refine lv_topi (fun v_6 ev_6 => ?_)
  replace hs := hs.trans (spl_e ev_1 (spl_e ev_3 (spl_e ev_6 rfl)))
  have q_7 : v_6.toInt = x1.toInt - v_3.toInt := by rw [ev_6]; first | exact bn_subI (by omega) (by omega) | exact (bn_subI (by omega) (by omega)).trans (by omega)
  refine lv_istore_n (lv' := [(3, .int v_6), (0, .ref (h 0)), (1, .int x0), (2, .int x1)]) hx hb dX12_slipped_11 rfl hl (by decide) rfl (fun ls hl => ?_)
  refine lv_iload_n hx hb dX12_slipped_12 rfl (lv_at hl 0 rfl) ?_
  refine lv_if_ge (tgt := 20) hx hb dX12_slipped_13 (by decide) (fun c => ?_) (fun c => ?_)
  · skip
    have c_8 : 0 ≤ v_6.toInt := (by first | exact (cm_le0 ti_0 c) | (have z := bn_le c; have k1 : (0 : Int32).toInt = 0 := ti_0; omega))
    refine lv_iload_n hx hb dX12_slipped_20 rfl (lv_at hl 0 rfl) ?_
    exact hret _ _ _ _ (v_6) f L Q dX12_slipped_21 hP hS ⟨⟨rfl, rfl, rfl⟩, ⟨by omega, by omega⟩, (Eq.trans (Eq.symm (hs.trans ((if_neg (Int.not_lt.mpr c_8)).trans rfl))) hsp)⟩
  · skip
    have c_9 : v_6.toInt < 0 := (by first | exact (cm_nle0 ti_0 c) | (have z := bn_nle c; have k1 : (0 : Int32).toInt = 0 := ti_0; omega))
    refine lv_iconst (v := 0) hx hb dX12_slipped_16 ic_0 ?_
    refine lv_goto (tgt := 21) hx hb dX12_slipped_17 (by decide) ?_
    have k99 : (0 : Int32).toInt = 0 := ti_0
    exact hret _ _ _ _ (0) f L Q dX12_slipped_21 hP hS ⟨⟨rfl, rfl, rfl⟩, (by decide), (Eq.trans (Eq.symm (hs.trans ((if_pos c_9).trans rfl))) hsp)⟩

set_option maxHeartbeats 4000000 in
set_option maxRecDepth 100000 in
theorem kX12_costBy (l : Launch) (D : va_G) (ca : Nat → ClassId) (za h : Nat → Nat) (hh : sgH 26 h) (f : sg_F) (L : sg_L) (Q : sg_Q) (hI : sgI loM hiM f) (x0 : Int32) (x1 : Int32) (x2 : Int32) (x3 : Int32) (b0 : 0 ≤ x0.toInt ∧ x0.toInt ≤ 2) (b1 : 0 ≤ x1.toInt ∧ x1.toInt ≤ 20) (b2 : 0 ≤ x2.toInt ∧ x2.toInt ≤ 60) (b3 : 0 ≤ x3.toInt ∧ x3.toInt ≤ 60) (sz : Nat) : Met l yX12_costBy gwX12_costBy { frames := 1, cells := 0, slots := 0, locals := 23 } (sgP D vwCl (tyX ca) 26 h (eM ca h) zcM za f L Q sz [.ref (h 0), .int x0, .int x1, .int x2, .int x3]) (sgQi D vwCl 26 h (eM ca h) sz (fun r f1 L1 Q1 => ((f1 = f ∧ L1 = L ∧ Q1 = Q) ∧ True ∧ (r) = sX12_costBy x0 x1 x2 x3 f L))) 0 0 (sgA 26 h sz) := by
  refine sg_ofWi (cc := cX12_costBy) (maxL := 5) RX12 (by decide) rfl rfl (Nat.le_of_ble_eq_true rfl) ?_
  intro p e s m below meth cd Qz ls hx hb hml hown hts hK hZ hP hS hl hret
  have hA := sgY.self (n := 26) (h := h) (sz := s.heap.size)
  have hl : lv_has ls 5 [(0, .ref (h 0)), (1, .int x0), (2, .int x1), (3, .int x2), (4, .int x3)] := hl
  obtain ⟨H, hH⟩ : ∃ z : Heap, z = s.heap := ⟨_, rfl⟩
  obtain ⟨locs, hlo⟩ : ∃ z : List Loc, z = [] := ⟨_, rfl⟩
  have hP : va_P D vwCl (sgw 26 h (eM ca h) f L Q) H := by rw [hH]; exact hP
  have hS : va_S (sgA 26 h s.heap.size) s.heap H locs := by rw [hH, hlo]; exact hS
  suffices hgo : W p l e ({ frames := 1, cells := 0, slots := 0, locals := 23 }) s m ([.ref (h 0), .int x0, .int x1, .int x2, .int x3] : List Value).toArray below meth cd H locs 0 0 Qz (F0 m 0 ls []) by rw [hH, hlo] at hgo; exact hgo
  clear hH hlo
  obtain ⟨sp, hsp⟩ : ∃ z : Int32, z = sX12_costBy x0 x1 x2 x3 f L := ⟨_, rfl⟩
  have hs : sp = sX12_costBy x0 x1 x2 x3 f L := hsp
  refine lv_iload hx hb dX12_costBy_0 (lv_at hl 4 rfl) ?_
  refine lv_iload_n hx hb dX12_costBy_2 rfl (lv_at hl 3 rfl) ?_
  refine lv_isub hx hb dX12_costBy_3 ?_
  refine lv_topi (fun v_1 ev_1 => ?_)
  have q_2 : v_1.toInt = x3.toInt - x2.toInt := by rw [ev_1]; first | exact bn_subI (by omega) (by omega) | exact (bn_subI (by omega) (by omega)).trans (by omega)
  refine sg_calli (va_runS (As := [.int v_1]) (rest := []) ⟨hx, hb, hml, hown, hts⟩ (kX12_sizeOf l D ca za h hh f L Q hI v_1 ⟨by omega, by omega⟩ H.size) (va_cwS 1 hts (gw_S (fun _ h => List.mem_cons_of_mem _ h) mw_682 mw_683 mw_619 mw_681) rfl rfl rfl hd_yX12_sizeOf.2 ⟨Nat.le_of_ble_eq_true rfl, Nat.le_of_ble_eq_true rfl⟩) (sg_preS hA hK hP hS hZ) rfl rfl hl.1 rfl (lv_room (Nat.le_of_ble_eq_true rfl)) dX12_costBy_4 ⟨Nat.le_refl _, Nat.le_refl _⟩) hA hS (fun r_6 f_3 L_4 Q_5 H locs hq hP hS => ?_)
  obtain ⟨⟨ef9, eL9, eQ9⟩, hq, u_7⟩ := hq
  rw [ef9, eL9, eQ9] at hP; clear ef9 eL9 eQ9
  refine lv_aload_n hx hb dX12_costBy_7 rfl (lv_at hl 0 rfl) ?_
  refine sl_gM_0_0_12 hx hb hts hown hK hP dX12_costBy_8 ?_
  refine lv_bipush (v := 67) hx hb dX12_costBy_11 bp_67 ?_
  refine lv_iload_n hx hb dX12_costBy_13 rfl (lv_at hl 1 rfl) ?_
  refine lv_iadd hx hb dX12_costBy_14 ?_
  refine lv_topi (fun v_8 ev_8 => ?_)
  have q_9 : v_8.toInt = 67 + x0.toInt := by rw [ev_8]; have k0 : (67 : Int32).toInt = 67 := ti_67; exact (bn_addI (by omega) (by omega)).trans (by omega)
  refine sg_iald hx hb hK hP 1 (by decide) 0 rfl rfl (i := v_8) (vp_in_iff.mpr ⟨by omega, by omega⟩) dX12_costBy_15 ?_
  refine lv_topi (fun v_10 ev_10 => ?_)
  have q_11 : v_8.toInt < 64 → v_10.toInt ≤ 60 := by rw [ev_10]; have z1 := segM1_r hI (j := Int32.toNatClampNeg v_8); have z2 := bn_clI (x := v_8) (by omega); intro z3; exact (z1.2.2 (by omega)).2
  have q_12 : 0 ≤ v_10.toInt ∧ v_10.toInt ≤ 99 := by rw [ev_10]; have z1 := segM1_r hI (j := Int32.toNatClampNeg v_8); have z2 := bn_clI (x := v_8) (by omega); omega
  refine lv_imul hx hb dX12_costBy_16 ?_
  refine lv_topi (fun v_13 ev_13 => ?_)
  refine lv_aload_n hx hb dX12_costBy_17 rfl (lv_at hl 0 rfl) ?_
  refine sl_gM_0_18_12 hx hb hts hown hK hP dX12_costBy_18 ?_
  refine lv_bipush (v := 61) hx hb dX12_costBy_21 bp_61 ?_
  refine lv_iload_n hx hb dX12_costBy_23 rfl (lv_at hl 2 rfl) ?_
  refine lv_imul hx hb dX12_costBy_24 ?_
  refine lv_topi (fun v_14 ev_14 => ?_)
  have q_15 : v_14.toInt = 61 * x1.toInt := by rw [ev_14]; exact bn_mulJ (by decide) (by omega) (by omega)
  refine lv_iload hx hb dX12_costBy_25 (lv_at hl 4 rfl) ?_
  refine lv_iadd hx hb dX12_costBy_27 ?_
  refine lv_topi (fun v_16 ev_16 => ?_)
  have q_17 : v_16.toInt = v_14.toInt + x3.toInt := by rw [ev_16]; first | exact bn_addI (by omega) (by omega) | exact (bn_addI (by omega) (by omega)).trans (by omega)
  refine sg_iald hx hb hK hP 9 (by decide) 0 rfl rfl (i := v_16) (vp_in_iff.mpr ⟨by omega, by omega⟩) dX12_costBy_28 ?_
  refine lv_topi (fun v_18 ev_18 => ?_)
  refine lv_iadd hx hb dX12_costBy_29 ?_
  refine lv_topi (fun v_19 ev_19 => ?_)
  refine lv_aload_n hx hb dX12_costBy_30 rfl (lv_at hl 0 rfl) ?_
  refine sl_gM_0_19_12 hx hb hts hown hK hP dX12_costBy_31 ?_
  refine lv_bipush (v := 61) hx hb dX12_costBy_34 bp_61 ?_
  refine lv_iload_n hx hb dX12_costBy_36 rfl (lv_at hl 2 rfl) ?_
  refine lv_iconst (v := 1) hx hb dX12_costBy_37 ic_1 ?_
  refine lv_iadd hx hb dX12_costBy_38 ?_
  refine lv_topi (fun v_20 ev_20 => ?_)
  have q_21 : v_20.toInt = x1.toInt + 1 := by rw [ev_20]; first | exact cm_add ti_1 (by omega) (by omega) | (have k1 : (1 : Int32).toInt = 1 := ti_1; exact (bn_addI (by omega) (by omega)).trans (by omega))
  refine lv_imul hx hb dX12_costBy_39 ?_
  refine lv_topi (fun v_22 ev_22 => ?_)
  have q_23 : v_22.toInt = 61 * v_20.toInt := by rw [ev_22]; exact bn_mulJ (by decide) (by omega) (by omega)
  refine lv_aload_n hx hb dX12_costBy_40 rfl (lv_at hl 0 rfl) ?_
  refine lv_iload_n hx hb dX12_costBy_41 rfl (lv_at hl 1 rfl) ?_
  refine lv_iload hx hb dX12_costBy_42 (lv_at hl 4 rfl) ?_
  refine sg_calli (va_runV (As := [.int x0, .int x3]) (rest := [.int v_22, .ref (h 10), .int v_19]) ⟨hx, hb, hml, hown, hts⟩ (kX12_slipped l D ca za h hh f L Q hI x0 x3 b0 ⟨by omega, by omega⟩ H.size) (sl_c12_slipped_0_0_0_0_12 hts ⟨Nat.le_of_ble_eq_true rfl, Nat.le_of_ble_eq_true rfl⟩) (sl_vM_0 hA hK hP hS hZ) rfl rfl hl.1 rfl (lv_room (Nat.le_of_ble_eq_true rfl)) dX12_costBy_44 ⟨Nat.le_refl _, Nat.le_refl _⟩) hA hS (fun r_27 f_24 L_25 Q_26 H locs hq hP hS => ?_)
  obtain ⟨⟨ef9, eL9, eQ9⟩, hq, u_28⟩ := hq
  rw [ef9, eL9, eQ9] at hP; clear ef9 eL9 eQ9
  refine lv_iadd hx hb dX12_costBy_47 ?_
  refine lv_topi (fun v_29 ev_29 => ?_)
  have q_30 : v_29.toInt = v_22.toInt + r_27.toInt := by rw [ev_29]; first | exact bn_addI (by omega) (by omega) | exact (bn_addI (by omega) (by omega)).trans (by omega)
  refine sg_iald hx hb hK hP 10 (by decide) 0 rfl rfl (i := v_29) (vp_in_iff.mpr ⟨by omega, by omega⟩) dX12_costBy_48 ?_
  refine lv_topi (fun v_31 ev_31 => ?_)
  refine lv_iadd hx hb dX12_costBy_49 ?_
  refine lv_topi (fun v_32 ev_32 => ?_)
  exact hret _ _ _ _ (v_32) f L Q dX12_costBy_50 hP hS ⟨⟨rfl, rfl, rfl⟩, trivial, (Eq.trans (Eq.symm (hs.trans ((spl_e ev_1 (spl_e u_7 (spl_e ev_8 (spl_e ev_10 (spl_e ev_13 (spl_e ev_14 (spl_e ev_16 (spl_e ev_18 (spl_e ev_19 (spl_e ev_20 (spl_e ev_22 (spl_e u_28 (spl_e ev_29 (spl_e ev_31 (spl_e ev_32 rfl)))))))))))))))))) hsp)⟩

abbrev WkX12_shifts : List (Nat × Nat × Option Nat) := [(0, 0, some 12), (0, 0, some 13), (0, 0, some 14), (0, 0, some 15), (0, 0, some 16), (8, 8, none), (9, 9, none), (10, 10, none)]
set_option maxHeartbeats 4000000 in
set_option maxRecDepth 100000 in
theorem kX12_shifts (l : Launch) (D : va_G) (ca : Nat → ClassId) (za h : Nat → Nat) (hh : sgH 26 h) (f : sg_F) (L : sg_L) (Q : sg_Q) (hI : sgI loM hiM f) (x0 : Int32) (x1 : Int32) (x2 : Int32) (sz : Nat) : Met l yX12_shifts gwX12_shifts { frames := 46, cells := 0, slots := 0, locals := 1056 } (sgP D vwCl (tyX ca) 26 h (eM ca h) zcM za f L Q sz [.ref (h 0), .int x0, .int x1, .int x2]) (sgQi D vwCl 26 h (eM ca h) sz (fun r f1 L1 Q1 => ((sgI loM hiM f1 ∧ sgK WkX12_shifts f f1 ∧ L1 = L ∧ Q1 = Q) ∧ True ∧ (r, f1) = sX12_shifts x0 x1 x2 f L))) 0 0 (sgA 26 h sz) := by
  refine sg_ofWi (cc := cX12_shifts) (maxL := 10) RX12 (by decide) rfl rfl (Nat.le_of_ble_eq_true rfl) ?_
  intro p e s m below meth cd Qz ls hx hb hml hown hts hK hZ hP hS hl hret
  have hA := sgY.self (n := 26) (h := h) (sz := s.heap.size)
  have hl : lv_has ls 10 [(0, .ref (h 0)), (1, .int x0), (2, .int x1), (3, .int x2)] := hl
  obtain ⟨H, hH⟩ : ∃ z : Heap, z = s.heap := ⟨_, rfl⟩
  obtain ⟨locs, hlo⟩ : ∃ z : List Loc, z = [] := ⟨_, rfl⟩
  have hP : va_P D vwCl (sgw 26 h (eM ca h) f L Q) H := by rw [hH]; exact hP
  have hS : va_S (sgA 26 h s.heap.size) s.heap H locs := by rw [hH, hlo]; exact hS
  suffices hgo : W p l e ({ frames := 46, cells := 0, slots := 0, locals := 1056 }) s m ([.ref (h 0), .int x0, .int x1, .int x2] : List Value).toArray below meth cd H locs 0 0 Qz (F0 m 0 ls []) by rw [hH, hlo] at hgo; exact hgo
  clear hH hlo
  obtain ⟨sp, hsp⟩ : ∃ z : Int32 × sg_F, z = sX12_shifts x0 x1 x2 f L := ⟨_, rfl⟩
  have hs : sp = sX12_shifts x0 x1 x2 f L := hsp
  have hF : sgK WkX12_shifts f f := sgK.rf
  have blk_303 : ∀ (y4_303 : Int32) (y6_303 : Int32) (fp_303 : sg_F) (H : Heap) (locs : List Loc) (ls : Array Slot), sp = sX12_shifts_b303 x0 x1 x2 y4_303 y6_303 fp_303 L → 0 ≤ x0.toInt ∧ x0.toInt ≤ 5 → 0 ≤ x1.toInt ∧ x1.toInt ≤ 2 → 0 ≤ x2.toInt → 0 ≤ y4_303.toInt ∧ y4_303.toInt ≤ 21 → (-2) ≤ y6_303.toInt ∧ y6_303.toInt ≤ 60 → sgI loM hiM fp_303 → sgK WkX12_shifts f fp_303 → va_P D vwCl (sgw 26 h (eM ca h) fp_303 L Q) H → va_S (sgA 26 h s.heap.size) s.heap H locs → lv_has ls 10 [(3, .int x2), (4, .int y4_303), (6, .int y6_303)] → W p l e ({ frames := 46, cells := 0, slots := 0, locals := 1056 }) s m ([.ref (h 0), .int x0, .int x1, .int x2] : List Value).toArray below meth cd H locs 0 0 Qz (F0 m 303 ls []) := by
    intro y4_303 y6_303 fp_303 H locs ls hs hy0_303 hy1_303 hy2_303 hy3_303 hy4_303 hI hF hP hS hl
    refine lv_iload_n hx hb dX12_shifts_303 rfl (lv_at hl 0 rfl) ?_
    refine lv_iload hx hb dX12_shifts_304 (lv_at hl 1 rfl) ?_
    refine lv_icmp_ge (tgt := 314) hx hb dX12_shifts_306 (by decide) (fun c => ?_) (fun c => ?_)
    · skip
      have c_1 : y4_303.toInt ≤ x2.toInt := (by first | exact (bn_le c) | (have z := bn_le c; omega))
      refine lv_bipush (v := (-2)) hx hb dX12_shifts_314 bp_m2 ?_
      have k99 : ((-2) : Int32).toInt = (-2) := ti_m2
      exact hret _ _ _ _ (-2) fp_303 L Q dX12_shifts_316 hP hS ⟨⟨hI, hF, rfl, rfl⟩, trivial, (Eq.trans (Eq.symm (hs.trans (((if_neg (Int.not_lt.mpr c_1)).trans rfl)))) hsp)⟩
    · skip
      have c_2 : x2.toInt < y4_303.toInt := (by first | exact (bn_nle c) | (have z := bn_nle c; omega))
      refine lv_iload hx hb dX12_shifts_309 (lv_at hl 2 rfl) ?_
      refine lv_goto (tgt := 316) hx hb dX12_shifts_311 (by decide) ?_
      exact hret _ _ _ _ (y6_303) fp_303 L Q dX12_shifts_316 hP hS ⟨⟨hI, hF, rfl, rfl⟩, trivial, (Eq.trans (Eq.symm (hs.trans (((if_pos c_2).trans rfl)))) hsp)⟩
  have loop_216 : ∀ (n_216 : Nat) (y4_216 : Int32) (y5_216 : Int32) (y6_216 : Int32) (y7_216 : Int32) (fp_216 : sg_F) (H : Heap) (locs : List Loc) (ls : Array Slot), sp = sX12_shifts_l216 x0 x1 x2 n_216 y4_216 y5_216 y6_216 y7_216 fp_216 L → 21 - y7_216.toInt < (n_216 : Int) → 0 ≤ x0.toInt ∧ x0.toInt ≤ 5 → 0 ≤ x1.toInt ∧ x1.toInt ≤ 2 → 0 ≤ x2.toInt → 0 ≤ y4_216.toInt ∧ y4_216.toInt ≤ 21 → 0 ≤ y5_216.toInt ∧ y5_216.toInt ≤ 60 → (-2) ≤ y6_216.toInt ∧ y6_216.toInt ≤ 60 → 0 ≤ y7_216.toInt ∧ y7_216.toInt ≤ 21 → sgI loM hiM fp_216 → sgK WkX12_shifts f fp_216 → va_P D vwCl (sgw 26 h (eM ca h) fp_216 L Q) H → va_S (sgA 26 h s.heap.size) s.heap H locs → lv_has ls 10 [(0, .ref (h 0)), (2, .int x1), (3, .int x2), (4, .int y4_216), (5, .int y5_216), (6, .int y6_216), (7, .int y7_216)] → W p l e ({ frames := 46, cells := 0, slots := 0, locals := 1056 }) s m ([.ref (h 0), .int x0, .int x1, .int x2] : List Value).toArray below meth cd H locs 0 0 Qz (F0 m 216 ls []) := by
    intro n_216
    induction n_216 with
    | zero => intro y4_216 y5_216 y6_216 y7_216 fp_216 H locs ls hs hm_216 hy0_216 hy1_216 hy2_216 hy3_216 hy4_216 hy5_216 hy6_216 hI hF hP hS hl; exact absurd hm_216 (by omega)
    | succ n_216 ih_216 =>
      have blk_288 : ∀ (y4_288 : Int32) (y6_288 : Int32) (y7_288 : Int32) (fp_288 : sg_F) (H : Heap) (locs : List Loc) (ls : Array Slot), sp = sX12_shifts_b288 (sX12_shifts_l216 x0 x1 x2 n_216) x0 x1 x2 y4_288 y6_288 y7_288 fp_288 L → 21 - y7_288.toInt < ((n_216 + 1 : Nat) : Int) → 0 ≤ x0.toInt ∧ x0.toInt ≤ 5 → 0 ≤ x1.toInt ∧ x1.toInt ≤ 2 → 0 ≤ x2.toInt → 1 ≤ y4_288.toInt ∧ y4_288.toInt ≤ 21 → (-1) ≤ y6_288.toInt ∧ y6_288.toInt ≤ 60 → 0 ≤ y7_288.toInt ∧ y7_288.toInt ≤ 20 → sgI loM hiM fp_288 → sgK WkX12_shifts f fp_288 → va_P D vwCl (sgw 26 h (eM ca h) fp_288 L Q) H → va_S (sgA 26 h s.heap.size) s.heap H locs → lv_has ls 10 [(0, .ref (h 0)), (2, .int x1), (3, .int x2), (4, .int y4_288), (6, .int y6_288), (7, .int y7_288)] → W p l e ({ frames := 46, cells := 0, slots := 0, locals := 1056 }) s m ([.ref (h 0), .int x0, .int x1, .int x2] : List Value).toArray below meth cd H locs 0 0 Qz (F0 m 288 ls []) := by
        intro y4_288 y6_288 y7_288 fp_288 H locs ls hs hm_216 hy0_288 hy1_288 hy2_288 hy3_288 hy4_288 hy5_288 hI hF hP hS hl
        refine lv_aload_n hx hb dX12_shifts_288 rfl (lv_at hl 0 rfl) ?_
        refine lv_iload_n hx hb dX12_shifts_289 rfl (lv_at hl 1 rfl) ?_
        refine lv_iload hx hb dX12_shifts_290 (lv_at hl 4 rfl) ?_
        refine sg_calli (va_runV (As := [.int x1, .int y6_288]) (rest := []) ⟨hx, hb, hml, hown, hts⟩ (kX12_slipped l D ca za h hh fp_288 L Q hI x1 y6_288 hy1_288 hy4_288 H.size) (sl_c12_slipped_0_0_0_0_12 hts ⟨Nat.le_of_ble_eq_true rfl, Nat.le_of_ble_eq_true rfl⟩) (sl_vM_0 hA hK hP hS hZ) rfl rfl hl.1 rfl (lv_room (Nat.le_of_ble_eq_true rfl)) dX12_shifts_292 ⟨Nat.le_refl _, Nat.le_refl _⟩) hA hS (fun r_6 f_3 L_4 Q_5 H locs hq hP hS => ?_)
        obtain ⟨⟨ef9, eL9, eQ9⟩, hq, u_7⟩ := hq
        rw [ef9, eL9, eQ9] at hP; clear ef9 eL9 eQ9
        refine lv_istore (lv' := [(5, .int r_6), (0, .ref (h 0)), (2, .int x1), (3, .int x2), (4, .int y4_288), (6, .int y6_288), (7, .int y7_288)]) hx hb dX12_shifts_295 hl (by decide) rfl (fun ls hl => ?_)
        obtain ⟨v_8, ev_8⟩ : ∃ z : Int32, z = y7_288 + 1 := ⟨_, rfl⟩
        have q_9 : v_8.toInt = y7_288.toInt + 1 := by rw [ev_8]; exact (bn_addc y7_288 1 (by decide) (by omega) (by omega))
        refine lv_iinc (v := v_8) (lv' := [(7, .int v_8), (5, .int r_6), (0, .ref (h 0)), (2, .int x1), (3, .int x2), (4, .int y4_288), (6, .int y6_288)]) hx hb dX12_shifts_297 hl (k := 6) rfl (by rw [ev_8]; rfl) (by decide) rfl (fun ls hl => ?_)
        refine lv_goto (tgt := 216) hx hb dX12_shifts_300 (by decide) ?_
        exact ih_216 y4_288 r_6 y6_288 v_8 fp_288 _ _ _ (hs.trans ((spl_e u_7 (spl_e ev_8 rfl)))) (by omega) hy0_288 hy1_288 hy2_288 ⟨by omega, by omega⟩ ⟨by omega, by omega⟩ ⟨by omega, by omega⟩ ⟨by omega, by omega⟩ hI hF hP hS (lv_sub hl [2, 3, 4, 5, 1, 6, 0] rfl)
      have loop_235 : ∀ (n_235 : Nat) (y4_235 : Int32) (y5_235 : Int32) (y6_235 : Int32) (y7_235 : Int32) (y8_235 : Int32) (fp_235 : sg_F) (H : Heap) (locs : List Loc) (ls : Array Slot), sp = sX12_shifts_l235 (sX12_shifts_l216 x0 x1 x2 n_216) x0 x1 x2 n_235 y4_235 y5_235 y6_235 y7_235 y8_235 fp_235 L → 61 - y8_235.toInt < (n_235 : Int) → 21 - y7_235.toInt < ((n_216 + 1 : Nat) : Int) → 0 ≤ x0.toInt ∧ x0.toInt ≤ 5 → 0 ≤ x1.toInt ∧ x1.toInt ≤ 2 → 0 ≤ x2.toInt → 1 ≤ y4_235.toInt ∧ y4_235.toInt ≤ 21 → 0 ≤ y5_235.toInt ∧ y5_235.toInt ≤ 60 → (-1) ≤ y6_235.toInt ∧ y6_235.toInt ≤ 60 → 0 ≤ y7_235.toInt ∧ y7_235.toInt ≤ 20 → 0 ≤ y8_235.toInt ∧ y8_235.toInt ≤ 61 → sgI loM hiM fp_235 → sgK WkX12_shifts f fp_235 → va_P D vwCl (sgw 26 h (eM ca h) fp_235 L Q) H → va_S (sgA 26 h s.heap.size) s.heap H locs → lv_has ls 10 [(0, .ref (h 0)), (2, .int x1), (3, .int x2), (4, .int y4_235), (5, .int y5_235), (6, .int y6_235), (7, .int y7_235), (8, .int y8_235)] → W p l e ({ frames := 46, cells := 0, slots := 0, locals := 1056 }) s m ([.ref (h 0), .int x0, .int x1, .int x2] : List Value).toArray below meth cd H locs 0 0 Qz (F0 m 235 ls []) := by
        intro n_235
        induction n_235 with
        | zero => intro y4_235 y5_235 y6_235 y7_235 y8_235 fp_235 H locs ls hs hm_235 hm_216 hy0_235 hy1_235 hy2_235 hy3_235 hy4_235 hy5_235 hy6_235 hy7_235 hI hF hP hS hl; exact absurd hm_235 (by omega)
        | succ n_235 ih_235 =>
          intro y4_235 y5_235 y6_235 y7_235 y8_235 fp_235 H locs ls hs hm_235 hm_216 hy0_235 hy1_235 hy2_235 hy3_235 hy4_235 hy5_235 hy6_235 hy7_235 hI hF hP hS hl
          have hs : sp = sX12_shifts_h235 (sX12_shifts_l216 x0 x1 x2 n_216) x0 x1 x2 (sX12_shifts_l235 (sX12_shifts_l216 x0 x1 x2 n_216) x0 x1 x2 n_235) y4_235 y5_235 y6_235 y7_235 y8_235 fp_235 L := hs
          refine lv_iload hx hb dX12_shifts_235 (lv_at hl 7 rfl) ?_
          refine lv_bipush (v := 61) hx hb dX12_shifts_237 bp_61 ?_
          refine lv_icmp_ge (tgt := 288) hx hb dX12_shifts_239 (by decide) (fun c => ?_) (fun c => ?_)
          · skip
            have c_10 : 61 ≤ y8_235.toInt := (by first | exact (cm_le0 ti_61 c) | (have z := bn_le c; have k1 : (61 : Int32).toInt = 61 := ti_61; omega))
            exact blk_288 y4_235 y6_235 y7_235 fp_235 _ _ _ (hs.trans (((if_neg (Int.not_lt.mpr c_10)).trans rfl))) hm_216 hy0_235 hy1_235 hy2_235 hy3_235 hy5_235 hy6_235 hI hF hP hS (lv_sub hl [0, 1, 2, 3, 5, 6] rfl)
          · skip
            have c_11 : y8_235.toInt < 61 := (by first | exact (cm_nle0 ti_61 c) | (have z := bn_nle c; have k1 : (61 : Int32).toInt = 61 := ti_61; omega))
            replace hs := hs.trans ((if_pos c_11).trans rfl)
            refine lv_iload hx hb dX12_shifts_242 (lv_at hl 5 rfl) ?_
            refine lv_if_ge (tgt := 288) hx hb dX12_shifts_244 (by decide) (fun c => ?_) (fun c => ?_)
            · skip
              have c_12 : 0 ≤ y6_235.toInt := (by first | exact (cm_le0 ti_0 c) | (have z := bn_le c; have k1 : (0 : Int32).toInt = 0 := ti_0; omega))
              exact blk_288 y4_235 y6_235 y7_235 fp_235 _ _ _ (hs.trans ((if_neg (Int.not_lt.mpr c_12)).trans rfl)) hm_216 hy0_235 hy1_235 hy2_235 hy3_235 hy5_235 hy6_235 hI hF hP hS (lv_sub hl [0, 1, 2, 3, 5, 6] rfl)
            · skip
              have c_13 : y6_235.toInt < 0 := (by first | exact (cm_nle0 ti_0 c) | (have z := bn_nle c; have k1 : (0 : Int32).toInt = 0 := ti_0; omega))
              refine lv_aload_n hx hb dX12_shifts_247 rfl (lv_at hl 0 rfl) ?_
              refine lv_iload_n hx hb dX12_shifts_248 rfl (lv_at hl 1 rfl) ?_
              refine lv_iload hx hb dX12_shifts_249 (lv_at hl 6 rfl) ?_
              refine lv_iload hx hb dX12_shifts_251 (lv_at hl 4 rfl) ?_
              refine lv_iload hx hb dX12_shifts_253 (lv_at hl 7 rfl) ?_
              refine sg_calli (va_runV (As := [.int x1, .int y7_235, .int y5_235, .int y8_235]) (rest := []) ⟨hx, hb, hml, hown, hts⟩ (kX12_costBy l D ca za h hh fp_235 L Q hI x1 y7_235 y5_235 y8_235 hy1_235 hy6_235 hy4_235 ⟨by omega, by omega⟩ H.size) (sl_c12_costBy_1_0_0_23_12 hts ⟨Nat.le_of_ble_eq_true rfl, Nat.le_of_ble_eq_true rfl⟩) (sl_vM_0 hA hK hP hS hZ) rfl rfl hl.1 rfl (lv_room (Nat.le_of_ble_eq_true rfl)) dX12_shifts_255 ⟨Nat.le_refl _, Nat.le_refl _⟩) hA hS (fun r_17 f_14 L_15 Q_16 H locs hq hP hS => ?_)
              obtain ⟨⟨ef9, eL9, eQ9⟩, hq, u_18⟩ := hq
              rw [ef9, eL9, eQ9] at hP; clear ef9 eL9 eQ9
              refine lv_aload_n hx hb dX12_shifts_258 rfl (lv_at hl 0 rfl) ?_
              refine sl_gM_0_19_12 hx hb hts hown hK hP dX12_shifts_259 ?_
              refine lv_bipush (v := 61) hx hb dX12_shifts_262 bp_61 ?_
              refine lv_iload hx hb dX12_shifts_264 (lv_at hl 6 rfl) ?_
              refine lv_imul hx hb dX12_shifts_266 ?_
              refine lv_topi (fun v_19 ev_19 => ?_)
              have q_20 : v_19.toInt = 61 * y7_235.toInt := by rw [ev_19]; exact bn_mulJ (by decide) (by omega) (by omega)
              refine lv_iload hx hb dX12_shifts_267 (lv_at hl 4 rfl) ?_
              refine lv_iadd hx hb dX12_shifts_269 ?_
              refine lv_topi (fun v_21 ev_21 => ?_)
              have q_22 : v_21.toInt = v_19.toInt + y5_235.toInt := by rw [ev_21]; first | exact bn_addI (by omega) (by omega) | exact (bn_addI (by omega) (by omega)).trans (by omega)
              refine sg_iald hx hb hK hP 10 (by decide) 0 rfl rfl (i := v_21) (vp_in_iff.mpr ⟨by omega, by omega⟩) dX12_shifts_270 ?_
              refine lv_topi (fun v_23 ev_23 => ?_)
              replace hs := hs.trans ((if_pos c_13).trans (spl_e u_18 (spl_e ev_19 (spl_e ev_21 (spl_e ev_23 rfl)))))
              refine lv_icmp_ne (tgt := 279) hx hb dX12_shifts_271 (by decide) (fun c => ?_) (fun c => ?_)
              · skip
                have c_24 : r_17.toInt ≠ v_23.toInt := (by first | exact (bn_ne c) | (have z := bn_ne c; omega))
                refine lv_iconst (v := (-1)) hx hb dX12_shifts_279 ic_m1 ?_
                refine lv_istore (lv' := [(6, .int (-1)), (0, .ref (h 0)), (2, .int x1), (3, .int x2), (4, .int y4_235), (5, .int y5_235), (7, .int y7_235), (8, .int y8_235)]) hx hb dX12_shifts_280 hl (by decide) rfl (fun ls hl => ?_)
                obtain ⟨v_26, ev_26⟩ : ∃ z : Int32, z = y8_235 + 1 := ⟨_, rfl⟩
                have q_27 : v_26.toInt = y8_235.toInt + 1 := by rw [ev_26]; exact (bn_addc y8_235 1 (by decide) (by omega) (by omega))
                refine lv_iinc (v := v_26) (lv' := [(8, .int v_26), (6, .int (-1)), (0, .ref (h 0)), (2, .int x1), (3, .int x2), (4, .int y4_235), (5, .int y5_235), (7, .int y7_235)]) hx hb dX12_shifts_282 hl (k := 7) rfl (by rw [ev_26]; rfl) (by decide) rfl (fun ls hl => ?_)
                refine lv_goto (tgt := 235) hx hb dX12_shifts_285 (by decide) ?_
                exact ih_235 y4_235 y5_235 (-1) y7_235 v_26 fp_235 _ _ _ (hs.trans ((if_neg c_24).trans (spl_e ev_26 rfl))) (by have kc2 : ((-1) : Int32).toInt = (-1) := ti_m1; omega) (by have kc2 : ((-1) : Int32).toInt = (-1) := ti_m1; omega) hy0_235 hy1_235 hy2_235 hy3_235 hy4_235 (by decide) hy6_235 ⟨by omega, by omega⟩ hI hF hP hS (lv_sub hl [2, 3, 4, 5, 6, 1, 7, 0] rfl)
              · skip
                have c_25 : r_17.toInt = v_23.toInt := (by first | exact (Int32.toInt_inj.mpr c) | (have z := Int32.toInt_inj.mpr c; omega))
                refine lv_iload hx hb dX12_shifts_274 (lv_at hl 7 rfl) ?_
                refine lv_goto (tgt := 280) hx hb dX12_shifts_276 (by decide) ?_
                refine lv_istore (lv' := [(6, .int y8_235), (0, .ref (h 0)), (2, .int x1), (3, .int x2), (4, .int y4_235), (5, .int y5_235), (7, .int y7_235), (8, .int y8_235)]) hx hb dX12_shifts_280 hl (by decide) rfl (fun ls hl => ?_)
                obtain ⟨v_28, ev_28⟩ : ∃ z : Int32, z = y8_235 + 1 := ⟨_, rfl⟩
                have q_29 : v_28.toInt = y8_235.toInt + 1 := by rw [ev_28]; exact (bn_addc y8_235 1 (by decide) (by omega) (by omega))
                refine lv_iinc (v := v_28) (lv' := [(8, .int v_28), (6, .int y8_235), (0, .ref (h 0)), (2, .int x1), (3, .int x2), (4, .int y4_235), (5, .int y5_235), (7, .int y7_235)]) hx hb dX12_shifts_282 hl (k := 7) rfl (by rw [ev_28]; rfl) (by decide) rfl (fun ls hl => ?_)
                refine lv_goto (tgt := 235) hx hb dX12_shifts_285 (by decide) ?_
                exact ih_235 y4_235 y5_235 y8_235 y7_235 v_28 fp_235 _ _ _ (hs.trans ((if_pos c_25).trans (spl_e ev_28 rfl))) (by omega) hm_216 hy0_235 hy1_235 hy2_235 hy3_235 hy4_235 ⟨by omega, by omega⟩ hy6_235 ⟨by omega, by omega⟩ hI hF hP hS (lv_sub hl [2, 3, 4, 5, 6, 1, 7, 0] rfl)
      intro y4_216 y5_216 y6_216 y7_216 fp_216 H locs ls hs hm_216 hy0_216 hy1_216 hy2_216 hy3_216 hy4_216 hy5_216 hy6_216 hI hF hP hS hl
      have hs : sp = sX12_shifts_h216 x0 x1 x2 (sX12_shifts_l216 x0 x1 x2 n_216) y4_216 y5_216 y6_216 y7_216 fp_216 L := hs
      refine lv_iload hx hb dX12_shifts_216 (lv_at hl 6 rfl) ?_
      refine lv_iload hx hb dX12_shifts_218 (lv_at hl 3 rfl) ?_
      refine lv_icmp_ge (tgt := 303) hx hb dX12_shifts_220 (by decide) (fun c => ?_) (fun c => ?_)
      · skip
        have c_30 : y4_216.toInt ≤ y7_216.toInt := (by first | exact (bn_le c) | (have z := bn_le c; omega))
        exact blk_303 y4_216 y6_216 fp_216 _ _ _ (hs.trans (((if_neg (Int.not_lt.mpr c_30)).trans rfl))) hy0_216 hy1_216 hy2_216 hy3_216 hy5_216 hI hF hP hS (lv_sub hl [2, 3, 5] rfl)
      · skip
        have c_31 : y7_216.toInt < y4_216.toInt := (by first | exact (bn_nle c) | (have z := bn_nle c; omega))
        replace hs := hs.trans ((if_pos c_31).trans rfl)
        refine lv_iload hx hb dX12_shifts_223 (lv_at hl 6 rfl) ?_
        refine lv_iload_n hx hb dX12_shifts_225 rfl (lv_at hl 2 rfl) ?_
        refine lv_icmp_gt (tgt := 303) hx hb dX12_shifts_226 (by decide) (fun c => ?_) (fun c => ?_)
        · skip
          have c_32 : x2.toInt < y7_216.toInt := (by first | exact (bn_lt c) | (have z := bn_lt c; omega))
          exact blk_303 y4_216 y6_216 fp_216 _ _ _ (hs.trans ((if_pos c_32).trans rfl)) hy0_216 hy1_216 hy2_216 hy3_216 hy5_216 hI hF hP hS (lv_sub hl [2, 3, 5] rfl)
        · skip
          have c_33 : y7_216.toInt ≤ x2.toInt := (by first | exact (bn_nlt c) | (have z := bn_nlt c; omega))
          refine lv_iconst (v := (-1)) hx hb dX12_shifts_229 ic_m1 ?_
          refine lv_istore (lv' := [(6, .int (-1)), (0, .ref (h 0)), (2, .int x1), (3, .int x2), (4, .int y4_216), (5, .int y5_216), (7, .int y7_216)]) hx hb dX12_shifts_230 hl (by decide) rfl (fun ls hl => ?_)
          refine lv_iconst (v := 0) hx hb dX12_shifts_232 ic_0 ?_
          refine lv_istore (lv' := [(8, .int 0), (6, .int (-1)), (0, .ref (h 0)), (2, .int x1), (3, .int x2), (4, .int y4_216), (5, .int y5_216), (7, .int y7_216)]) hx hb dX12_shifts_233 hl (by decide) rfl (fun ls hl => ?_)
          exact loop_235 62 y4_216 y5_216 (-1) y7_216 0 fp_216 _ _ _ (hs.trans ((if_neg (Int.not_lt.mpr c_33)).trans rfl)) (by have kc2 : ((-1) : Int32).toInt = (-1) := ti_m1; have kc4 : (0 : Int32).toInt = 0 := ti_0; omega) (by have kc2 : ((-1) : Int32).toInt = (-1) := ti_m1; have kc4 : (0 : Int32).toInt = 0 := ti_0; omega) hy0_216 hy1_216 hy2_216 ⟨by omega, by omega⟩ hy4_216 (by decide) ⟨by omega, by omega⟩ (by decide) hI hF hP hS (lv_sub hl [2, 3, 4, 5, 6, 1, 7, 0] rfl)
  have loop_86 : ∀ (n_86 : Nat) (y4_86 : Int32) (y5_86 : Int32) (fp_86 : sg_F) (H : Heap) (locs : List Loc) (ls : Array Slot), sp = sX12_shifts_l86 x0 x1 x2 n_86 y4_86 y5_86 fp_86 L → y5_86.toInt - (-1) < (n_86 : Int) → 0 ≤ x0.toInt ∧ x0.toInt ≤ 5 → 0 ≤ x1.toInt ∧ x1.toInt ≤ 2 → (-1) ≤ x2.toInt → 0 ≤ y4_86.toInt ∧ y4_86.toInt ≤ 21 → (-1) ≤ y5_86.toInt ∧ y5_86.toInt ≤ 20 → sgI loM hiM fp_86 → sgK WkX12_shifts f fp_86 → va_P D vwCl (sgw 26 h (eM ca h) fp_86 L Q) H → va_S (sgA 26 h s.heap.size) s.heap H locs → lv_has ls 10 [(0, .ref (h 0)), (2, .int x1), (3, .int x2), (4, .int y4_86), (5, .int y5_86)] → W p l e ({ frames := 46, cells := 0, slots := 0, locals := 1056 }) s m ([.ref (h 0), .int x0, .int x1, .int x2] : List Value).toArray below meth cd H locs 0 0 Qz (F0 m 86 ls []) := by
    intro n_86
    induction n_86 with
    | zero => intro y4_86 y5_86 fp_86 H locs ls hs hm_86 hy0_86 hy1_86 hy2_86 hy3_86 hy4_86 hI hF hP hS hl; exact absurd hm_86 (by omega)
    | succ n_86 ih_86 =>
      have loop_94 : ∀ (n_94 : Nat) (y4_94 : Int32) (y5_94 : Int32) (y6_94 : Int32) (fp_94 : sg_F) (H : Heap) (locs : List Loc) (ls : Array Slot), sp = sX12_shifts_l94 (sX12_shifts_l86 x0 x1 x2 n_86) x0 x1 x2 n_94 y4_94 y5_94 y6_94 fp_94 L → 61 - y6_94.toInt < (n_94 : Int) → y5_94.toInt - (-1) < ((n_86 + 1 : Nat) : Int) → 0 ≤ x0.toInt ∧ x0.toInt ≤ 5 → 0 ≤ x1.toInt ∧ x1.toInt ≤ 2 → (-1) ≤ x2.toInt → 0 ≤ y4_94.toInt ∧ y4_94.toInt ≤ 21 → 0 ≤ y5_94.toInt ∧ y5_94.toInt ≤ 20 → 0 ≤ y6_94.toInt ∧ y6_94.toInt ≤ 61 → sgI loM hiM fp_94 → sgK WkX12_shifts f fp_94 → va_P D vwCl (sgw 26 h (eM ca h) fp_94 L Q) H → va_S (sgA 26 h s.heap.size) s.heap H locs → lv_has ls 10 [(0, .ref (h 0)), (2, .int x1), (3, .int x2), (4, .int y4_94), (5, .int y5_94), (6, .int y6_94)] → W p l e ({ frames := 46, cells := 0, slots := 0, locals := 1056 }) s m ([.ref (h 0), .int x0, .int x1, .int x2] : List Value).toArray below meth cd H locs 0 0 Qz (F0 m 94 ls []) := by
        intro n_94
        induction n_94 with
        | zero => intro y4_94 y5_94 y6_94 fp_94 H locs ls hs hm_94 hm_86 hy0_94 hy1_94 hy2_94 hy3_94 hy4_94 hy5_94 hI hF hP hS hl; exact absurd hm_94 (by omega)
        | succ n_94 ih_94 =>
          have loop_116 : ∀ (n_116 : Nat) (y4_116 : Int32) (y5_116 : Int32) (y6_116 : Int32) (y7_116 : Int32) (y8_116 : Int32) (fp_116 : sg_F) (H : Heap) (locs : List Loc) (ls : Array Slot), sp = sX12_shifts_l116 (sX12_shifts_l86 x0 x1 x2 n_86) (sX12_shifts_l94 (sX12_shifts_l86 x0 x1 x2 n_86) x0 x1 x2 n_94) x0 x1 x2 n_116 y4_116 y5_116 y6_116 y7_116 y8_116 fp_116 L → 61 - y8_116.toInt < (n_116 : Int) → y5_116.toInt - (-1) < ((n_86 + 1 : Nat) : Int) → 61 - y6_116.toInt < ((n_94 + 1 : Nat) : Int) → 0 ≤ x0.toInt ∧ x0.toInt ≤ 5 → 0 ≤ x1.toInt ∧ x1.toInt ≤ 2 → (-1) ≤ x2.toInt → 0 ≤ y4_116.toInt ∧ y4_116.toInt ≤ 21 → 0 ≤ y5_116.toInt ∧ y5_116.toInt ≤ 20 → 0 ≤ y6_116.toInt ∧ y6_116.toInt ≤ 60 → 1 ≤ y8_116.toInt ∧ y8_116.toInt ≤ 61 → sgI loM hiM fp_116 → sgK WkX12_shifts f fp_116 → va_P D vwCl (sgw 26 h (eM ca h) fp_116 L Q) H → va_S (sgA 26 h s.heap.size) s.heap H locs → lv_has ls 10 [(0, .ref (h 0)), (2, .int x1), (3, .int x2), (4, .int y4_116), (5, .int y5_116), (6, .int y6_116), (7, .int y7_116), (8, .int y8_116)] → W p l e ({ frames := 46, cells := 0, slots := 0, locals := 1056 }) s m ([.ref (h 0), .int x0, .int x1, .int x2] : List Value).toArray below meth cd H locs 0 0 Qz (F0 m 116 ls []) := by
            intro n_116
            induction n_116 with
            | zero => intro y4_116 y5_116 y6_116 y7_116 y8_116 fp_116 H locs ls hs hm_116 hm_86 hm_94 hy0_116 hy1_116 hy2_116 hy3_116 hy4_116 hy5_116 hy6_116 hI hF hP hS hl; exact absurd hm_116 (by omega)
            | succ n_116 ih_116 =>
              intro y4_116 y5_116 y6_116 y7_116 y8_116 fp_116 H locs ls hs hm_116 hm_86 hm_94 hy0_116 hy1_116 hy2_116 hy3_116 hy4_116 hy5_116 hy6_116 hI hF hP hS hl
              have hs : sp = sX12_shifts_h116 (sX12_shifts_l86 x0 x1 x2 n_86) (sX12_shifts_l94 (sX12_shifts_l86 x0 x1 x2 n_86) x0 x1 x2 n_94) x0 x1 x2 (sX12_shifts_l116 (sX12_shifts_l86 x0 x1 x2 n_86) (sX12_shifts_l94 (sX12_shifts_l86 x0 x1 x2 n_86) x0 x1 x2 n_94) x0 x1 x2 n_116) y4_116 y5_116 y6_116 y7_116 y8_116 fp_116 L := hs
              refine lv_iload hx hb dX12_shifts_116 (lv_at hl 7 rfl) ?_
              refine lv_bipush (v := 61) hx hb dX12_shifts_118 bp_61 ?_
              refine lv_icmp_ge (tgt := 158) hx hb dX12_shifts_120 (by decide) (fun c => ?_) (fun c => ?_)
              · skip
                have c_34 : 61 ≤ y8_116.toInt := (by first | exact (cm_le0 ti_61 c) | (have z := bn_le c; have k1 : (61 : Int32).toInt = 61 := ti_61; omega))
                refine lv_aload_n hx hb dX12_shifts_158 rfl (lv_at hl 0 rfl) ?_
                refine sl_gM_0_19_12 hx hb hts hown hK hP dX12_shifts_159 ?_
                refine lv_bipush (v := 61) hx hb dX12_shifts_162 bp_61 ?_
                refine lv_iload hx hb dX12_shifts_164 (lv_at hl 4 rfl) ?_
                refine lv_imul hx hb dX12_shifts_166 ?_
                refine lv_topi (fun v_36 ev_36 => ?_)
                have q_37 : v_36.toInt = 61 * y5_116.toInt := by rw [ev_36]; exact bn_mulJ (by decide) (by omega) (by omega)
                refine lv_iload hx hb dX12_shifts_167 (lv_at hl 5 rfl) ?_
                refine lv_iadd hx hb dX12_shifts_169 ?_
                refine lv_topi (fun v_38 ev_38 => ?_)
                have q_39 : v_38.toInt = v_36.toInt + y6_116.toInt := by rw [ev_38]; first | exact bn_addI (by omega) (by omega) | exact (bn_addI (by omega) (by omega)).trans (by omega)
                refine lv_iload hx hb dX12_shifts_170 (lv_at hl 6 rfl) ?_
                refine sg_iast hx hb hh hA hK hP hS 10 (by decide) 0 (fun _ => rfl) rfl (i := v_38) (x := y7_116) (vp_in_iff.mpr ⟨by omega, by omega⟩) dX12_shifts_172 (fun f_40 H locs ef_40 hP hS => ?_)
                have hI : sgI loM hiM f_40 := by rw [ef_40]; exact sgI.put hI 10 v_38.toNatClampNeg (bn_top _)
                have hF : sgK WkX12_shifts f f_40 := sgK.put hF ef_40 (by rfl)
                obtain ⟨v_41, ev_41⟩ : ∃ z : Int32, z = y6_116 + 1 := ⟨_, rfl⟩
                have q_42 : v_41.toInt = y6_116.toInt + 1 := by rw [ev_41]; exact (bn_addc y6_116 1 (by decide) (by omega) (by omega))
                refine lv_iinc (v := v_41) (lv' := [(6, .int v_41), (0, .ref (h 0)), (2, .int x1), (3, .int x2), (4, .int y4_116), (5, .int y5_116), (7, .int y7_116), (8, .int y8_116)]) hx hb dX12_shifts_173 hl (k := 5) rfl (by rw [ev_41]; rfl) (by decide) rfl (fun ls hl => ?_)
                refine lv_goto (tgt := 94) hx hb dX12_shifts_176 (by decide) ?_
                exact ih_94 y4_116 y5_116 v_41 f_40 _ _ _ (hs.trans (((if_neg (Int.not_lt.mpr c_34)).trans (spl_e ev_36 (spl_e ev_38 (spl_e ef_40 (spl_e ev_41 rfl))))))) (by omega) hm_86 hy0_116 hy1_116 hy2_116 hy3_116 hy4_116 ⟨by omega, by omega⟩ hI hF hP hS (lv_sub hl [1, 2, 3, 4, 5, 0] rfl)
              · skip
                have c_35 : y8_116.toInt < 61 := (by first | exact (cm_nle0 ti_61 c) | (have z := bn_nle c; have k1 : (61 : Int32).toInt = 61 := ti_61; omega))
                refine lv_aload_n hx hb dX12_shifts_123 rfl (lv_at hl 0 rfl) ?_
                refine lv_iload_n hx hb dX12_shifts_124 rfl (lv_at hl 1 rfl) ?_
                refine lv_iload hx hb dX12_shifts_125 (lv_at hl 4 rfl) ?_
                refine lv_iload hx hb dX12_shifts_127 (lv_at hl 5 rfl) ?_
                refine lv_iload hx hb dX12_shifts_129 (lv_at hl 7 rfl) ?_
                refine sg_calli (va_runV (As := [.int x1, .int y5_116, .int y6_116, .int y8_116]) (rest := []) ⟨hx, hb, hml, hown, hts⟩ (kX12_costBy l D ca za h hh fp_116 L Q hI x1 y5_116 y6_116 y8_116 hy1_116 hy4_116 hy5_116 ⟨by omega, by omega⟩ H.size) (sl_c12_costBy_1_0_0_23_12 hts ⟨Nat.le_of_ble_eq_true rfl, Nat.le_of_ble_eq_true rfl⟩) (sl_vM_0 hA hK hP hS hZ) rfl rfl hl.1 rfl (lv_room (Nat.le_of_ble_eq_true rfl)) dX12_shifts_131 ⟨Nat.le_refl _, Nat.le_refl _⟩) hA hS (fun r_46 f_43 L_44 Q_45 H locs hq hP hS => ?_)
                obtain ⟨⟨ef9, eL9, eQ9⟩, hq, u_47⟩ := hq
                replace hs := hs.trans ((if_pos c_35).trans (spl_e u_47 rfl))
                rw [ef9, eL9, eQ9] at hP; clear ef9 eL9 eQ9
                refine lv_istore (lv' := [(9, .int r_46), (0, .ref (h 0)), (2, .int x1), (3, .int x2), (4, .int y4_116), (5, .int y5_116), (6, .int y6_116), (7, .int y7_116), (8, .int y8_116)]) hx hb dX12_shifts_134 hl (by decide) rfl (fun ls hl => ?_)
                refine lv_iload hx hb dX12_shifts_136 (lv_at hl 0 rfl) ?_
                refine lv_iload hx hb dX12_shifts_138 (lv_at hl 7 rfl) ?_
                refine lv_icmp_ge (tgt := 148) hx hb dX12_shifts_140 (by decide) (fun c => ?_) (fun c => ?_)
                · skip
                  have c_48 : y7_116.toInt ≤ r_46.toInt := (by first | exact (bn_le c) | (have z := bn_le c; omega))
                  refine lv_iload hx hb dX12_shifts_148 (lv_at hl 7 rfl) ?_
                  refine lv_istore (lv' := [(7, .int y7_116), (9, .int r_46), (0, .ref (h 0)), (2, .int x1), (3, .int x2), (4, .int y4_116), (5, .int y5_116), (6, .int y6_116), (8, .int y8_116)]) hx hb dX12_shifts_150 hl (by decide) rfl (fun ls hl => ?_)
                  obtain ⟨v_50, ev_50⟩ : ∃ z : Int32, z = y8_116 + 1 := ⟨_, rfl⟩
                  have q_51 : v_50.toInt = y8_116.toInt + 1 := by rw [ev_50]; exact (bn_addc y8_116 1 (by decide) (by omega) (by omega))
                  refine lv_iinc (v := v_50) (lv' := [(8, .int v_50), (7, .int y7_116), (9, .int r_46), (0, .ref (h 0)), (2, .int x1), (3, .int x2), (4, .int y4_116), (5, .int y5_116), (6, .int y6_116)]) hx hb dX12_shifts_152 hl (k := 8) rfl (by rw [ev_50]; rfl) (by decide) rfl (fun ls hl => ?_)
                  refine lv_goto (tgt := 116) hx hb dX12_shifts_155 (by decide) ?_
                  exact ih_116 y4_116 y5_116 y6_116 y7_116 v_50 fp_116 _ _ _ (hs.trans ((if_neg (Int.not_lt.mpr c_48)).trans (spl_e ev_50 rfl))) (by omega) hm_86 hm_94 hy0_116 hy1_116 hy2_116 hy3_116 hy4_116 hy5_116 ⟨by omega, by omega⟩ hI hF hP hS (lv_sub hl [3, 4, 5, 6, 7, 8, 1, 0] rfl)
                · skip
                  have c_49 : r_46.toInt < y7_116.toInt := (by first | exact (bn_nle c) | (have z := bn_nle c; omega))
                  refine lv_iload hx hb dX12_shifts_143 (lv_at hl 0 rfl) ?_
                  refine lv_goto (tgt := 150) hx hb dX12_shifts_145 (by decide) ?_
                  refine lv_istore (lv' := [(7, .int r_46), (9, .int r_46), (0, .ref (h 0)), (2, .int x1), (3, .int x2), (4, .int y4_116), (5, .int y5_116), (6, .int y6_116), (8, .int y8_116)]) hx hb dX12_shifts_150 hl (by decide) rfl (fun ls hl => ?_)
                  obtain ⟨v_52, ev_52⟩ : ∃ z : Int32, z = y8_116 + 1 := ⟨_, rfl⟩
                  have q_53 : v_52.toInt = y8_116.toInt + 1 := by rw [ev_52]; exact (bn_addc y8_116 1 (by decide) (by omega) (by omega))
                  refine lv_iinc (v := v_52) (lv' := [(8, .int v_52), (7, .int r_46), (9, .int r_46), (0, .ref (h 0)), (2, .int x1), (3, .int x2), (4, .int y4_116), (5, .int y5_116), (6, .int y6_116)]) hx hb dX12_shifts_152 hl (k := 8) rfl (by rw [ev_52]; rfl) (by decide) rfl (fun ls hl => ?_)
                  refine lv_goto (tgt := 116) hx hb dX12_shifts_155 (by decide) ?_
                  exact ih_116 y4_116 y5_116 y6_116 r_46 v_52 fp_116 _ _ _ (hs.trans ((if_pos c_49).trans (spl_e ev_52 rfl))) (by omega) hm_86 hm_94 hy0_116 hy1_116 hy2_116 hy3_116 hy4_116 hy5_116 ⟨by omega, by omega⟩ hI hF hP hS (lv_sub hl [3, 4, 5, 6, 7, 8, 1, 0] rfl)
          intro y4_94 y5_94 y6_94 fp_94 H locs ls hs hm_94 hm_86 hy0_94 hy1_94 hy2_94 hy3_94 hy4_94 hy5_94 hI hF hP hS hl
          have hs : sp = sX12_shifts_h94 (sX12_shifts_l86 x0 x1 x2 n_86) x0 x1 x2 (sX12_shifts_l94 (sX12_shifts_l86 x0 x1 x2 n_86) x0 x1 x2 n_94) y4_94 y5_94 y6_94 fp_94 L := hs
          refine lv_iload hx hb dX12_shifts_94 (lv_at hl 5 rfl) ?_
          refine lv_bipush (v := 61) hx hb dX12_shifts_96 bp_61 ?_
          refine lv_icmp_ge (tgt := 179) hx hb dX12_shifts_98 (by decide) (fun c => ?_) (fun c => ?_)
          · skip
            have c_54 : 61 ≤ y6_94.toInt := (by first | exact (cm_le0 ti_61 c) | (have z := bn_le c; have k1 : (61 : Int32).toInt = 61 := ti_61; omega))
            obtain ⟨v_56, ev_56⟩ : ∃ z : Int32, z = y5_94 + (-1) := ⟨_, rfl⟩
            have q_57 : v_56.toInt = y5_94.toInt + (-1) := by rw [ev_56]; exact (bn_addc y5_94 (-1) (by decide) (by omega) (by omega))
            refine lv_iinc (v := v_56) (lv' := [(5, .int v_56), (0, .ref (h 0)), (2, .int x1), (3, .int x2), (4, .int y4_94), (6, .int y6_94)]) hx hb dX12_shifts_179 hl (k := 4) rfl (by rw [ev_56]; rfl) (by decide) rfl (fun ls hl => ?_)
            refine lv_goto (tgt := 86) hx hb dX12_shifts_182 (by decide) ?_
            exact ih_86 y4_94 v_56 fp_94 _ _ _ (hs.trans (((if_neg (Int.not_lt.mpr c_54)).trans (spl_e ev_56 rfl)))) (by omega) hy0_94 hy1_94 hy2_94 hy3_94 ⟨by omega, by omega⟩ hI hF hP hS (lv_sub hl [1, 2, 3, 4, 0] rfl)
          · skip
            have c_55 : y6_94.toInt < 61 := (by first | exact (cm_nle0 ti_61 c) | (have z := bn_nle c; have k1 : (61 : Int32).toInt = 61 := ti_61; omega))
            refine lv_aload_n hx hb dX12_shifts_101 rfl (lv_at hl 0 rfl) ?_
            refine lv_iload_n hx hb dX12_shifts_102 rfl (lv_at hl 1 rfl) ?_
            refine lv_iload hx hb dX12_shifts_103 (lv_at hl 4 rfl) ?_
            refine lv_iload hx hb dX12_shifts_105 (lv_at hl 5 rfl) ?_
            refine lv_iconst (v := 0) hx hb dX12_shifts_107 ic_0 ?_
            refine sg_calli (va_runV (As := [.int x1, .int y5_94, .int y6_94, .int 0]) (rest := []) ⟨hx, hb, hml, hown, hts⟩ (kX12_costBy l D ca za h hh fp_94 L Q hI x1 y5_94 y6_94 0 hy1_94 hy4_94 ⟨by omega, by omega⟩ (by decide) H.size) (sl_c12_costBy_1_0_0_23_12 hts ⟨Nat.le_of_ble_eq_true rfl, Nat.le_of_ble_eq_true rfl⟩) (sl_vM_0 hA hK hP hS hZ) rfl rfl hl.1 rfl (lv_room (Nat.le_of_ble_eq_true rfl)) dX12_shifts_108 ⟨Nat.le_refl _, Nat.le_refl _⟩) hA hS (fun r_61 f_58 L_59 Q_60 H locs hq hP hS => ?_)
            obtain ⟨⟨ef9, eL9, eQ9⟩, hq, u_62⟩ := hq
            rw [ef9, eL9, eQ9] at hP; clear ef9 eL9 eQ9
            refine lv_istore (lv' := [(7, .int r_61), (0, .ref (h 0)), (2, .int x1), (3, .int x2), (4, .int y4_94), (5, .int y5_94), (6, .int y6_94)]) hx hb dX12_shifts_111 hl (by decide) rfl (fun ls hl => ?_)
            refine lv_iconst (v := 1) hx hb dX12_shifts_113 ic_1 ?_
            refine lv_istore (lv' := [(8, .int 1), (7, .int r_61), (0, .ref (h 0)), (2, .int x1), (3, .int x2), (4, .int y4_94), (5, .int y5_94), (6, .int y6_94)]) hx hb dX12_shifts_114 hl (by decide) rfl (fun ls hl => ?_)
            exact loop_116 61 y4_94 y5_94 y6_94 r_61 1 fp_94 _ _ _ (hs.trans (((if_pos c_55).trans (spl_e u_62 rfl)))) (by have kc4 : (1 : Int32).toInt = 1 := ti_1; omega) (by have kc4 : (1 : Int32).toInt = 1 := ti_1; omega) (by have kc4 : (1 : Int32).toInt = 1 := ti_1; omega) hy0_94 hy1_94 hy2_94 hy3_94 hy4_94 ⟨by omega, by omega⟩ (by decide) hI hF hP hS (lv_sub hl [2, 3, 4, 5, 6, 7, 1, 0] rfl)
      intro y4_86 y5_86 fp_86 H locs ls hs hm_86 hy0_86 hy1_86 hy2_86 hy3_86 hy4_86 hI hF hP hS hl
      have hs : sp = sX12_shifts_h86 x0 x1 x2 (sX12_shifts_l86 x0 x1 x2 n_86) y4_86 y5_86 fp_86 L := hs
      refine lv_iload hx hb dX12_shifts_86 (lv_at hl 4 rfl) ?_
      refine lv_if_lt (tgt := 185) hx hb dX12_shifts_88 (by decide) (fun c => ?_) (fun c => ?_)
      · skip
        have c_63 : y5_86.toInt < 0 := (by first | exact (cm_lt1 ti_0 c) | (have z := bn_lt c; have k1 : (0 : Int32).toInt = 0 := ti_0; omega))
        replace hs := hs.trans ((if_pos c_63).trans rfl)
        refine lv_iload_n hx hb dX12_shifts_185 rfl (lv_at hl 2 rfl) ?_
        refine lv_if_ge (tgt := 201) hx hb dX12_shifts_186 (by decide) (fun c => ?_) (fun c => ?_)
        · skip
          have c_65 : 0 ≤ x2.toInt := (by first | exact (cm_le0 ti_0 c) | (have z := bn_le c; have k1 : (0 : Int32).toInt = 0 := ti_0; omega))
          refine lv_aload_n hx hb dX12_shifts_201 rfl (lv_at hl 0 rfl) ?_
          refine sl_gM_0_7_12 hx hb hts hown hK hP dX12_shifts_202 ?_
          refine lv_iload_n hx hb dX12_shifts_205 rfl (lv_at hl 1 rfl) ?_
          refine sg_iald hx hb hK hP 5 (by decide) 0 rfl rfl (i := x1) (vp_in_iff.mpr ⟨by omega, by omega⟩) dX12_shifts_206 ?_
          refine lv_topi (fun v_67 ev_67 => ?_)
          have q_68 : 0 ≤ v_67.toInt ∧ v_67.toInt ≤ 60 := by rw [ev_67]; exact hI 5 _
          refine lv_istore (lv' := [(5, .int v_67), (0, .ref (h 0)), (2, .int x1), (3, .int x2), (4, .int y4_86)]) hx hb dX12_shifts_207 hl (by decide) rfl (fun ls hl => ?_)
          refine lv_bipush (v := (-2)) hx hb dX12_shifts_209 bp_m2 ?_
          refine lv_istore (lv' := [(6, .int (-2)), (5, .int v_67), (0, .ref (h 0)), (2, .int x1), (3, .int x2), (4, .int y4_86)]) hx hb dX12_shifts_211 hl (by decide) rfl (fun ls hl => ?_)
          refine lv_iconst (v := 0) hx hb dX12_shifts_213 ic_0 ?_
          refine lv_istore (lv' := [(7, .int 0), (6, .int (-2)), (5, .int v_67), (0, .ref (h 0)), (2, .int x1), (3, .int x2), (4, .int y4_86)]) hx hb dX12_shifts_214 hl (by decide) rfl (fun ls hl => ?_)
          exact loop_216 22 y4_86 v_67 (-2) 0 fp_86 _ _ _ (hs.trans ((if_neg (Int.not_lt.mpr c_65)).trans (spl_e ev_67 rfl))) (by have kc2 : ((-2) : Int32).toInt = (-2) := ti_m2; have kc3 : (0 : Int32).toInt = 0 := ti_0; omega) hy0_86 hy1_86 c_65 hy3_86 q_68 (by decide) (by decide) hI hF hP hS (lv_sub hl [3, 4, 5, 6, 2, 1, 0] rfl)
        · skip
          have c_66 : x2.toInt < 0 := (by first | exact (cm_nle0 ti_0 c) | (have z := bn_nle c; have k1 : (0 : Int32).toInt = 0 := ti_0; omega))
          refine lv_aload_n hx hb dX12_shifts_189 rfl (lv_at hl 0 rfl) ?_
          refine sl_gM_0_19_12 hx hb hts hown hK hP dX12_shifts_190 ?_
          refine lv_aload_n hx hb dX12_shifts_193 rfl (lv_at hl 0 rfl) ?_
          refine sl_gM_0_7_12 hx hb hts hown hK hP dX12_shifts_194 ?_
          refine lv_iload_n hx hb dX12_shifts_197 rfl (lv_at hl 1 rfl) ?_
          refine sg_iald hx hb hK hP 5 (by decide) 0 rfl rfl (i := x1) (vp_in_iff.mpr ⟨by omega, by omega⟩) dX12_shifts_198 ?_
          refine lv_topi (fun v_69 ev_69 => ?_)
          have q_70 : 0 ≤ v_69.toInt ∧ v_69.toInt ≤ 60 := by rw [ev_69]; exact hI 5 _
          refine sg_iald hx hb hK hP 10 (by decide) 0 rfl rfl (i := v_69) (vp_in_iff.mpr ⟨by omega, by omega⟩) dX12_shifts_199 ?_
          refine lv_topi (fun v_71 ev_71 => ?_)
          exact hret _ _ _ _ (v_71) fp_86 L Q dX12_shifts_200 hP hS ⟨⟨hI, hF, rfl, rfl⟩, trivial, (Eq.trans (Eq.symm (hs.trans ((if_pos c_66).trans (spl_e ev_69 (spl_e ev_71 rfl))))) hsp)⟩
      · skip
        have c_64 : 0 ≤ y5_86.toInt := (by first | exact (cm_nlt1 ti_0 c) | (have z := bn_nlt c; have k1 : (0 : Int32).toInt = 0 := ti_0; omega))
        refine lv_iconst (v := 0) hx hb dX12_shifts_91 ic_0 ?_
        refine lv_istore (lv' := [(6, .int 0), (0, .ref (h 0)), (2, .int x1), (3, .int x2), (4, .int y4_86), (5, .int y5_86)]) hx hb dX12_shifts_92 hl (by decide) rfl (fun ls hl => ?_)
        exact loop_94 62 y4_86 y5_86 0 fp_86 _ _ _ (hs.trans (((if_neg (Int.not_lt.mpr c_64)).trans rfl))) (by have kc2 : (0 : Int32).toInt = 0 := ti_0; omega) (by have kc2 : (0 : Int32).toInt = 0 := ti_0; omega) hy0_86 hy1_86 hy2_86 hy3_86 ⟨by omega, by omega⟩ (by decide) hI hF hP hS (lv_sub hl [1, 2, 3, 4, 5, 0] rfl)
  have loop_53 : ∀ (n_53 : Nat) (y4_53 : Int32) (y5_53 : Int32) (fp_53 : sg_F) (H : Heap) (locs : List Loc) (ls : Array Slot), sp = sX12_shifts_l53 x0 x1 x2 n_53 y4_53 y5_53 fp_53 L → 61 - y5_53.toInt < (n_53 : Int) → 0 ≤ x0.toInt ∧ x0.toInt ≤ 5 → 0 ≤ x1.toInt ∧ x1.toInt ≤ 2 → (-1) ≤ x2.toInt → 0 ≤ y4_53.toInt ∧ y4_53.toInt ≤ 21 → 0 ≤ y5_53.toInt ∧ y5_53.toInt ≤ 61 → sgI loM hiM fp_53 → sgK WkX12_shifts f fp_53 → va_P D vwCl (sgw 26 h (eM ca h) fp_53 L Q) H → va_S (sgA 26 h s.heap.size) s.heap H locs → lv_has ls 10 [(0, .ref (h 0)), (2, .int x1), (3, .int x2), (4, .int y4_53), (5, .int y5_53)] → W p l e ({ frames := 46, cells := 0, slots := 0, locals := 1056 }) s m ([.ref (h 0), .int x0, .int x1, .int x2] : List Value).toArray below meth cd H locs 0 0 Qz (F0 m 53 ls []) := by
    intro n_53
    induction n_53 with
    | zero => intro y4_53 y5_53 fp_53 H locs ls hs hm_53 hy0_53 hy1_53 hy2_53 hy3_53 hy4_53 hI hF hP hS hl; exact absurd hm_53 (by omega)
    | succ n_53 ih_53 =>
      intro y4_53 y5_53 fp_53 H locs ls hs hm_53 hy0_53 hy1_53 hy2_53 hy3_53 hy4_53 hI hF hP hS hl
      have hs : sp = sX12_shifts_h53 x0 x1 x2 (sX12_shifts_l53 x0 x1 x2 n_53) y4_53 y5_53 fp_53 L := hs
      refine lv_iload hx hb dX12_shifts_53 (lv_at hl 4 rfl) ?_
      refine lv_bipush (v := 61) hx hb dX12_shifts_55 bp_61 ?_
      refine lv_icmp_ge (tgt := 80) hx hb dX12_shifts_57 (by decide) (fun c => ?_) (fun c => ?_)
      · skip
        have c_72 : 61 ≤ y5_53.toInt := (by first | exact (cm_le0 ti_61 c) | (have z := bn_le c; have k1 : (61 : Int32).toInt = 61 := ti_61; omega))
        refine lv_iload hx hb dX12_shifts_80 (lv_at hl 3 rfl) ?_
        refine lv_iconst (v := 1) hx hb dX12_shifts_82 ic_1 ?_
        refine lv_isub hx hb dX12_shifts_83 ?_
        refine lv_topi (fun v_74 ev_74 => ?_)
        have q_75 : v_74.toInt = y4_53.toInt - 1 := by rw [ev_74]; first | exact cm_sub ti_1 (by omega) (by omega) | (have k1 : (1 : Int32).toInt = 1 := ti_1; exact (bn_subI (by omega) (by omega)).trans (by omega))
        refine lv_istore (lv' := [(5, .int v_74), (0, .ref (h 0)), (2, .int x1), (3, .int x2), (4, .int y4_53)]) hx hb dX12_shifts_84 hl (by decide) rfl (fun ls hl => ?_)
        exact loop_86 22 y4_53 v_74 fp_53 _ _ _ (hs.trans (((if_neg (Int.not_lt.mpr c_72)).trans (spl_e ev_74 rfl)))) (by omega) hy0_53 hy1_53 hy2_53 hy3_53 ⟨by omega, by omega⟩ hI hF hP hS (lv_sub hl [1, 2, 3, 4, 0] rfl)
      · skip
        have c_73 : y5_53.toInt < 61 := (by first | exact (cm_nle0 ti_61 c) | (have z := bn_nle c; have k1 : (61 : Int32).toInt = 61 := ti_61; omega))
        refine lv_aload_n hx hb dX12_shifts_60 rfl (lv_at hl 0 rfl) ?_
        refine sl_gM_0_19_12 hx hb hts hown hK hP dX12_shifts_61 ?_
        refine lv_bipush (v := 61) hx hb dX12_shifts_64 bp_61 ?_
        refine lv_iload hx hb dX12_shifts_66 (lv_at hl 3 rfl) ?_
        refine lv_imul hx hb dX12_shifts_68 ?_
        refine lv_topi (fun v_76 ev_76 => ?_)
        have q_77 : v_76.toInt = 61 * y4_53.toInt := by rw [ev_76]; exact bn_mulJ (by decide) (by omega) (by omega)
        refine lv_iload hx hb dX12_shifts_69 (lv_at hl 4 rfl) ?_
        refine lv_iadd hx hb dX12_shifts_71 ?_
        refine lv_topi (fun v_78 ev_78 => ?_)
        have q_79 : v_78.toInt = v_76.toInt + y5_53.toInt := by rw [ev_78]; first | exact bn_addI (by omega) (by omega) | exact (bn_addI (by omega) (by omega)).trans (by omega)
        refine lv_iconst (v := 0) hx hb dX12_shifts_72 ic_0 ?_
        refine sg_iast hx hb hh hA hK hP hS 10 (by decide) 0 (fun _ => rfl) rfl (i := v_78) (x := 0) (vp_in_iff.mpr ⟨by omega, by omega⟩) dX12_shifts_73 (fun f_80 H locs ef_80 hP hS => ?_)
        have hI : sgI loM hiM f_80 := by rw [ef_80]; exact sgI.put hI 10 v_78.toNatClampNeg (bn_top _)
        have hF : sgK WkX12_shifts f f_80 := sgK.put hF ef_80 (by rfl)
        obtain ⟨v_81, ev_81⟩ : ∃ z : Int32, z = y5_53 + 1 := ⟨_, rfl⟩
        have q_82 : v_81.toInt = y5_53.toInt + 1 := by rw [ev_81]; exact (bn_addc y5_53 1 (by decide) (by omega) (by omega))
        refine lv_iinc (v := v_81) (lv' := [(5, .int v_81), (0, .ref (h 0)), (2, .int x1), (3, .int x2), (4, .int y4_53)]) hx hb dX12_shifts_74 hl (k := 4) rfl (by rw [ev_81]; rfl) (by decide) rfl (fun ls hl => ?_)
        refine lv_goto (tgt := 53) hx hb dX12_shifts_77 (by decide) ?_
        exact ih_53 y4_53 v_81 f_80 _ _ _ (hs.trans (((if_pos c_73).trans (spl_e ev_76 (spl_e ev_78 (spl_e ef_80 (spl_e ev_81 rfl))))))) (by omega) hy0_53 hy1_53 hy2_53 hy3_53 ⟨by omega, by omega⟩ hI hF hP hS (lv_sub hl [1, 2, 3, 4, 0] rfl)
  refine lv_aload_n hx hb dX12_shifts_0 rfl (lv_at hl 0 rfl) ?_
  refine lv_iload_n hx hb dX12_shifts_1 rfl (lv_at hl 1 rfl) ?_
  refine sg_calli (va_runV (As := [.int x0]) (rest := []) ⟨hx, hb, hml, hown, hts⟩ (kX12_bytesIs l D ca za h hh f L Q hI x0 H.size) (sl_c12_bytesIs_2_0_0_45_12 hts ⟨Nat.le_of_ble_eq_true rfl, Nat.le_of_ble_eq_true rfl⟩) (sl_vM_0 hA hK hP hS hZ) rfl rfl hl.1 rfl (lv_room (Nat.le_of_ble_eq_true rfl)) dX12_shifts_2 ⟨Nat.le_refl _, Nat.le_refl _⟩) hA hS (fun r_86 f_83 L_84 Q_85 H locs hq hP hS => ?_)
  obtain ⟨⟨ef9, eL9, eQ9⟩, hq, u_87⟩ := hq
  replace hs := hs.trans (spl_e u_87 rfl)
  rw [ef9, eL9, eQ9] at hP; clear ef9 eL9 eQ9
  rcases hq with ⟨rfl, hq⟩ | hq | ⟨rfl, hq⟩
  · skip
    have hc_88 := hq
    refine lv_iconst (v := (-1)) hx hb dX12_shifts_5 ic_m1 ?_
    refine lv_icmp_eq (tgt := 21) hx hb dX12_shifts_6 (by decide) (fun c => absurd c (by decide)) (fun c => ?_)
    refine lv_iload_n hx hb dX12_shifts_9 rfl (lv_at hl 2 rfl) ?_
    refine sg_calli (va_runS (As := [.int x1]) (rest := []) ⟨hx, hb, hml, hown, hts⟩ (kX12_isPart l D ca za h hh f L Q hI x1 H.size) (va_cwS 1 hts (gw_S (fun _ h => List.mem_cons_of_mem _ h) mw_636 mw_637 mw_619 mw_635) rfl rfl rfl hd_yX12_isPart.2 ⟨Nat.le_of_ble_eq_true rfl, Nat.le_of_ble_eq_true rfl⟩) (sg_preS hA hK hP hS hZ) rfl rfl hl.1 rfl (lv_room (Nat.le_of_ble_eq_true rfl)) dX12_shifts_10 ⟨Nat.le_refl _, Nat.le_refl _⟩) hA hS (fun r_92 f_89 L_90 Q_91 H locs hq hP hS => ?_)
    obtain ⟨⟨ef9, eL9, eQ9⟩, hq, u_93⟩ := hq
    replace hs := hs.trans ((if_pos rfl).trans (spl_e u_93 rfl))
    rw [ef9, eL9, eQ9] at hP; clear ef9 eL9 eQ9
    rcases hq with ⟨rfl, hq⟩ | ⟨rfl, hq⟩
    · skip
      have hc_94 := hq
      refine lv_if_eq (tgt := 21) hx hb dX12_shifts_13 (by decide) (fun c => absurd c (by decide)) (fun c => ?_)
      refine lv_iload_n hx hb dX12_shifts_16 rfl (lv_at hl 3 rfl) ?_
      refine lv_iconst (v := (-1)) hx hb dX12_shifts_17 ic_m1 ?_
      refine lv_icmp_ge (tgt := 23) hx hb dX12_shifts_18 (by decide) (fun c => ?_) (fun c => ?_)
      · skip
        have c_95 : (-1) ≤ x2.toInt := (by first | exact (cm_le0 ti_m1 c) | (have z := bn_le c; have k1 : ((-1) : Int32).toInt = (-1) := ti_m1; omega))
        refine lv_aload_n hx hb dX12_shifts_23 rfl (lv_at hl 0 rfl) ?_
        refine lv_iload_n hx hb dX12_shifts_24 rfl (lv_at hl 1 rfl) ?_
        refine sg_calli (va_runV (As := [.int x0]) (rest := []) ⟨hx, hb, hml, hown, hts⟩ (kX12_bytesIs l D ca za h hh f L Q hI x0 H.size) (sl_c12_bytesIs_2_0_0_45_12 hts ⟨Nat.le_of_ble_eq_true rfl, Nat.le_of_ble_eq_true rfl⟩) (sl_vM_0 hA hK hP hS hZ) rfl rfl hl.1 rfl (lv_room (Nat.le_of_ble_eq_true rfl)) dX12_shifts_25 ⟨Nat.le_refl _, Nat.le_refl _⟩) hA hS (fun r_100 f_97 L_98 Q_99 H locs hq hP hS => ?_)
        obtain ⟨⟨ef9, eL9, eQ9⟩, hq, u_101⟩ := hq
        rw [ef9, eL9, eQ9] at hP; clear ef9 eL9 eQ9
        rw [show r_100 = 1 from u_101.trans u_87.symm]
        refine lv_if_ge (tgt := 37) hx hb dX12_shifts_28 (by decide) (fun c => ?_) (fun c => absurd c (by decide))
        refine lv_aload_n hx hb dX12_shifts_37 rfl (lv_at hl 0 rfl) ?_
        refine lv_iload_n hx hb dX12_shifts_38 rfl (lv_at hl 1 rfl) ?_
        refine sg_calli (va_runV (As := [.int x0]) (rest := []) ⟨hx, hb, hml, hown, hts⟩ (kX12_shiftsOf l D ca za h hh f L Q hI x0 ⟨by omega, by omega⟩ H.size) (sl_c12_shiftsOf_0_0_0_0_12 hts ⟨Nat.le_of_ble_eq_true rfl, Nat.le_of_ble_eq_true rfl⟩) (sl_vM_0 hA hK hP hS hZ) rfl rfl hl.1 rfl (lv_room (Nat.le_of_ble_eq_true rfl)) dX12_shifts_39 ⟨Nat.le_refl _, Nat.le_refl _⟩) hA hS (fun r_105 f_102 L_103 Q_104 H locs hq hP hS => ?_)
        obtain ⟨⟨ef9, eL9, eQ9⟩, hq, u_106⟩ := hq
        rw [ef9, eL9, eQ9] at hP; clear ef9 eL9 eQ9
        refine lv_istore (lv' := [(4, .int r_105), (0, .ref (h 0)), (1, .int x0), (2, .int x1), (3, .int x2)]) hx hb dX12_shifts_42 hl (by decide) rfl (fun ls hl => ?_)
        refine lv_aload_n hx hb dX12_shifts_44 rfl (lv_at hl 1 rfl) ?_
        refine lv_iload_n hx hb dX12_shifts_45 rfl (lv_at hl 2 rfl) ?_
        refine lv_iload_n hx hb dX12_shifts_46 rfl (lv_at hl 3 rfl) ?_
        refine sg_callv (va_runV (As := [.int x0, .int x1]) (rest := []) ⟨hx, hb, hml, hown, hts⟩ (kX12_asksLosses l D ca za h hh f L Q hI x0 x1 ⟨by omega, by omega⟩ ⟨by omega, by omega⟩ H.size) (sl_c12_asksLosses_45_0_0_1032_12 hts ⟨Nat.le_of_ble_eq_true rfl, Nat.le_of_ble_eq_true rfl⟩) (sl_vM_0 hA hK hP hS hZ) rfl rfl hl.1 rfl (lv_room (Nat.le_of_ble_eq_true rfl)) dX12_shifts_47 ⟨Nat.le_refl _, Nat.le_refl _⟩) hA hS (fun f_107 L_108 Q_109 H locs hq hP hS => ?_)
        obtain ⟨⟨hI, hk_f_107, eL9, eQ9⟩, u_110⟩ := hq
        rw [eL9, eQ9] at hP; clear eL9 eQ9
        have hF : sgK WkX12_shifts f f_107 := sgK.tr hF hk_f_107 (by decide +kernel)
        refine lv_iconst (v := 0) hx hb dX12_shifts_50 ic_0 ?_
        refine lv_istore (lv' := [(5, .int 0), (4, .int r_105), (0, .ref (h 0)), (1, .int x0), (2, .int x1), (3, .int x2)]) hx hb dX12_shifts_51 hl (by decide) rfl (fun ls hl => ?_)
        exact loop_53 62 r_105 0 f_107 _ _ _ (hs.trans ((if_pos rfl).trans ((if_neg (Int.not_lt.mpr c_95)).trans (spl_e u_106 (spl_e u_110 rfl))))) (by have kc1 : (0 : Int32).toInt = 0 := ti_0; omega) ⟨by omega, by omega⟩ ⟨by omega, by omega⟩ c_95 ⟨by omega, by omega⟩ (by decide) hI hF hP hS (lv_sub hl [2, 4, 5, 1, 0] rfl)
      · skip
        have c_96 : x2.toInt < (-1) := (by first | exact (cm_nle0 ti_m1 c) | (have z := bn_nle c; have k1 : ((-1) : Int32).toInt = (-1) := ti_m1; omega))
        refine lv_iconst (v := (-1)) hx hb dX12_shifts_21 ic_m1 ?_
        have k99 : ((-1) : Int32).toInt = (-1) := ti_m1
        exact hret _ _ _ _ (-1) f L Q dX12_shifts_22 hP hS ⟨⟨hI, hF, rfl, rfl⟩, trivial, (Eq.trans (Eq.symm (hs.trans ((if_pos rfl).trans ((if_pos c_96).trans rfl)))) hsp)⟩
    · skip
      have hc_94 := hq
      refine lv_if_eq (tgt := 21) hx hb dX12_shifts_13 (by decide) (fun c => ?_) (fun c => absurd c (by decide))
      refine lv_iconst (v := (-1)) hx hb dX12_shifts_21 ic_m1 ?_
      have k99 : ((-1) : Int32).toInt = (-1) := ti_m1
      exact hret _ _ _ _ (-1) f L Q dX12_shifts_22 hP hS ⟨⟨hI, hF, rfl, rfl⟩, trivial, (Eq.trans (Eq.symm (hs.trans ((if_neg (by decide)).trans rfl))) hsp)⟩
  · skip
    have hc_88 := hq
    refine lv_iconst (v := (-1)) hx hb dX12_shifts_5 ic_m1 ?_
    refine lv_icmp_eq (tgt := 21) hx hb dX12_shifts_6 (by decide) (fun c => ?_) (fun c => ?_)
    · skip
      exfalso; have c_111 : r_86.toInt = (-1) := (by first | exact (cm_eq1 ti_m1 c) | (have z := Int32.toInt_inj.mpr c; have k1 : ((-1) : Int32).toInt = (-1) := ti_m1; omega)); first | exact absurd c_111 (by assumption) | omega
    · skip
      have c_112 : r_86.toInt ≠ (-1) := (by first | exact (cm_ne1 ti_m1 c) | (have z := bn_ne c; have k1 : ((-1) : Int32).toInt = (-1) := ti_m1; omega))
      refine lv_iload_n hx hb dX12_shifts_9 rfl (lv_at hl 2 rfl) ?_
      refine sg_calli (va_runS (As := [.int x1]) (rest := []) ⟨hx, hb, hml, hown, hts⟩ (kX12_isPart l D ca za h hh f L Q hI x1 H.size) (va_cwS 1 hts (gw_S (fun _ h => List.mem_cons_of_mem _ h) mw_636 mw_637 mw_619 mw_635) rfl rfl rfl hd_yX12_isPart.2 ⟨Nat.le_of_ble_eq_true rfl, Nat.le_of_ble_eq_true rfl⟩) (sg_preS hA hK hP hS hZ) rfl rfl hl.1 rfl (lv_room (Nat.le_of_ble_eq_true rfl)) dX12_shifts_10 ⟨Nat.le_refl _, Nat.le_refl _⟩) hA hS (fun r_116 f_113 L_114 Q_115 H locs hq hP hS => ?_)
      obtain ⟨⟨ef9, eL9, eQ9⟩, hq, u_117⟩ := hq
      rw [ef9, eL9, eQ9] at hP; clear ef9 eL9 eQ9
      rcases hq with ⟨rfl, hq⟩ | ⟨rfl, hq⟩
      · skip
        have hc_118 := hq
        refine lv_if_eq (tgt := 21) hx hb dX12_shifts_13 (by decide) (fun c => absurd c (by decide)) (fun c => ?_)
        refine lv_iload_n hx hb dX12_shifts_16 rfl (lv_at hl 3 rfl) ?_
        refine lv_iconst (v := (-1)) hx hb dX12_shifts_17 ic_m1 ?_
        refine lv_icmp_ge (tgt := 23) hx hb dX12_shifts_18 (by decide) (fun c => ?_) (fun c => ?_)
        · skip
          have c_119 : (-1) ≤ x2.toInt := (by first | exact (cm_le0 ti_m1 c) | (have z := bn_le c; have k1 : ((-1) : Int32).toInt = (-1) := ti_m1; omega))
          refine lv_aload_n hx hb dX12_shifts_23 rfl (lv_at hl 0 rfl) ?_
          refine lv_iload_n hx hb dX12_shifts_24 rfl (lv_at hl 1 rfl) ?_
          refine sg_calli (va_runV (As := [.int x0]) (rest := []) ⟨hx, hb, hml, hown, hts⟩ (kX12_bytesIs l D ca za h hh f L Q hI x0 H.size) (sl_c12_bytesIs_2_0_0_45_12 hts ⟨Nat.le_of_ble_eq_true rfl, Nat.le_of_ble_eq_true rfl⟩) (sl_vM_0 hA hK hP hS hZ) rfl rfl hl.1 rfl (lv_room (Nat.le_of_ble_eq_true rfl)) dX12_shifts_25 ⟨Nat.le_refl _, Nat.le_refl _⟩) hA hS (fun r_124 f_121 L_122 Q_123 H locs hq hP hS => ?_)
          obtain ⟨⟨ef9, eL9, eQ9⟩, hq, u_125⟩ := hq
          rw [ef9, eL9, eQ9] at hP; clear ef9 eL9 eQ9
          rw [show r_124 = r_86 from u_125.trans u_87.symm]
          refine lv_if_ge (tgt := 37) hx hb dX12_shifts_28 (by decide) (fun c => ?_) (fun c => ?_)
          · skip
            exfalso; have c_126 : 0 ≤ r_86.toInt := (by first | exact (cm_le0 ti_0 c) | (have z := bn_le c; have k1 : (0 : Int32).toInt = 0 := ti_0; omega)); omega
          · skip
            have c_127 : r_86.toInt < 0 := (by first | exact (cm_nle0 ti_0 c) | (have z := bn_nle c; have k1 : (0 : Int32).toInt = 0 := ti_0; omega))
            refine lv_aload_n hx hb dX12_shifts_31 rfl (lv_at hl 0 rfl) ?_
            refine lv_iload_n hx hb dX12_shifts_32 rfl (lv_at hl 1 rfl) ?_
            refine sg_calli (va_runV (As := [.int x0]) (rest := []) ⟨hx, hb, hml, hown, hts⟩ (kX12_bytesIs l D ca za h hh f L Q hI x0 H.size) (sl_c12_bytesIs_2_0_0_45_12 hts ⟨Nat.le_of_ble_eq_true rfl, Nat.le_of_ble_eq_true rfl⟩) (sl_vM_0 hA hK hP hS hZ) rfl rfl hl.1 rfl (lv_room (Nat.le_of_ble_eq_true rfl)) dX12_shifts_33 ⟨Nat.le_refl _, Nat.le_refl _⟩) hA hS (fun r_131 f_128 L_129 Q_130 H locs hq hP hS => ?_)
            obtain ⟨⟨ef9, eL9, eQ9⟩, hq, u_132⟩ := hq
            rw [ef9, eL9, eQ9] at hP; clear ef9 eL9 eQ9
            rw [show r_131 = r_86 from u_132.trans u_87.symm]
            exact hret _ _ _ _ (r_86) f L Q dX12_shifts_36 hP hS ⟨⟨hI, hF, rfl, rfl⟩, trivial, (Eq.trans (Eq.symm (hs.trans ((if_neg (fun z9 => by have k9 : (1 : Int32).toInt = 1 := ti_1; have h9 := hc_88; rw [z9] at h9; omega)).trans ((if_neg (fun z9 => by have k9 : ((-1) : Int32).toInt = (-1) := ti_m1; have h9 := hc_88; rw [z9] at h9; omega)).trans (spl_e u_117 ((if_pos rfl).trans ((if_neg (Int.not_lt.mpr c_119)).trans rfl))))))) hsp)⟩
        · skip
          have c_120 : x2.toInt < (-1) := (by first | exact (cm_nle0 ti_m1 c) | (have z := bn_nle c; have k1 : ((-1) : Int32).toInt = (-1) := ti_m1; omega))
          refine lv_iconst (v := (-1)) hx hb dX12_shifts_21 ic_m1 ?_
          have k99 : ((-1) : Int32).toInt = (-1) := ti_m1
          exact hret _ _ _ _ (-1) f L Q dX12_shifts_22 hP hS ⟨⟨hI, hF, rfl, rfl⟩, trivial, (Eq.trans (Eq.symm (hs.trans ((if_neg (fun z9 => by have k9 : (1 : Int32).toInt = 1 := ti_1; have h9 := hc_88; rw [z9] at h9; omega)).trans ((if_neg (fun z9 => by have k9 : ((-1) : Int32).toInt = (-1) := ti_m1; have h9 := hc_88; rw [z9] at h9; omega)).trans (spl_e u_117 ((if_pos rfl).trans ((if_pos c_120).trans rfl))))))) hsp)⟩
      · skip
        have hc_118 := hq
        refine lv_if_eq (tgt := 21) hx hb dX12_shifts_13 (by decide) (fun c => ?_) (fun c => absurd c (by decide))
        refine lv_iconst (v := (-1)) hx hb dX12_shifts_21 ic_m1 ?_
        have k99 : ((-1) : Int32).toInt = (-1) := ti_m1
        exact hret _ _ _ _ (-1) f L Q dX12_shifts_22 hP hS ⟨⟨hI, hF, rfl, rfl⟩, trivial, (Eq.trans (Eq.symm (hs.trans ((if_neg (fun z9 => by have k9 : (1 : Int32).toInt = 1 := ti_1; have h9 := hc_88; rw [z9] at h9; omega)).trans ((if_neg (fun z9 => by have k9 : ((-1) : Int32).toInt = (-1) := ti_m1; have h9 := hc_88; rw [z9] at h9; omega)).trans (spl_e u_117 ((if_neg (by decide)).trans rfl)))))) hsp)⟩
  · skip
    have hc_88 := hq
    refine lv_iconst (v := (-1)) hx hb dX12_shifts_5 ic_m1 ?_
    refine lv_icmp_eq (tgt := 21) hx hb dX12_shifts_6 (by decide) (fun c => ?_) (fun c => absurd c (by decide))
    refine lv_iconst (v := (-1)) hx hb dX12_shifts_21 ic_m1 ?_
    have k99 : ((-1) : Int32).toInt = (-1) := ti_m1
    exact hret _ _ _ _ (-1) f L Q dX12_shifts_22 hP hS ⟨⟨hI, hF, rfl, rfl⟩, trivial, (Eq.trans (Eq.symm (hs.trans ((if_neg (by decide)).trans ((if_pos rfl).trans rfl)))) hsp)⟩

abbrev WkX12_once : List (Nat × Nat × Option Nat) := [(0, 0, some 12), (0, 0, some 13), (0, 0, some 14), (0, 0, some 15), (0, 0, some 16), (8, 8, none), (9, 9, none)]
set_option maxHeartbeats 4000000 in
set_option maxRecDepth 100000 in
theorem kX12_once (l : Launch) (D : va_G) (ca : Nat → ClassId) (za h : Nat → Nat) (hh : sgH 26 h) (f : sg_F) (L : sg_L) (Q : sg_Q) (hI : sgI loM hiM f) (x0 : Int32) (x1 : Int32) (x2 : Int32) (sz : Nat) : Met l yX12_once gwX12_once { frames := 46, cells := 0, slots := 0, locals := 1056 } (sgP D vwCl (tyX ca) 26 h (eM ca h) zcM za f L Q sz [.ref (h 0), .int x0, .int x1, .int x2]) (sgQi D vwCl 26 h (eM ca h) sz (fun r f1 L1 Q1 => ((sgI loM hiM f1 ∧ sgK WkX12_once f f1 ∧ L1 = L ∧ Q1 = Q) ∧ True ∧ (r, f1) = sX12_once x0 x1 x2 f L))) 0 0 (sgA 26 h sz) := by
  refine sg_ofWi (cc := cX12_once) (maxL := 13) RX12 (by decide) rfl rfl (Nat.le_of_ble_eq_true rfl) ?_
  intro p e s m below meth cd Qz ls hx hb hml hown hts hK hZ hP hS hl hret
  have hA := sgY.self (n := 26) (h := h) (sz := s.heap.size)
  have hl : lv_has ls 13 [(0, .ref (h 0)), (1, .int x0), (2, .int x1), (3, .int x2)] := hl
  obtain ⟨H, hH⟩ : ∃ z : Heap, z = s.heap := ⟨_, rfl⟩
  obtain ⟨locs, hlo⟩ : ∃ z : List Loc, z = [] := ⟨_, rfl⟩
  have hP : va_P D vwCl (sgw 26 h (eM ca h) f L Q) H := by rw [hH]; exact hP
  have hS : va_S (sgA 26 h s.heap.size) s.heap H locs := by rw [hH, hlo]; exact hS
  suffices hgo : W p l e ({ frames := 46, cells := 0, slots := 0, locals := 1056 }) s m ([.ref (h 0), .int x0, .int x1, .int x2] : List Value).toArray below meth cd H locs 0 0 Qz (F0 m 0 ls []) by rw [hH, hlo] at hgo; exact hgo
  clear hH hlo
  obtain ⟨sp, hsp⟩ : ∃ z : Int32 × sg_F, z = sX12_once x0 x1 x2 f L := ⟨_, rfl⟩
  have hs : sp = sX12_once x0 x1 x2 f L := hsp
  have hF : sgK WkX12_once f f := sgK.rf
  have loop_71 : ∀ (n_71 : Nat) (y4_71 : Int32) (y5_71 : Int32) (y6_71 : Int32) (y7_71 : Int32) (y8_71 : Int32) (fp_71 : sg_F) (H : Heap) (locs : List Loc) (ls : Array Slot), sp = sX12_once_l71 x0 x1 x2 n_71 y4_71 y5_71 y6_71 y7_71 y8_71 fp_71 L → 21 - y8_71.toInt < (n_71 : Int) → 0 ≤ x0.toInt ∧ x0.toInt ≤ 5 → 0 ≤ x1.toInt ∧ x1.toInt ≤ 2 → 0 ≤ x2.toInt ∧ x2.toInt ≤ 2 → 0 ≤ y4_71.toInt ∧ y4_71.toInt ≤ 21 → (-2) ≤ y6_71.toInt ∧ y6_71.toInt ≤ 20 → (-2) ≤ y7_71.toInt ∧ y7_71.toInt ≤ 60 → (-1) ≤ y8_71.toInt ∧ y8_71.toInt ≤ 21 → sgI loM hiM fp_71 → sgK WkX12_once f fp_71 → va_P D vwCl (sgw 26 h (eM ca h) fp_71 L Q) H → va_S (sgA 26 h s.heap.size) s.heap H locs → lv_has ls 13 [(0, .ref (h 0)), (2, .int x1), (3, .int x2), (4, .int y4_71), (5, .int y5_71), (6, .int y6_71), (7, .int y7_71), (8, .int y8_71)] → W p l e ({ frames := 46, cells := 0, slots := 0, locals := 1056 }) s m ([.ref (h 0), .int x0, .int x1, .int x2] : List Value).toArray below meth cd H locs 0 0 Qz (F0 m 71 ls []) := by
    intro n_71
    induction n_71 with
    | zero => intro y4_71 y5_71 y6_71 y7_71 y8_71 fp_71 H locs ls hs hm_71 hy0_71 hy1_71 hy2_71 hy3_71 hy4_71 hy5_71 hy6_71 hI hF hP hS hl; exact absurd hm_71 (by omega)
    | succ n_71 ih_71 =>
      have loop_81 : ∀ (n_81 : Nat) (y4_81 : Int32) (y5_81 : Int32) (y6_81 : Int32) (y7_81 : Int32) (y8_81 : Int32) (y9_81 : Int32) (fp_81 : sg_F) (H : Heap) (locs : List Loc) (ls : Array Slot), sp = sX12_once_l81 (sX12_once_l71 x0 x1 x2 n_71) x0 x1 x2 n_81 y4_81 y5_81 y6_81 y7_81 y8_81 y9_81 fp_81 L → 61 - y9_81.toInt < (n_81 : Int) → 21 - y8_81.toInt < ((n_71 + 1 : Nat) : Int) → 0 ≤ x0.toInt ∧ x0.toInt ≤ 5 → 0 ≤ x1.toInt ∧ x1.toInt ≤ 2 → 0 ≤ x2.toInt ∧ x2.toInt ≤ 2 → 0 ≤ y4_81.toInt ∧ y4_81.toInt ≤ 21 → (-2) ≤ y6_81.toInt ∧ y6_81.toInt ≤ 20 → (-2) ≤ y7_81.toInt ∧ y7_81.toInt ≤ 60 → (-1) ≤ y8_81.toInt ∧ y8_81.toInt ≤ 20 → 0 ≤ y9_81.toInt ∧ y9_81.toInt ≤ 61 → sgI loM hiM fp_81 → sgK WkX12_once f fp_81 → va_P D vwCl (sgw 26 h (eM ca h) fp_81 L Q) H → va_S (sgA 26 h s.heap.size) s.heap H locs → lv_has ls 13 [(0, .ref (h 0)), (2, .int x1), (3, .int x2), (4, .int y4_81), (5, .int y5_81), (6, .int y6_81), (7, .int y7_81), (8, .int y8_81), (9, .int y9_81)] → W p l e ({ frames := 46, cells := 0, slots := 0, locals := 1056 }) s m ([.ref (h 0), .int x0, .int x1, .int x2] : List Value).toArray below meth cd H locs 0 0 Qz (F0 m 81 ls []) := by
        intro n_81
        induction n_81 with
        | zero => intro y4_81 y5_81 y6_81 y7_81 y8_81 y9_81 fp_81 H locs ls hs hm_81 hm_71 hy0_81 hy1_81 hy2_81 hy3_81 hy4_81 hy5_81 hy6_81 hy7_81 hI hF hP hS hl; exact absurd hm_81 (by omega)
        | succ n_81 ih_81 =>
          have blk_245 : ∀ (y4_245 : Int32) (y5_245 : Int32) (y6_245 : Int32) (y7_245 : Int32) (y8_245 : Int32) (y9_245 : Int32) (fp_245 : sg_F) (H : Heap) (locs : List Loc) (ls : Array Slot), sp = sX12_once_b245 (sX12_once_l71 x0 x1 x2 n_71) (sX12_once_l81 (sX12_once_l71 x0 x1 x2 n_71) x0 x1 x2 n_81) x0 x1 x2 y4_245 y5_245 y6_245 y7_245 y8_245 y9_245 fp_245 L → 21 - y8_245.toInt < ((n_71 + 1 : Nat) : Int) → 61 - y9_245.toInt < ((n_81 + 1 : Nat) : Int) → 0 ≤ x0.toInt ∧ x0.toInt ≤ 5 → 0 ≤ x1.toInt ∧ x1.toInt ≤ 2 → 0 ≤ x2.toInt ∧ x2.toInt ≤ 2 → 0 ≤ y4_245.toInt ∧ y4_245.toInt ≤ 21 → (-2) ≤ y6_245.toInt ∧ y6_245.toInt ≤ 20 → (-2) ≤ y7_245.toInt ∧ y7_245.toInt ≤ 60 → (-1) ≤ y8_245.toInt ∧ y8_245.toInt ≤ 20 → 0 ≤ y9_245.toInt ∧ y9_245.toInt ≤ 60 → sgI loM hiM fp_245 → sgK WkX12_once f fp_245 → va_P D vwCl (sgw 26 h (eM ca h) fp_245 L Q) H → va_S (sgA 26 h s.heap.size) s.heap H locs → lv_has ls 13 [(0, .ref (h 0)), (2, .int x1), (3, .int x2), (4, .int y4_245), (5, .int y5_245), (6, .int y6_245), (7, .int y7_245), (8, .int y8_245), (9, .int y9_245)] → W p l e ({ frames := 46, cells := 0, slots := 0, locals := 1056 }) s m ([.ref (h 0), .int x0, .int x1, .int x2] : List Value).toArray below meth cd H locs 0 0 Qz (F0 m 245 ls []) := by
            intro y4_245 y5_245 y6_245 y7_245 y8_245 y9_245 fp_245 H locs ls hs hm_71 hm_81 hy0_245 hy1_245 hy2_245 hy3_245 hy4_245 hy5_245 hy6_245 hy7_245 hI hF hP hS hl
            obtain ⟨v_1, ev_1⟩ : ∃ z : Int32, z = y9_245 + 1 := ⟨_, rfl⟩
            have q_2 : v_1.toInt = y9_245.toInt + 1 := by rw [ev_1]; exact (bn_addc y9_245 1 (by decide) (by omega) (by omega))
            refine lv_iinc (v := v_1) (lv' := [(9, .int v_1), (0, .ref (h 0)), (2, .int x1), (3, .int x2), (4, .int y4_245), (5, .int y5_245), (6, .int y6_245), (7, .int y7_245), (8, .int y8_245)]) hx hb dX12_once_245 hl (k := 8) rfl (by rw [ev_1]; rfl) (by decide) rfl (fun ls hl => ?_)
            refine lv_goto (tgt := 81) hx hb dX12_once_248 (by decide) ?_
            exact ih_81 y4_245 y5_245 y6_245 y7_245 y8_245 v_1 fp_245 _ _ _ (hs.trans ((spl_e ev_1 rfl))) (by omega) hm_71 hy0_245 hy1_245 hy2_245 hy3_245 hy4_245 hy5_245 hy6_245 ⟨by omega, by omega⟩ hI hF hP hS (lv_sub hl [1, 2, 3, 4, 5, 6, 7, 8, 0] rfl)
          have blk_213 : ∀ (y11_213 : Int32) (y4_213 : Int32) (y8_213 : Int32) (y9_213 : Int32) (fp_213 : sg_F) (H : Heap) (locs : List Loc) (ls : Array Slot), sp = sX12_once_b213 (sX12_once_l71 x0 x1 x2 n_71) (sX12_once_l81 (sX12_once_l71 x0 x1 x2 n_71) x0 x1 x2 n_81) x0 x1 x2 y11_213 y4_213 y8_213 y9_213 fp_213 L → 21 - y8_213.toInt < ((n_71 + 1 : Nat) : Int) → 61 - y9_213.toInt < ((n_81 + 1 : Nat) : Int) → 0 ≤ x0.toInt ∧ x0.toInt ≤ 5 → 0 ≤ x1.toInt ∧ x1.toInt ≤ 2 → 0 ≤ x2.toInt ∧ x2.toInt ≤ 2 → 0 ≤ y4_213.toInt ∧ y4_213.toInt ≤ 21 → (-1) ≤ y8_213.toInt ∧ y8_213.toInt ≤ 20 → 0 ≤ y9_213.toInt ∧ y9_213.toInt ≤ 60 → sgI loM hiM fp_213 → sgK WkX12_once f fp_213 → va_P D vwCl (sgw 26 h (eM ca h) fp_213 L Q) H → va_S (sgA 26 h s.heap.size) s.heap H locs → lv_has ls 13 [(0, .ref (h 0)), (2, .int x1), (3, .int x2), (4, .int y4_213), (8, .int y8_213), (9, .int y9_213), (11, .int y11_213)] → W p l e ({ frames := 46, cells := 0, slots := 0, locals := 1056 }) s m ([.ref (h 0), .int x0, .int x1, .int x2] : List Value).toArray below meth cd H locs 0 0 Qz (F0 m 213 ls []) := by
            intro y11_213 y4_213 y8_213 y9_213 fp_213 H locs ls hs hm_71 hm_81 hy0_213 hy1_213 hy2_213 hy3_213 hy4_213 hy5_213 hI hF hP hS hl
            refine lv_iload hx hb dX12_once_213 (lv_at hl 6 rfl) ?_
            refine lv_istore (lv' := [(5, .int y11_213), (0, .ref (h 0)), (2, .int x1), (3, .int x2), (4, .int y4_213), (8, .int y8_213), (9, .int y9_213), (11, .int y11_213)]) hx hb dX12_once_215 hl (by decide) rfl (fun ls hl => ?_)
            refine lv_iload hx hb dX12_once_217 (lv_at hl 5 rfl) ?_
            refine lv_if_ge (tgt := 227) hx hb dX12_once_219 (by decide) (fun c => ?_) (fun c => ?_)
            · skip
              have c_3 : 0 ≤ y8_213.toInt := (by first | exact (cm_le0 ti_0 c) | (have z := bn_le c; have k1 : (0 : Int32).toInt = 0 := ti_0; omega))
              refine lv_iload hx hb dX12_once_227 (lv_at hl 5 rfl) ?_
              refine lv_istore (lv' := [(6, .int y8_213), (5, .int y11_213), (0, .ref (h 0)), (2, .int x1), (3, .int x2), (4, .int y4_213), (8, .int y8_213), (9, .int y9_213), (11, .int y11_213)]) hx hb dX12_once_229 hl (by decide) rfl (fun ls hl => ?_)
              refine lv_iload hx hb dX12_once_231 (lv_at hl 6 rfl) ?_
              refine lv_if_ge (tgt := 241) hx hb dX12_once_233 (by decide) (fun c => ?_) (fun c => ?_)
              · skip
                have c_5 : 0 ≤ y8_213.toInt := (by first | exact (cm_le0 ti_0 c) | (have z := bn_le c; have k1 : (0 : Int32).toInt = 0 := ti_0; omega))
                refine lv_iload hx hb dX12_once_241 (lv_at hl 7 rfl) ?_
                refine lv_istore (lv' := [(7, .int y9_213), (6, .int y8_213), (5, .int y11_213), (0, .ref (h 0)), (2, .int x1), (3, .int x2), (4, .int y4_213), (8, .int y8_213), (9, .int y9_213), (11, .int y11_213)]) hx hb dX12_once_243 hl (by decide) rfl (fun ls hl => ?_)
                exact blk_245 y4_213 y11_213 y8_213 y9_213 y8_213 y9_213 fp_213 _ _ _ (hs.trans (((if_neg (Int.not_lt.mpr c_3)).trans rfl))) hm_71 hm_81 hy0_213 hy1_213 hy2_213 hy3_213 ⟨by omega, by omega⟩ ⟨by omega, by omega⟩ hy4_213 hy5_213 hI hF hP hS (lv_sub hl [3, 4, 5, 6, 2, 1, 0, 7, 8] rfl)
              · skip
                exfalso; have c_6 : y8_213.toInt < 0 := (by first | exact (cm_nle0 ti_0 c) | (have z := bn_nle c; have k1 : (0 : Int32).toInt = 0 := ti_0; omega)); omega
            · skip
              have c_4 : y8_213.toInt < 0 := (by first | exact (cm_nle0 ti_0 c) | (have z := bn_nle c; have k1 : (0 : Int32).toInt = 0 := ti_0; omega))
              refine lv_bipush (v := (-2)) hx hb dX12_once_222 bp_m2 ?_
              refine lv_goto (tgt := 229) hx hb dX12_once_224 (by decide) ?_
              refine lv_istore (lv' := [(6, .int (-2)), (5, .int y11_213), (0, .ref (h 0)), (2, .int x1), (3, .int x2), (4, .int y4_213), (8, .int y8_213), (9, .int y9_213), (11, .int y11_213)]) hx hb dX12_once_229 hl (by decide) rfl (fun ls hl => ?_)
              refine lv_iload hx hb dX12_once_231 (lv_at hl 6 rfl) ?_
              refine lv_if_ge (tgt := 241) hx hb dX12_once_233 (by decide) (fun c => ?_) (fun c => ?_)
              · skip
                exfalso; have c_7 : 0 ≤ y8_213.toInt := (by first | exact (cm_le0 ti_0 c) | (have z := bn_le c; have k1 : (0 : Int32).toInt = 0 := ti_0; omega)); omega
              · skip
                have c_8 : y8_213.toInt < 0 := (by first | exact (cm_nle0 ti_0 c) | (have z := bn_nle c; have k1 : (0 : Int32).toInt = 0 := ti_0; omega))
                refine lv_bipush (v := (-2)) hx hb dX12_once_236 bp_m2 ?_
                refine lv_goto (tgt := 243) hx hb dX12_once_238 (by decide) ?_
                refine lv_istore (lv' := [(7, .int (-2)), (6, .int (-2)), (5, .int y11_213), (0, .ref (h 0)), (2, .int x1), (3, .int x2), (4, .int y4_213), (8, .int y8_213), (9, .int y9_213), (11, .int y11_213)]) hx hb dX12_once_243 hl (by decide) rfl (fun ls hl => ?_)
                exact blk_245 y4_213 y11_213 (-2) (-2) y8_213 y9_213 fp_213 _ _ _ (hs.trans (((if_pos c_4).trans rfl))) (by have kc2 : ((-2) : Int32).toInt = (-2) := ti_m2; have kc3 : ((-2) : Int32).toInt = (-2) := ti_m2; omega) (by have kc2 : ((-2) : Int32).toInt = (-2) := ti_m2; have kc3 : ((-2) : Int32).toInt = (-2) := ti_m2; omega) hy0_213 hy1_213 hy2_213 hy3_213 (by decide) (by decide) hy4_213 hy5_213 hI hF hP hS (lv_sub hl [3, 4, 5, 6, 2, 1, 0, 7, 8] rfl)
          have loop_111 : ∀ (n_111 : Nat) (y10_111 : Int32) (y11_111 : Int32) (y12_111 : Int32) (y4_111 : Int32) (y5_111 : Int32) (y6_111 : Int32) (y7_111 : Int32) (y8_111 : Int32) (y9_111 : Int32) (fp_111 : sg_F) (H : Heap) (locs : List Loc) (ls : Array Slot), sp = sX12_once_l111 (sX12_once_l71 x0 x1 x2 n_71) (sX12_once_l81 (sX12_once_l71 x0 x1 x2 n_71) x0 x1 x2 n_81) x0 x1 x2 n_111 y10_111 y11_111 y12_111 y4_111 y5_111 y6_111 y7_111 y8_111 y9_111 fp_111 L → 21 - y12_111.toInt < (n_111 : Int) → 21 - y8_111.toInt < ((n_71 + 1 : Nat) : Int) → 61 - y9_111.toInt < ((n_81 + 1 : Nat) : Int) → 0 ≤ x0.toInt ∧ x0.toInt ≤ 5 → 0 ≤ x1.toInt ∧ x1.toInt ≤ 2 → 0 ≤ x2.toInt ∧ x2.toInt ≤ 2 → 0 ≤ y10_111.toInt ∧ y10_111.toInt ≤ 60 → 0 ≤ y12_111.toInt ∧ y12_111.toInt ≤ 21 → 0 ≤ y4_111.toInt ∧ y4_111.toInt ≤ 21 → (-2) ≤ y6_111.toInt ∧ y6_111.toInt ≤ 20 → (-2) ≤ y7_111.toInt ∧ y7_111.toInt ≤ 60 → (-1) ≤ y8_111.toInt ∧ y8_111.toInt ≤ 20 → 0 ≤ y9_111.toInt ∧ y9_111.toInt ≤ 60 → sgI loM hiM fp_111 → sgK WkX12_once f fp_111 → va_P D vwCl (sgw 26 h (eM ca h) fp_111 L Q) H → va_S (sgA 26 h s.heap.size) s.heap H locs → lv_has ls 13 [(0, .ref (h 0)), (2, .int x1), (3, .int x2), (4, .int y4_111), (5, .int y5_111), (6, .int y6_111), (7, .int y7_111), (8, .int y8_111), (9, .int y9_111), (10, .int y10_111), (11, .int y11_111), (12, .int y12_111)] → W p l e ({ frames := 46, cells := 0, slots := 0, locals := 1056 }) s m ([.ref (h 0), .int x0, .int x1, .int x2] : List Value).toArray below meth cd H locs 0 0 Qz (F0 m 111 ls []) := by
            intro n_111
            induction n_111 with
            | zero => intro y10_111 y11_111 y12_111 y4_111 y5_111 y6_111 y7_111 y8_111 y9_111 fp_111 H locs ls hs hm_111 hm_71 hm_81 hy0_111 hy1_111 hy2_111 hy3_111 hy4_111 hy5_111 hy6_111 hy7_111 hy8_111 hy9_111 hI hF hP hS hl; exact absurd hm_111 (by omega)
            | succ n_111 ih_111 =>
              intro y10_111 y11_111 y12_111 y4_111 y5_111 y6_111 y7_111 y8_111 y9_111 fp_111 H locs ls hs hm_111 hm_71 hm_81 hy0_111 hy1_111 hy2_111 hy3_111 hy4_111 hy5_111 hy6_111 hy7_111 hy8_111 hy9_111 hI hF hP hS hl
              have hs : sp = sX12_once_h111 (sX12_once_l71 x0 x1 x2 n_71) (sX12_once_l81 (sX12_once_l71 x0 x1 x2 n_71) x0 x1 x2 n_81) x0 x1 x2 (sX12_once_l111 (sX12_once_l71 x0 x1 x2 n_71) (sX12_once_l81 (sX12_once_l71 x0 x1 x2 n_71) x0 x1 x2 n_81) x0 x1 x2 n_111) y10_111 y11_111 y12_111 y4_111 y5_111 y6_111 y7_111 y8_111 y9_111 fp_111 L := hs
              refine lv_iload hx hb dX12_once_111 (lv_at hl 11 rfl) ?_
              refine lv_iload hx hb dX12_once_113 (lv_at hl 3 rfl) ?_
              refine lv_icmp_ge (tgt := 201) hx hb dX12_once_115 (by decide) (fun c => ?_) (fun c => ?_)
              · skip
                have c_9 : y4_111.toInt ≤ y12_111.toInt := (by first | exact (bn_le c) | (have z := bn_le c; omega))
                replace hs := hs.trans ((if_neg (Int.not_lt.mpr c_9)).trans rfl)
                refine lv_iload hx hb dX12_once_201 (lv_at hl 7 rfl) ?_
                refine lv_if_lt (tgt := 213) hx hb dX12_once_203 (by decide) (fun c => ?_) (fun c => ?_)
                · skip
                  have c_11 : y8_111.toInt < 0 := (by first | exact (cm_lt1 ti_0 c) | (have z := bn_lt c; have k1 : (0 : Int32).toInt = 0 := ti_0; omega))
                  exact blk_213 y11_111 y4_111 y8_111 y9_111 fp_111 _ _ _ (hs.trans ((if_pos c_11).trans rfl)) hm_71 hm_81 hy0_111 hy1_111 hy2_111 hy5_111 hy8_111 hy9_111 hI hF hP hS (lv_sub hl [0, 1, 2, 3, 7, 8, 10] rfl)
                · skip
                  have c_12 : 0 ≤ y8_111.toInt := (by first | exact (cm_nlt1 ti_0 c) | (have z := bn_nlt c; have k1 : (0 : Int32).toInt = 0 := ti_0; omega))
                  replace hs := hs.trans ((if_neg (Int.not_lt.mpr c_12)).trans rfl)
                  refine lv_iload hx hb dX12_once_206 (lv_at hl 10 rfl) ?_
                  refine lv_iload hx hb dX12_once_208 (lv_at hl 4 rfl) ?_
                  refine lv_icmp_ge (tgt := 245) hx hb dX12_once_210 (by decide) (fun c => ?_) (fun c => ?_)
                  · skip
                    have c_13 : y5_111.toInt ≤ y11_111.toInt := (by first | exact (bn_le c) | (have z := bn_le c; omega))
                    exact blk_245 y4_111 y5_111 y6_111 y7_111 y8_111 y9_111 fp_111 _ _ _ (hs.trans ((if_neg (Int.not_lt.mpr c_13)).trans rfl)) hm_71 hm_81 hy0_111 hy1_111 hy2_111 hy5_111 hy6_111 hy7_111 hy8_111 hy9_111 hI hF hP hS (lv_sub hl [0, 1, 2, 3, 4, 5, 6, 7, 8] rfl)
                  · skip
                    have c_14 : y11_111.toInt < y5_111.toInt := (by first | exact (bn_nle c) | (have z := bn_nle c; omega))
                    exact blk_213 y11_111 y4_111 y8_111 y9_111 fp_111 _ _ _ (hs.trans ((if_pos c_14).trans rfl)) hm_71 hm_81 hy0_111 hy1_111 hy2_111 hy5_111 hy8_111 hy9_111 hI hF hP hS (lv_sub hl [0, 1, 2, 3, 7, 8, 10] rfl)
              · skip
                have c_10 : y12_111.toInt < y4_111.toInt := (by first | exact (bn_nle c) | (have z := bn_nle c; omega))
                replace hs := hs.trans ((if_pos c_10).trans rfl)
                refine lv_iload hx hb dX12_once_118 (lv_at hl 10 rfl) ?_
                refine lv_iload hx hb dX12_once_120 (lv_at hl 11 rfl) ?_
                refine lv_iload hx hb dX12_once_122 (lv_at hl 7 rfl) ?_
                refine lv_icmp_ne (tgt := 148) hx hb dX12_once_124 (by decide) (fun c => ?_) (fun c => ?_)
                · skip
                  have c_15 : y12_111.toInt ≠ y8_111.toInt := (by first | exact (bn_ne c) | (have z := bn_ne c; omega))
                  replace hs := hs.trans ((if_neg c_15).trans rfl)
                  refine lv_iconst (v := 0) hx hb dX12_once_148 ic_0 ?_
                  refine lv_iadd hx hb dX12_once_149 ?_
                  refine W.eq (g2 := F0 m 150 ls [.int y11_111]) (by rw [Int32.add_zero]) ?_
                  refine lv_istore (lv' := [(11, .int y11_111), (0, .ref (h 0)), (2, .int x1), (3, .int x2), (4, .int y4_111), (5, .int y5_111), (6, .int y6_111), (7, .int y7_111), (8, .int y8_111), (9, .int y9_111), (10, .int y10_111), (12, .int y12_111)]) hx hb dX12_once_150 hl (by decide) rfl (fun ls hl => ?_)
                  refine lv_iload hx hb dX12_once_152 (lv_at hl 11 rfl) ?_
                  refine lv_iload hx hb dX12_once_154 (lv_at hl 8 rfl) ?_
                  refine lv_icmp_ne (tgt := 164) hx hb dX12_once_156 (by decide) (fun c => ?_) (fun c => ?_)
                  · skip
                    have c_17 : y12_111.toInt ≠ y8_111.toInt := (by first | exact (bn_ne c) | (have z := bn_ne c; omega))
                    refine lv_iload hx hb dX12_once_164 (lv_at hl 10 rfl) ?_
                    refine lv_istore (lv' := [(10, .int y10_111), (11, .int y11_111), (0, .ref (h 0)), (2, .int x1), (3, .int x2), (4, .int y4_111), (5, .int y5_111), (6, .int y6_111), (7, .int y7_111), (8, .int y8_111), (9, .int y9_111), (12, .int y12_111)]) hx hb dX12_once_166 hl (by decide) rfl (fun ls hl => ?_)
                    refine lv_iload hx hb dX12_once_168 (lv_at hl 1 rfl) ?_
                    refine lv_aload_n hx hb dX12_once_170 rfl (lv_at hl 2 rfl) ?_
                    refine sl_gM_0_18_12 hx hb hts hown hK hP dX12_once_171 ?_
                    refine lv_bipush (v := 61) hx hb dX12_once_174 bp_61 ?_
                    refine lv_iload hx hb dX12_once_176 (lv_at hl 11 rfl) ?_
                    refine lv_imul hx hb dX12_once_178 ?_
                    refine lv_topi (fun v_19 ev_19 => ?_)
                    have q_20 : v_19.toInt = 61 * y12_111.toInt := by rw [ev_19]; exact bn_mulJ (by decide) (by omega) (by omega)
                    refine lv_iload hx hb dX12_once_179 (lv_at hl 0 rfl) ?_
                    refine lv_iadd hx hb dX12_once_181 ?_
                    refine lv_topi (fun v_21 ev_21 => ?_)
                    have q_22 : v_21.toInt = v_19.toInt + y10_111.toInt := by rw [ev_21]; first | exact bn_addI (by omega) (by omega) | exact (bn_addI (by omega) (by omega)).trans (by omega)
                    refine sg_iald hx hb hK hP 9 (by decide) 0 rfl rfl (i := v_21) (vp_in_iff.mpr ⟨by omega, by omega⟩) dX12_once_182 ?_
                    refine lv_topi (fun v_23 ev_23 => ?_)
                    refine lv_iadd hx hb dX12_once_183 ?_
                    refine lv_topi (fun v_24 ev_24 => ?_)
                    refine lv_istore (lv' := [(11, .int v_24), (10, .int y10_111), (0, .ref (h 0)), (2, .int x1), (3, .int x2), (4, .int y4_111), (5, .int y5_111), (6, .int y6_111), (7, .int y7_111), (8, .int y8_111), (9, .int y9_111), (12, .int y12_111)]) hx hb dX12_once_184 hl (by decide) rfl (fun ls hl => ?_)
                    refine lv_aload_n hx hb dX12_once_186 rfl (lv_at hl 2 rfl) ?_
                    refine lv_iload_n hx hb dX12_once_187 rfl (lv_at hl 3 rfl) ?_
                    refine lv_iload hx hb dX12_once_188 (lv_at hl 1 rfl) ?_
                    refine sg_calli (va_runV (As := [.int x1, .int y10_111]) (rest := []) ⟨hx, hb, hml, hown, hts⟩ (kX12_slipped l D ca za h hh fp_111 L Q hI x1 y10_111 hy1_111 ⟨by omega, by omega⟩ H.size) (sl_c12_slipped_0_0_0_0_12 hts ⟨Nat.le_of_ble_eq_true rfl, Nat.le_of_ble_eq_true rfl⟩) (sl_vM_0 hA hK hP hS hZ) rfl rfl hl.1 rfl (lv_room (Nat.le_of_ble_eq_true rfl)) dX12_once_190 ⟨Nat.le_refl _, Nat.le_refl _⟩) hA hS (fun r_28 f_25 L_26 Q_27 H locs hq hP hS => ?_)
                    obtain ⟨⟨ef9, eL9, eQ9⟩, hq, u_29⟩ := hq
                    rw [ef9, eL9, eQ9] at hP; clear ef9 eL9 eQ9
                    refine lv_istore (lv' := [(10, .int r_28), (11, .int v_24), (0, .ref (h 0)), (2, .int x1), (3, .int x2), (4, .int y4_111), (5, .int y5_111), (6, .int y6_111), (7, .int y7_111), (8, .int y8_111), (9, .int y9_111), (12, .int y12_111)]) hx hb dX12_once_193 hl (by decide) rfl (fun ls hl => ?_)
                    obtain ⟨v_30, ev_30⟩ : ∃ z : Int32, z = y12_111 + 1 := ⟨_, rfl⟩
                    have q_31 : v_30.toInt = y12_111.toInt + 1 := by rw [ev_30]; exact (bn_addc y12_111 1 (by decide) (by omega) (by omega))
                    refine lv_iinc (v := v_30) (lv' := [(12, .int v_30), (10, .int r_28), (11, .int v_24), (0, .ref (h 0)), (2, .int x1), (3, .int x2), (4, .int y4_111), (5, .int y5_111), (6, .int y6_111), (7, .int y7_111), (8, .int y8_111), (9, .int y9_111)]) hx hb dX12_once_195 hl (k := 11) rfl (by rw [ev_30]; rfl) (by decide) rfl (fun ls hl => ?_)
                    refine lv_goto (tgt := 111) hx hb dX12_once_198 (by decide) ?_
                    exact ih_111 r_28 v_24 v_30 y4_111 y5_111 y6_111 y7_111 y8_111 y9_111 fp_111 _ _ _ (hs.trans ((if_neg c_17).trans (spl_e ev_19 (spl_e ev_21 (spl_e ev_23 (spl_e ev_24 (spl_e u_29 (spl_e ev_30 rfl)))))))) (by omega) hm_71 hm_81 hy0_111 hy1_111 hy2_111 ⟨by omega, by omega⟩ ⟨by omega, by omega⟩ hy5_111 hy6_111 hy7_111 hy8_111 hy9_111 hI hF hP hS (lv_sub hl [3, 4, 5, 6, 7, 8, 9, 10, 11, 1, 2, 0] rfl)
                  · skip
                    have c_18 : y12_111.toInt = y8_111.toInt := (by first | exact (Int32.toInt_inj.mpr c) | (have z := Int32.toInt_inj.mpr c; omega))
                    refine lv_iload hx hb dX12_once_159 (lv_at hl 9 rfl) ?_
                    refine lv_goto (tgt := 166) hx hb dX12_once_161 (by decide) ?_
                    refine lv_istore (lv' := [(10, .int y9_111), (11, .int y11_111), (0, .ref (h 0)), (2, .int x1), (3, .int x2), (4, .int y4_111), (5, .int y5_111), (6, .int y6_111), (7, .int y7_111), (8, .int y8_111), (9, .int y9_111), (12, .int y12_111)]) hx hb dX12_once_166 hl (by decide) rfl (fun ls hl => ?_)
                    refine lv_iload hx hb dX12_once_168 (lv_at hl 1 rfl) ?_
                    refine lv_aload_n hx hb dX12_once_170 rfl (lv_at hl 2 rfl) ?_
                    refine sl_gM_0_18_12 hx hb hts hown hK hP dX12_once_171 ?_
                    refine lv_bipush (v := 61) hx hb dX12_once_174 bp_61 ?_
                    refine lv_iload hx hb dX12_once_176 (lv_at hl 11 rfl) ?_
                    refine lv_imul hx hb dX12_once_178 ?_
                    refine lv_topi (fun v_32 ev_32 => ?_)
                    have q_33 : v_32.toInt = 61 * y12_111.toInt := by rw [ev_32]; exact bn_mulJ (by decide) (by omega) (by omega)
                    refine lv_iload hx hb dX12_once_179 (lv_at hl 0 rfl) ?_
                    refine lv_iadd hx hb dX12_once_181 ?_
                    refine lv_topi (fun v_34 ev_34 => ?_)
                    have q_35 : v_34.toInt = v_32.toInt + y9_111.toInt := by rw [ev_34]; first | exact bn_addI (by omega) (by omega) | exact (bn_addI (by omega) (by omega)).trans (by omega)
                    refine sg_iald hx hb hK hP 9 (by decide) 0 rfl rfl (i := v_34) (vp_in_iff.mpr ⟨by omega, by omega⟩) dX12_once_182 ?_
                    refine lv_topi (fun v_36 ev_36 => ?_)
                    refine lv_iadd hx hb dX12_once_183 ?_
                    refine lv_topi (fun v_37 ev_37 => ?_)
                    refine lv_istore (lv' := [(11, .int v_37), (10, .int y9_111), (0, .ref (h 0)), (2, .int x1), (3, .int x2), (4, .int y4_111), (5, .int y5_111), (6, .int y6_111), (7, .int y7_111), (8, .int y8_111), (9, .int y9_111), (12, .int y12_111)]) hx hb dX12_once_184 hl (by decide) rfl (fun ls hl => ?_)
                    refine lv_aload_n hx hb dX12_once_186 rfl (lv_at hl 2 rfl) ?_
                    refine lv_iload_n hx hb dX12_once_187 rfl (lv_at hl 3 rfl) ?_
                    refine lv_iload hx hb dX12_once_188 (lv_at hl 1 rfl) ?_
                    refine sg_calli (va_runV (As := [.int x1, .int y9_111]) (rest := []) ⟨hx, hb, hml, hown, hts⟩ (kX12_slipped l D ca za h hh fp_111 L Q hI x1 y9_111 hy1_111 ⟨by omega, by omega⟩ H.size) (sl_c12_slipped_0_0_0_0_12 hts ⟨Nat.le_of_ble_eq_true rfl, Nat.le_of_ble_eq_true rfl⟩) (sl_vM_0 hA hK hP hS hZ) rfl rfl hl.1 rfl (lv_room (Nat.le_of_ble_eq_true rfl)) dX12_once_190 ⟨Nat.le_refl _, Nat.le_refl _⟩) hA hS (fun r_41 f_38 L_39 Q_40 H locs hq hP hS => ?_)
                    obtain ⟨⟨ef9, eL9, eQ9⟩, hq, u_42⟩ := hq
                    rw [ef9, eL9, eQ9] at hP; clear ef9 eL9 eQ9
                    refine lv_istore (lv' := [(10, .int r_41), (11, .int v_37), (0, .ref (h 0)), (2, .int x1), (3, .int x2), (4, .int y4_111), (5, .int y5_111), (6, .int y6_111), (7, .int y7_111), (8, .int y8_111), (9, .int y9_111), (12, .int y12_111)]) hx hb dX12_once_193 hl (by decide) rfl (fun ls hl => ?_)
                    obtain ⟨v_43, ev_43⟩ : ∃ z : Int32, z = y12_111 + 1 := ⟨_, rfl⟩
                    have q_44 : v_43.toInt = y12_111.toInt + 1 := by rw [ev_43]; exact (bn_addc y12_111 1 (by decide) (by omega) (by omega))
                    refine lv_iinc (v := v_43) (lv' := [(12, .int v_43), (10, .int r_41), (11, .int v_37), (0, .ref (h 0)), (2, .int x1), (3, .int x2), (4, .int y4_111), (5, .int y5_111), (6, .int y6_111), (7, .int y7_111), (8, .int y8_111), (9, .int y9_111)]) hx hb dX12_once_195 hl (k := 11) rfl (by rw [ev_43]; rfl) (by decide) rfl (fun ls hl => ?_)
                    refine lv_goto (tgt := 111) hx hb dX12_once_198 (by decide) ?_
                    exact ih_111 r_41 v_37 v_43 y4_111 y5_111 y6_111 y7_111 y8_111 y9_111 fp_111 _ _ _ (hs.trans ((if_pos c_18).trans (spl_e ev_32 (spl_e ev_34 (spl_e ev_36 (spl_e ev_37 (spl_e u_42 (spl_e ev_43 rfl)))))))) (by omega) hm_71 hm_81 hy0_111 hy1_111 hy2_111 ⟨by omega, by omega⟩ ⟨by omega, by omega⟩ hy5_111 hy6_111 hy7_111 hy8_111 hy9_111 hI hF hP hS (lv_sub hl [3, 4, 5, 6, 7, 8, 9, 10, 11, 1, 2, 0] rfl)
                · skip
                  have c_16 : y12_111.toInt = y8_111.toInt := (by first | exact (Int32.toInt_inj.mpr c) | (have z := Int32.toInt_inj.mpr c; omega))
                  refine lv_iload hx hb dX12_once_127 (lv_at hl 8 rfl) ?_
                  refine lv_iload hx hb dX12_once_129 (lv_at hl 9 rfl) ?_
                  refine lv_isub hx hb dX12_once_131 ?_
                  refine lv_topi (fun v_45 ev_45 => ?_)
                  have q_46 : v_45.toInt = y9_111.toInt - y10_111.toInt := by rw [ev_45]; first | exact bn_subI (by omega) (by omega) | exact (bn_subI (by omega) (by omega)).trans (by omega)
                  refine sg_calli (va_runS (As := [.int v_45]) (rest := [.int y11_111]) ⟨hx, hb, hml, hown, hts⟩ (kX12_sizeOf l D ca za h hh fp_111 L Q hI v_45 ⟨by omega, by omega⟩ H.size) (va_cwS 1 hts (gw_S (fun _ h => List.mem_cons_of_mem _ h) mw_682 mw_683 mw_619 mw_681) rfl rfl rfl hd_yX12_sizeOf.2 ⟨Nat.le_of_ble_eq_true rfl, Nat.le_of_ble_eq_true rfl⟩) (sg_preS hA hK hP hS hZ) rfl rfl hl.1 rfl (lv_room (Nat.le_of_ble_eq_true rfl)) dX12_once_132 ⟨Nat.le_refl _, Nat.le_refl _⟩) hA hS (fun r_50 f_47 L_48 Q_49 H locs hq hP hS => ?_)
                  obtain ⟨⟨ef9, eL9, eQ9⟩, hq, u_51⟩ := hq
                  rw [ef9, eL9, eQ9] at hP; clear ef9 eL9 eQ9
                  refine lv_aload_n hx hb dX12_once_135 rfl (lv_at hl 0 rfl) ?_
                  refine sl_gM_0_0_12 hx hb hts hown hK hP dX12_once_136 ?_
                  refine lv_bipush (v := 67) hx hb dX12_once_139 bp_67 ?_
                  refine lv_iload_n hx hb dX12_once_141 rfl (lv_at hl 1 rfl) ?_
                  refine lv_iadd hx hb dX12_once_142 ?_
                  refine lv_topi (fun v_52 ev_52 => ?_)
                  have q_53 : v_52.toInt = 67 + x1.toInt := by rw [ev_52]; have k0 : (67 : Int32).toInt = 67 := ti_67; exact (bn_addI (by omega) (by omega)).trans (by omega)
                  refine sg_iald hx hb hK hP 1 (by decide) 0 rfl rfl (i := v_52) (vp_in_iff.mpr ⟨by omega, by omega⟩) dX12_once_143 ?_
                  refine lv_topi (fun v_54 ev_54 => ?_)
                  have q_55 : v_52.toInt < 64 → v_54.toInt ≤ 60 := by rw [ev_54]; have z1 := segM1_r hI (j := Int32.toNatClampNeg v_52); have z2 := bn_clI (x := v_52) (by omega); intro z3; exact (z1.2.2 (by omega)).2
                  have q_56 : 0 ≤ v_54.toInt ∧ v_54.toInt ≤ 99 := by rw [ev_54]; have z1 := segM1_r hI (j := Int32.toNatClampNeg v_52); have z2 := bn_clI (x := v_52) (by omega); omega
                  refine lv_imul hx hb dX12_once_144 ?_
                  refine lv_topi (fun v_57 ev_57 => ?_)
                  refine lv_goto (tgt := 149) hx hb dX12_once_145 (by decide) ?_
                  refine lv_iadd hx hb dX12_once_149 ?_
                  refine lv_topi (fun v_58 ev_58 => ?_)
                  replace hs := hs.trans ((if_pos c_16).trans (spl_e ev_45 (spl_e u_51 (spl_e ev_52 (spl_e ev_54 (spl_e ev_57 (spl_e ev_58 rfl)))))))
                  refine lv_istore (lv' := [(11, .int v_58), (0, .ref (h 0)), (2, .int x1), (3, .int x2), (4, .int y4_111), (5, .int y5_111), (6, .int y6_111), (7, .int y7_111), (8, .int y8_111), (9, .int y9_111), (10, .int y10_111), (12, .int y12_111)]) hx hb dX12_once_150 hl (by decide) rfl (fun ls hl => ?_)
                  refine lv_iload hx hb dX12_once_152 (lv_at hl 11 rfl) ?_
                  refine lv_iload hx hb dX12_once_154 (lv_at hl 8 rfl) ?_
                  refine lv_icmp_ne (tgt := 164) hx hb dX12_once_156 (by decide) (fun c => ?_) (fun c => ?_)
                  · skip
                    have c_59 : y12_111.toInt ≠ y8_111.toInt := (by first | exact (bn_ne c) | (have z := bn_ne c; omega))
                    refine lv_iload hx hb dX12_once_164 (lv_at hl 10 rfl) ?_
                    refine lv_istore (lv' := [(10, .int y10_111), (11, .int v_58), (0, .ref (h 0)), (2, .int x1), (3, .int x2), (4, .int y4_111), (5, .int y5_111), (6, .int y6_111), (7, .int y7_111), (8, .int y8_111), (9, .int y9_111), (12, .int y12_111)]) hx hb dX12_once_166 hl (by decide) rfl (fun ls hl => ?_)
                    refine lv_iload hx hb dX12_once_168 (lv_at hl 1 rfl) ?_
                    refine lv_aload_n hx hb dX12_once_170 rfl (lv_at hl 2 rfl) ?_
                    refine sl_gM_0_18_12 hx hb hts hown hK hP dX12_once_171 ?_
                    refine lv_bipush (v := 61) hx hb dX12_once_174 bp_61 ?_
                    refine lv_iload hx hb dX12_once_176 (lv_at hl 11 rfl) ?_
                    refine lv_imul hx hb dX12_once_178 ?_
                    refine lv_topi (fun v_61 ev_61 => ?_)
                    have q_62 : v_61.toInt = 61 * y12_111.toInt := by rw [ev_61]; exact bn_mulJ (by decide) (by omega) (by omega)
                    refine lv_iload hx hb dX12_once_179 (lv_at hl 0 rfl) ?_
                    refine lv_iadd hx hb dX12_once_181 ?_
                    refine lv_topi (fun v_63 ev_63 => ?_)
                    have q_64 : v_63.toInt = v_61.toInt + y10_111.toInt := by rw [ev_63]; first | exact bn_addI (by omega) (by omega) | exact (bn_addI (by omega) (by omega)).trans (by omega)
                    refine sg_iald hx hb hK hP 9 (by decide) 0 rfl rfl (i := v_63) (vp_in_iff.mpr ⟨by omega, by omega⟩) dX12_once_182 ?_
                    refine lv_topi (fun v_65 ev_65 => ?_)
                    refine lv_iadd hx hb dX12_once_183 ?_
                    refine lv_topi (fun v_66 ev_66 => ?_)
                    refine lv_istore (lv' := [(11, .int v_66), (10, .int y10_111), (0, .ref (h 0)), (2, .int x1), (3, .int x2), (4, .int y4_111), (5, .int y5_111), (6, .int y6_111), (7, .int y7_111), (8, .int y8_111), (9, .int y9_111), (12, .int y12_111)]) hx hb dX12_once_184 hl (by decide) rfl (fun ls hl => ?_)
                    refine lv_aload_n hx hb dX12_once_186 rfl (lv_at hl 2 rfl) ?_
                    refine lv_iload_n hx hb dX12_once_187 rfl (lv_at hl 3 rfl) ?_
                    refine lv_iload hx hb dX12_once_188 (lv_at hl 1 rfl) ?_
                    refine sg_calli (va_runV (As := [.int x1, .int y10_111]) (rest := []) ⟨hx, hb, hml, hown, hts⟩ (kX12_slipped l D ca za h hh fp_111 L Q hI x1 y10_111 hy1_111 ⟨by omega, by omega⟩ H.size) (sl_c12_slipped_0_0_0_0_12 hts ⟨Nat.le_of_ble_eq_true rfl, Nat.le_of_ble_eq_true rfl⟩) (sl_vM_0 hA hK hP hS hZ) rfl rfl hl.1 rfl (lv_room (Nat.le_of_ble_eq_true rfl)) dX12_once_190 ⟨Nat.le_refl _, Nat.le_refl _⟩) hA hS (fun r_70 f_67 L_68 Q_69 H locs hq hP hS => ?_)
                    obtain ⟨⟨ef9, eL9, eQ9⟩, hq, u_71⟩ := hq
                    rw [ef9, eL9, eQ9] at hP; clear ef9 eL9 eQ9
                    refine lv_istore (lv' := [(10, .int r_70), (11, .int v_66), (0, .ref (h 0)), (2, .int x1), (3, .int x2), (4, .int y4_111), (5, .int y5_111), (6, .int y6_111), (7, .int y7_111), (8, .int y8_111), (9, .int y9_111), (12, .int y12_111)]) hx hb dX12_once_193 hl (by decide) rfl (fun ls hl => ?_)
                    obtain ⟨v_72, ev_72⟩ : ∃ z : Int32, z = y12_111 + 1 := ⟨_, rfl⟩
                    have q_73 : v_72.toInt = y12_111.toInt + 1 := by rw [ev_72]; exact (bn_addc y12_111 1 (by decide) (by omega) (by omega))
                    refine lv_iinc (v := v_72) (lv' := [(12, .int v_72), (10, .int r_70), (11, .int v_66), (0, .ref (h 0)), (2, .int x1), (3, .int x2), (4, .int y4_111), (5, .int y5_111), (6, .int y6_111), (7, .int y7_111), (8, .int y8_111), (9, .int y9_111)]) hx hb dX12_once_195 hl (k := 11) rfl (by rw [ev_72]; rfl) (by decide) rfl (fun ls hl => ?_)
                    refine lv_goto (tgt := 111) hx hb dX12_once_198 (by decide) ?_
                    exact ih_111 r_70 v_66 v_72 y4_111 y5_111 y6_111 y7_111 y8_111 y9_111 fp_111 _ _ _ (hs.trans ((if_neg c_59).trans (spl_e ev_61 (spl_e ev_63 (spl_e ev_65 (spl_e ev_66 (spl_e u_71 (spl_e ev_72 rfl)))))))) (by omega) hm_71 hm_81 hy0_111 hy1_111 hy2_111 ⟨by omega, by omega⟩ ⟨by omega, by omega⟩ hy5_111 hy6_111 hy7_111 hy8_111 hy9_111 hI hF hP hS (lv_sub hl [3, 4, 5, 6, 7, 8, 9, 10, 11, 1, 2, 0] rfl)
                  · skip
                    have c_60 : y12_111.toInt = y8_111.toInt := (by first | exact (Int32.toInt_inj.mpr c) | (have z := Int32.toInt_inj.mpr c; omega))
                    refine lv_iload hx hb dX12_once_159 (lv_at hl 9 rfl) ?_
                    refine lv_goto (tgt := 166) hx hb dX12_once_161 (by decide) ?_
                    refine lv_istore (lv' := [(10, .int y9_111), (11, .int v_58), (0, .ref (h 0)), (2, .int x1), (3, .int x2), (4, .int y4_111), (5, .int y5_111), (6, .int y6_111), (7, .int y7_111), (8, .int y8_111), (9, .int y9_111), (12, .int y12_111)]) hx hb dX12_once_166 hl (by decide) rfl (fun ls hl => ?_)
                    refine lv_iload hx hb dX12_once_168 (lv_at hl 1 rfl) ?_
                    refine lv_aload_n hx hb dX12_once_170 rfl (lv_at hl 2 rfl) ?_
                    refine sl_gM_0_18_12 hx hb hts hown hK hP dX12_once_171 ?_
                    refine lv_bipush (v := 61) hx hb dX12_once_174 bp_61 ?_
                    refine lv_iload hx hb dX12_once_176 (lv_at hl 11 rfl) ?_
                    refine lv_imul hx hb dX12_once_178 ?_
                    refine lv_topi (fun v_74 ev_74 => ?_)
                    have q_75 : v_74.toInt = 61 * y12_111.toInt := by rw [ev_74]; exact bn_mulJ (by decide) (by omega) (by omega)
                    refine lv_iload hx hb dX12_once_179 (lv_at hl 0 rfl) ?_
                    refine lv_iadd hx hb dX12_once_181 ?_
                    refine lv_topi (fun v_76 ev_76 => ?_)
                    have q_77 : v_76.toInt = v_74.toInt + y9_111.toInt := by rw [ev_76]; first | exact bn_addI (by omega) (by omega) | exact (bn_addI (by omega) (by omega)).trans (by omega)
                    refine sg_iald hx hb hK hP 9 (by decide) 0 rfl rfl (i := v_76) (vp_in_iff.mpr ⟨by omega, by omega⟩) dX12_once_182 ?_
                    refine lv_topi (fun v_78 ev_78 => ?_)
                    refine lv_iadd hx hb dX12_once_183 ?_
                    refine lv_topi (fun v_79 ev_79 => ?_)
                    refine lv_istore (lv' := [(11, .int v_79), (10, .int y9_111), (0, .ref (h 0)), (2, .int x1), (3, .int x2), (4, .int y4_111), (5, .int y5_111), (6, .int y6_111), (7, .int y7_111), (8, .int y8_111), (9, .int y9_111), (12, .int y12_111)]) hx hb dX12_once_184 hl (by decide) rfl (fun ls hl => ?_)
                    refine lv_aload_n hx hb dX12_once_186 rfl (lv_at hl 2 rfl) ?_
                    refine lv_iload_n hx hb dX12_once_187 rfl (lv_at hl 3 rfl) ?_
                    refine lv_iload hx hb dX12_once_188 (lv_at hl 1 rfl) ?_
                    refine sg_calli (va_runV (As := [.int x1, .int y9_111]) (rest := []) ⟨hx, hb, hml, hown, hts⟩ (kX12_slipped l D ca za h hh fp_111 L Q hI x1 y9_111 hy1_111 ⟨by omega, by omega⟩ H.size) (sl_c12_slipped_0_0_0_0_12 hts ⟨Nat.le_of_ble_eq_true rfl, Nat.le_of_ble_eq_true rfl⟩) (sl_vM_0 hA hK hP hS hZ) rfl rfl hl.1 rfl (lv_room (Nat.le_of_ble_eq_true rfl)) dX12_once_190 ⟨Nat.le_refl _, Nat.le_refl _⟩) hA hS (fun r_83 f_80 L_81 Q_82 H locs hq hP hS => ?_)
                    obtain ⟨⟨ef9, eL9, eQ9⟩, hq, u_84⟩ := hq
                    rw [ef9, eL9, eQ9] at hP; clear ef9 eL9 eQ9
                    refine lv_istore (lv' := [(10, .int r_83), (11, .int v_79), (0, .ref (h 0)), (2, .int x1), (3, .int x2), (4, .int y4_111), (5, .int y5_111), (6, .int y6_111), (7, .int y7_111), (8, .int y8_111), (9, .int y9_111), (12, .int y12_111)]) hx hb dX12_once_193 hl (by decide) rfl (fun ls hl => ?_)
                    obtain ⟨v_85, ev_85⟩ : ∃ z : Int32, z = y12_111 + 1 := ⟨_, rfl⟩
                    have q_86 : v_85.toInt = y12_111.toInt + 1 := by rw [ev_85]; exact (bn_addc y12_111 1 (by decide) (by omega) (by omega))
                    refine lv_iinc (v := v_85) (lv' := [(12, .int v_85), (10, .int r_83), (11, .int v_79), (0, .ref (h 0)), (2, .int x1), (3, .int x2), (4, .int y4_111), (5, .int y5_111), (6, .int y6_111), (7, .int y7_111), (8, .int y8_111), (9, .int y9_111)]) hx hb dX12_once_195 hl (k := 11) rfl (by rw [ev_85]; rfl) (by decide) rfl (fun ls hl => ?_)
                    refine lv_goto (tgt := 111) hx hb dX12_once_198 (by decide) ?_
                    exact ih_111 r_83 v_79 v_85 y4_111 y5_111 y6_111 y7_111 y8_111 y9_111 fp_111 _ _ _ (hs.trans ((if_pos c_60).trans (spl_e ev_74 (spl_e ev_76 (spl_e ev_78 (spl_e ev_79 (spl_e u_84 (spl_e ev_85 rfl)))))))) (by omega) hm_71 hm_81 hy0_111 hy1_111 hy2_111 ⟨by omega, by omega⟩ ⟨by omega, by omega⟩ hy5_111 hy6_111 hy7_111 hy8_111 hy9_111 hI hF hP hS (lv_sub hl [3, 4, 5, 6, 7, 8, 9, 10, 11, 1, 2, 0] rfl)
          intro y4_81 y5_81 y6_81 y7_81 y8_81 y9_81 fp_81 H locs ls hs hm_81 hm_71 hy0_81 hy1_81 hy2_81 hy3_81 hy4_81 hy5_81 hy6_81 hy7_81 hI hF hP hS hl
          have hs : sp = sX12_once_h81 (sX12_once_l71 x0 x1 x2 n_71) x0 x1 x2 (sX12_once_l81 (sX12_once_l71 x0 x1 x2 n_71) x0 x1 x2 n_81) y4_81 y5_81 y6_81 y7_81 y8_81 y9_81 fp_81 L := hs
          refine lv_iload hx hb dX12_once_81 (lv_at hl 8 rfl) ?_
          refine lv_iload hx hb dX12_once_83 (lv_at hl 7 rfl) ?_
          refine lv_if_ge (tgt := 92) hx hb dX12_once_85 (by decide) (fun c => ?_) (fun c => ?_)
          · skip
            have c_87 : 0 ≤ y8_81.toInt := (by first | exact (cm_le0 ti_0 c) | (have z := bn_le c; have k1 : (0 : Int32).toInt = 0 := ti_0; omega))
            replace hs := hs.trans ((if_neg (Int.not_lt.mpr c_87)).trans rfl)
            refine lv_bipush (v := 61) hx hb dX12_once_92 bp_61 ?_
            refine lv_icmp_ge (tgt := 251) hx hb dX12_once_94 (by decide) (fun c => ?_) (fun c => ?_)
            · skip
              have c_89 : 61 ≤ y9_81.toInt := (by first | exact (cm_le0 ti_61 c) | (have z := bn_le c; have k1 : (61 : Int32).toInt = 61 := ti_61; omega))
              obtain ⟨v_91, ev_91⟩ : ∃ z : Int32, z = y8_81 + 1 := ⟨_, rfl⟩
              have q_92 : v_91.toInt = y8_81.toInt + 1 := by rw [ev_91]; exact (bn_addc y8_81 1 (by decide) (by omega) (by omega))
              refine lv_iinc (v := v_91) (lv' := [(8, .int v_91), (0, .ref (h 0)), (2, .int x1), (3, .int x2), (4, .int y4_81), (5, .int y5_81), (6, .int y6_81), (7, .int y7_81), (9, .int y9_81)]) hx hb dX12_once_251 hl (k := 7) rfl (by rw [ev_91]; rfl) (by decide) rfl (fun ls hl => ?_)
              refine lv_goto (tgt := 71) hx hb dX12_once_254 (by decide) ?_
              exact ih_71 y4_81 y5_81 y6_81 y7_81 v_91 fp_81 _ _ _ (hs.trans ((if_neg (Int.not_lt.mpr c_89)).trans (spl_e ev_91 rfl))) (by omega) hy0_81 hy1_81 hy2_81 hy3_81 hy4_81 hy5_81 ⟨by omega, by omega⟩ hI hF hP hS (lv_sub hl [1, 2, 3, 4, 5, 6, 7, 0] rfl)
            · skip
              have c_90 : y9_81.toInt < 61 := (by first | exact (cm_nle0 ti_61 c) | (have z := bn_nle c; have k1 : (61 : Int32).toInt = 61 := ti_61; omega))
              refine lv_aload_n hx hb dX12_once_97 rfl (lv_at hl 0 rfl) ?_
              refine sl_gM_0_7_12 hx hb hts hown hK hP dX12_once_98 ?_
              refine lv_iload_n hx hb dX12_once_101 rfl (lv_at hl 1 rfl) ?_
              refine sg_iald hx hb hK hP 5 (by decide) 0 rfl rfl (i := x1) (vp_in_iff.mpr ⟨by omega, by omega⟩) dX12_once_102 ?_
              refine lv_topi (fun v_93 ev_93 => ?_)
              have q_94 : 0 ≤ v_93.toInt ∧ v_93.toInt ≤ 60 := by rw [ev_93]; exact hI 5 _
              refine lv_istore (lv' := [(10, .int v_93), (0, .ref (h 0)), (2, .int x1), (3, .int x2), (4, .int y4_81), (5, .int y5_81), (6, .int y6_81), (7, .int y7_81), (8, .int y8_81), (9, .int y9_81)]) hx hb dX12_once_103 hl (by decide) rfl (fun ls hl => ?_)
              refine lv_iconst (v := 0) hx hb dX12_once_105 ic_0 ?_
              refine lv_istore (lv' := [(11, .int 0), (10, .int v_93), (0, .ref (h 0)), (2, .int x1), (3, .int x2), (4, .int y4_81), (5, .int y5_81), (6, .int y6_81), (7, .int y7_81), (8, .int y8_81), (9, .int y9_81)]) hx hb dX12_once_106 hl (by decide) rfl (fun ls hl => ?_)
              refine lv_iconst (v := 0) hx hb dX12_once_108 ic_0 ?_
              refine lv_istore (lv' := [(12, .int 0), (11, .int 0), (10, .int v_93), (0, .ref (h 0)), (2, .int x1), (3, .int x2), (4, .int y4_81), (5, .int y5_81), (6, .int y6_81), (7, .int y7_81), (8, .int y8_81), (9, .int y9_81)]) hx hb dX12_once_109 hl (by decide) rfl (fun ls hl => ?_)
              exact loop_111 22 v_93 0 0 y4_81 y5_81 y6_81 y7_81 y8_81 y9_81 fp_81 _ _ _ (hs.trans ((if_pos c_90).trans (spl_e ev_93 rfl))) (by have kc1 : (0 : Int32).toInt = 0 := ti_0; have kc2 : (0 : Int32).toInt = 0 := ti_0; omega) (by have kc1 : (0 : Int32).toInt = 0 := ti_0; have kc2 : (0 : Int32).toInt = 0 := ti_0; omega) (by have kc1 : (0 : Int32).toInt = 0 := ti_0; have kc2 : (0 : Int32).toInt = 0 := ti_0; omega) hy0_81 hy1_81 hy2_81 q_94 (by decide) hy3_81 hy4_81 hy5_81 hy6_81 ⟨by omega, by omega⟩ hI hF hP hS (lv_sub hl [3, 4, 5, 6, 7, 8, 9, 10, 11, 2, 1, 0] rfl)
          · skip
            have c_88 : y8_81.toInt < 0 := (by first | exact (cm_nle0 ti_0 c) | (have z := bn_nle c; have k1 : (0 : Int32).toInt = 0 := ti_0; omega))
            replace hs := hs.trans ((if_pos c_88).trans rfl)
            refine lv_iconst (v := 1) hx hb dX12_once_88 ic_1 ?_
            refine lv_goto (tgt := 94) hx hb dX12_once_89 (by decide) ?_
            refine lv_icmp_ge (tgt := 251) hx hb dX12_once_94 (by decide) (fun c => ?_) (fun c => ?_)
            · skip
              have c_95 : 1 ≤ y9_81.toInt := (by first | exact (cm_le0 ti_1 c) | (have z := bn_le c; have k1 : (1 : Int32).toInt = 1 := ti_1; omega))
              obtain ⟨v_97, ev_97⟩ : ∃ z : Int32, z = y8_81 + 1 := ⟨_, rfl⟩
              have q_98 : v_97.toInt = y8_81.toInt + 1 := by rw [ev_97]; exact (bn_addc y8_81 1 (by decide) (by omega) (by omega))
              refine lv_iinc (v := v_97) (lv' := [(8, .int v_97), (0, .ref (h 0)), (2, .int x1), (3, .int x2), (4, .int y4_81), (5, .int y5_81), (6, .int y6_81), (7, .int y7_81), (9, .int y9_81)]) hx hb dX12_once_251 hl (k := 7) rfl (by rw [ev_97]; rfl) (by decide) rfl (fun ls hl => ?_)
              refine lv_goto (tgt := 71) hx hb dX12_once_254 (by decide) ?_
              exact ih_71 y4_81 y5_81 y6_81 y7_81 v_97 fp_81 _ _ _ (hs.trans ((if_neg (Int.not_lt.mpr c_95)).trans (spl_e ev_97 rfl))) (by omega) hy0_81 hy1_81 hy2_81 hy3_81 hy4_81 hy5_81 ⟨by omega, by omega⟩ hI hF hP hS (lv_sub hl [1, 2, 3, 4, 5, 6, 7, 0] rfl)
            · skip
              have c_96 : y9_81.toInt < 1 := (by first | exact (cm_nle0 ti_1 c) | (have z := bn_nle c; have k1 : (1 : Int32).toInt = 1 := ti_1; omega))
              refine lv_aload_n hx hb dX12_once_97 rfl (lv_at hl 0 rfl) ?_
              refine sl_gM_0_7_12 hx hb hts hown hK hP dX12_once_98 ?_
              refine lv_iload_n hx hb dX12_once_101 rfl (lv_at hl 1 rfl) ?_
              refine sg_iald hx hb hK hP 5 (by decide) 0 rfl rfl (i := x1) (vp_in_iff.mpr ⟨by omega, by omega⟩) dX12_once_102 ?_
              refine lv_topi (fun v_99 ev_99 => ?_)
              have q_100 : 0 ≤ v_99.toInt ∧ v_99.toInt ≤ 60 := by rw [ev_99]; exact hI 5 _
              refine lv_istore (lv' := [(10, .int v_99), (0, .ref (h 0)), (2, .int x1), (3, .int x2), (4, .int y4_81), (5, .int y5_81), (6, .int y6_81), (7, .int y7_81), (8, .int y8_81), (9, .int y9_81)]) hx hb dX12_once_103 hl (by decide) rfl (fun ls hl => ?_)
              refine lv_iconst (v := 0) hx hb dX12_once_105 ic_0 ?_
              refine lv_istore (lv' := [(11, .int 0), (10, .int v_99), (0, .ref (h 0)), (2, .int x1), (3, .int x2), (4, .int y4_81), (5, .int y5_81), (6, .int y6_81), (7, .int y7_81), (8, .int y8_81), (9, .int y9_81)]) hx hb dX12_once_106 hl (by decide) rfl (fun ls hl => ?_)
              refine lv_iconst (v := 0) hx hb dX12_once_108 ic_0 ?_
              refine lv_istore (lv' := [(12, .int 0), (11, .int 0), (10, .int v_99), (0, .ref (h 0)), (2, .int x1), (3, .int x2), (4, .int y4_81), (5, .int y5_81), (6, .int y6_81), (7, .int y7_81), (8, .int y8_81), (9, .int y9_81)]) hx hb dX12_once_109 hl (by decide) rfl (fun ls hl => ?_)
              exact loop_111 22 v_99 0 0 y4_81 y5_81 y6_81 y7_81 y8_81 y9_81 fp_81 _ _ _ (hs.trans ((if_pos c_96).trans (spl_e ev_99 rfl))) (by have kc1 : (0 : Int32).toInt = 0 := ti_0; have kc2 : (0 : Int32).toInt = 0 := ti_0; omega) (by have kc1 : (0 : Int32).toInt = 0 := ti_0; have kc2 : (0 : Int32).toInt = 0 := ti_0; omega) (by have kc1 : (0 : Int32).toInt = 0 := ti_0; have kc2 : (0 : Int32).toInt = 0 := ti_0; omega) hy0_81 hy1_81 hy2_81 q_100 (by decide) hy3_81 hy4_81 hy5_81 hy6_81 ⟨by omega, by omega⟩ hI hF hP hS (lv_sub hl [3, 4, 5, 6, 7, 8, 9, 10, 11, 2, 1, 0] rfl)
      intro y4_71 y5_71 y6_71 y7_71 y8_71 fp_71 H locs ls hs hm_71 hy0_71 hy1_71 hy2_71 hy3_71 hy4_71 hy5_71 hy6_71 hI hF hP hS hl
      have hs : sp = sX12_once_h71 x0 x1 x2 (sX12_once_l71 x0 x1 x2 n_71) y4_71 y5_71 y6_71 y7_71 y8_71 fp_71 L := hs
      refine lv_iload hx hb dX12_once_71 (lv_at hl 7 rfl) ?_
      refine lv_iload hx hb dX12_once_73 (lv_at hl 3 rfl) ?_
      refine lv_icmp_ge (tgt := 257) hx hb dX12_once_75 (by decide) (fun c => ?_) (fun c => ?_)
      · skip
        have c_101 : y4_71.toInt ≤ y8_71.toInt := (by first | exact (bn_le c) | (have z := bn_le c; omega))
        replace hs := hs.trans ((if_neg (Int.not_lt.mpr c_101)).trans rfl)
        refine lv_iload_n hx hb dX12_once_257 rfl (lv_at hl 2 rfl) ?_
        refine lv_if_ne (tgt := 266) hx hb dX12_once_258 (by decide) (fun c => ?_) (fun c => ?_)
        · skip
          have c_103 : x2.toInt ≠ 0 := (by first | exact (cm_ne1 ti_0 c) | (have z := bn_ne c; have k1 : (0 : Int32).toInt = 0 := ti_0; omega))
          replace hs := hs.trans ((if_neg c_103).trans rfl)
          refine lv_iload_n hx hb dX12_once_266 rfl (lv_at hl 2 rfl) ?_
          refine lv_iconst (v := 1) hx hb dX12_once_267 ic_1 ?_
          refine lv_icmp_ne (tgt := 276) hx hb dX12_once_268 (by decide) (fun c => ?_) (fun c => ?_)
          · skip
            have c_105 : x2.toInt ≠ 1 := (by first | exact (cm_ne1 ti_1 c) | (have z := bn_ne c; have k1 : (1 : Int32).toInt = 1 := ti_1; omega))
            refine lv_iload hx hb dX12_once_276 (lv_at hl 6 rfl) ?_
            exact hret _ _ _ _ (y7_71) fp_71 L Q dX12_once_278 hP hS ⟨⟨hI, hF, rfl, rfl⟩, trivial, (Eq.trans (Eq.symm (hs.trans ((if_neg c_105).trans rfl))) hsp)⟩
          · skip
            have c_106 : x2.toInt = 1 := (by first | exact (cm_eq1 ti_1 c) | (have z := Int32.toInt_inj.mpr c; have k1 : (1 : Int32).toInt = 1 := ti_1; omega))
            refine lv_iload hx hb dX12_once_271 (lv_at hl 5 rfl) ?_
            refine lv_goto (tgt := 278) hx hb dX12_once_273 (by decide) ?_
            exact hret _ _ _ _ (y6_71) fp_71 L Q dX12_once_278 hP hS ⟨⟨hI, hF, rfl, rfl⟩, trivial, (Eq.trans (Eq.symm (hs.trans ((if_pos c_106).trans rfl))) hsp)⟩
        · skip
          have c_104 : x2.toInt = 0 := (by first | exact (cm_eq1 ti_0 c) | (have z := Int32.toInt_inj.mpr c; have k1 : (0 : Int32).toInt = 0 := ti_0; omega))
          refine lv_iload hx hb dX12_once_261 (lv_at hl 4 rfl) ?_
          refine lv_goto (tgt := 278) hx hb dX12_once_263 (by decide) ?_
          exact hret _ _ _ _ (y5_71) fp_71 L Q dX12_once_278 hP hS ⟨⟨hI, hF, rfl, rfl⟩, trivial, (Eq.trans (Eq.symm (hs.trans ((if_pos c_104).trans rfl))) hsp)⟩
      · skip
        have c_102 : y8_71.toInt < y4_71.toInt := (by first | exact (bn_nle c) | (have z := bn_nle c; omega))
        refine lv_iconst (v := 0) hx hb dX12_once_78 ic_0 ?_
        refine lv_istore (lv' := [(9, .int 0), (0, .ref (h 0)), (2, .int x1), (3, .int x2), (4, .int y4_71), (5, .int y5_71), (6, .int y6_71), (7, .int y7_71), (8, .int y8_71)]) hx hb dX12_once_79 hl (by decide) rfl (fun ls hl => ?_)
        exact loop_81 62 y4_71 y5_71 y6_71 y7_71 y8_71 0 fp_71 _ _ _ (hs.trans (((if_pos c_102).trans rfl))) (by have kc5 : (0 : Int32).toInt = 0 := ti_0; omega) (by have kc5 : (0 : Int32).toInt = 0 := ti_0; omega) hy0_71 hy1_71 hy2_71 hy3_71 hy4_71 hy5_71 ⟨by omega, by omega⟩ (by decide) hI hF hP hS (lv_sub hl [1, 2, 3, 4, 5, 6, 7, 8, 0] rfl)
  refine lv_aload_n hx hb dX12_once_0 rfl (lv_at hl 0 rfl) ?_
  refine lv_iload_n hx hb dX12_once_1 rfl (lv_at hl 1 rfl) ?_
  refine sg_calli (va_runV (As := [.int x0]) (rest := []) ⟨hx, hb, hml, hown, hts⟩ (kX12_bytesIs l D ca za h hh f L Q hI x0 H.size) (sl_c12_bytesIs_2_0_0_45_12 hts ⟨Nat.le_of_ble_eq_true rfl, Nat.le_of_ble_eq_true rfl⟩) (sl_vM_0 hA hK hP hS hZ) rfl rfl hl.1 rfl (lv_room (Nat.le_of_ble_eq_true rfl)) dX12_once_2 ⟨Nat.le_refl _, Nat.le_refl _⟩) hA hS (fun r_110 f_107 L_108 Q_109 H locs hq hP hS => ?_)
  obtain ⟨⟨ef9, eL9, eQ9⟩, hq, u_111⟩ := hq
  replace hs := hs.trans (spl_e u_111 rfl)
  rw [ef9, eL9, eQ9] at hP; clear ef9 eL9 eQ9
  rcases hq with ⟨rfl, hq⟩ | hq | ⟨rfl, hq⟩
  · skip
    have hc_112 := hq
    refine lv_iconst (v := (-1)) hx hb dX12_once_5 ic_m1 ?_
    refine lv_icmp_eq (tgt := 28) hx hb dX12_once_6 (by decide) (fun c => absurd c (by decide)) (fun c => ?_)
    refine lv_iload_n hx hb dX12_once_9 rfl (lv_at hl 2 rfl) ?_
    refine sg_calli (va_runS (As := [.int x1]) (rest := []) ⟨hx, hb, hml, hown, hts⟩ (kX12_isPart l D ca za h hh f L Q hI x1 H.size) (va_cwS 1 hts (gw_S (fun _ h => List.mem_cons_of_mem _ h) mw_636 mw_637 mw_619 mw_635) rfl rfl rfl hd_yX12_isPart.2 ⟨Nat.le_of_ble_eq_true rfl, Nat.le_of_ble_eq_true rfl⟩) (sg_preS hA hK hP hS hZ) rfl rfl hl.1 rfl (lv_room (Nat.le_of_ble_eq_true rfl)) dX12_once_10 ⟨Nat.le_refl _, Nat.le_refl _⟩) hA hS (fun r_116 f_113 L_114 Q_115 H locs hq hP hS => ?_)
    obtain ⟨⟨ef9, eL9, eQ9⟩, hq, u_117⟩ := hq
    replace hs := hs.trans ((if_pos rfl).trans (spl_e u_117 rfl))
    rw [ef9, eL9, eQ9] at hP; clear ef9 eL9 eQ9
    rcases hq with ⟨rfl, hq⟩ | ⟨rfl, hq⟩
    · skip
      have hc_118 := hq
      refine lv_if_eq (tgt := 28) hx hb dX12_once_13 (by decide) (fun c => absurd c (by decide)) (fun c => ?_)
      refine lv_iload_n hx hb dX12_once_16 rfl (lv_at hl 3 rfl) ?_
      obtain ⟨w_119, ew_119⟩ : ∃ z : Int64, z = Int32.toInt64 x2 := ⟨_, rfl⟩
      have q_120 : w_119.toInt = x2.toInt := by rw [ew_119]; exact Int32.toInt_toInt64 _
      refine lv_i2l (v := w_119) hx hb dX12_once_17 ew_119.symm ?_
      refine lv_lconst (v := 0) hx hb dX12_once_18 (by decide) ?_
      refine lv_ldc2 (v := 2) hx hb hown (hts _ (List.mem_cons_of_mem _ mw_629)) dX12_once_19 ?_
      refine sg_calli (va_runS (As := [.long w_119, .long 0, .long 2]) (rest := []) ⟨hx, hb, hml, hown, hts⟩ (kX12_within l D ca za h hh f L Q hI w_119 0 2 H.size) (va_cwS 3 hts (gw_S (fun _ h => List.mem_cons_of_mem _ h) mw_631 mw_632 mw_619 mw_630) rfl rfl rfl hd_yX12_within.2 ⟨Nat.le_of_ble_eq_true rfl, Nat.le_of_ble_eq_true rfl⟩) (sg_preS hA hK hP hS hZ) rfl rfl hl.1 rfl (lv_room (Nat.le_of_ble_eq_true rfl)) dX12_once_22 ⟨Nat.le_refl _, Nat.le_refl _⟩) hA hS (fun r_124 f_121 L_122 Q_123 H locs hq hP hS => ?_)
      obtain ⟨⟨ef9, eL9, eQ9⟩, hq, u_125⟩ := hq
      replace hs := hs.trans ((if_pos rfl).trans (spl_e ew_119 (spl_e u_125 rfl)))
      rw [ef9, eL9, eQ9] at hP; clear ef9 eL9 eQ9
      have k_126 : (0 : Int64).toInt = 0 := by decide
      have k_127 : (2 : Int64).toInt = 2 := by decide
      rcases hq with ⟨rfl, hq⟩ | ⟨rfl, hq⟩
      · skip
        have hc_128 := hq
        refine lv_if_ne (tgt := 30) hx hb dX12_once_25 (by decide) (fun c => ?_) (fun c => absurd c (by decide))
        refine lv_aload_n hx hb dX12_once_30 rfl (lv_at hl 0 rfl) ?_
        refine lv_iload_n hx hb dX12_once_31 rfl (lv_at hl 1 rfl) ?_
        refine sg_calli (va_runV (As := [.int x0]) (rest := []) ⟨hx, hb, hml, hown, hts⟩ (kX12_bytesIs l D ca za h hh f L Q hI x0 H.size) (sl_c12_bytesIs_2_0_0_45_12 hts ⟨Nat.le_of_ble_eq_true rfl, Nat.le_of_ble_eq_true rfl⟩) (sl_vM_0 hA hK hP hS hZ) rfl rfl hl.1 rfl (lv_room (Nat.le_of_ble_eq_true rfl)) dX12_once_32 ⟨Nat.le_refl _, Nat.le_refl _⟩) hA hS (fun r_132 f_129 L_130 Q_131 H locs hq hP hS => ?_)
        obtain ⟨⟨ef9, eL9, eQ9⟩, hq, u_133⟩ := hq
        rw [ef9, eL9, eQ9] at hP; clear ef9 eL9 eQ9
        rw [show r_132 = 1 from u_133.trans u_111.symm]
        refine lv_if_ge (tgt := 44) hx hb dX12_once_35 (by decide) (fun c => ?_) (fun c => absurd c (by decide))
        refine lv_aload_n hx hb dX12_once_44 rfl (lv_at hl 0 rfl) ?_
        refine lv_iload_n hx hb dX12_once_45 rfl (lv_at hl 1 rfl) ?_
        refine sg_calli (va_runV (As := [.int x0]) (rest := []) ⟨hx, hb, hml, hown, hts⟩ (kX12_shiftsOf l D ca za h hh f L Q hI x0 ⟨by omega, by omega⟩ H.size) (sl_c12_shiftsOf_0_0_0_0_12 hts ⟨Nat.le_of_ble_eq_true rfl, Nat.le_of_ble_eq_true rfl⟩) (sl_vM_0 hA hK hP hS hZ) rfl rfl hl.1 rfl (lv_room (Nat.le_of_ble_eq_true rfl)) dX12_once_46 ⟨Nat.le_refl _, Nat.le_refl _⟩) hA hS (fun r_137 f_134 L_135 Q_136 H locs hq hP hS => ?_)
        obtain ⟨⟨ef9, eL9, eQ9⟩, hq, u_138⟩ := hq
        rw [ef9, eL9, eQ9] at hP; clear ef9 eL9 eQ9
        refine lv_istore (lv' := [(4, .int r_137), (0, .ref (h 0)), (1, .int x0), (2, .int x1), (3, .int x2)]) hx hb dX12_once_49 hl (by decide) rfl (fun ls hl => ?_)
        refine lv_aload_n hx hb dX12_once_51 rfl (lv_at hl 1 rfl) ?_
        refine lv_iload_n hx hb dX12_once_52 rfl (lv_at hl 2 rfl) ?_
        refine lv_iload_n hx hb dX12_once_53 rfl (lv_at hl 3 rfl) ?_
        refine sg_callv (va_runV (As := [.int x0, .int x1]) (rest := []) ⟨hx, hb, hml, hown, hts⟩ (kX12_asksLosses l D ca za h hh f L Q hI x0 x1 ⟨by omega, by omega⟩ ⟨by omega, by omega⟩ H.size) (sl_c12_asksLosses_45_0_0_1032_12 hts ⟨Nat.le_of_ble_eq_true rfl, Nat.le_of_ble_eq_true rfl⟩) (sl_vM_0 hA hK hP hS hZ) rfl rfl hl.1 rfl (lv_room (Nat.le_of_ble_eq_true rfl)) dX12_once_54 ⟨Nat.le_refl _, Nat.le_refl _⟩) hA hS (fun f_139 L_140 Q_141 H locs hq hP hS => ?_)
        obtain ⟨⟨hI, hk_f_139, eL9, eQ9⟩, u_142⟩ := hq
        rw [eL9, eQ9] at hP; clear eL9 eQ9
        have hF : sgK WkX12_once f f_139 := sgK.tr hF hk_f_139 (by decide +kernel)
        refine lv_iconst (v := 0) hx hb dX12_once_57 ic_0 ?_
        refine lv_istore (lv' := [(5, .int 0), (4, .int r_137), (0, .ref (h 0)), (1, .int x0), (2, .int x1), (3, .int x2)]) hx hb dX12_once_58 hl (by decide) rfl (fun ls hl => ?_)
        refine lv_bipush (v := (-2)) hx hb dX12_once_60 bp_m2 ?_
        refine lv_istore (lv' := [(6, .int (-2)), (5, .int 0), (4, .int r_137), (0, .ref (h 0)), (1, .int x0), (2, .int x1), (3, .int x2)]) hx hb dX12_once_62 hl (by decide) rfl (fun ls hl => ?_)
        refine lv_bipush (v := (-2)) hx hb dX12_once_64 bp_m2 ?_
        refine lv_istore (lv' := [(7, .int (-2)), (6, .int (-2)), (5, .int 0), (4, .int r_137), (0, .ref (h 0)), (1, .int x0), (2, .int x1), (3, .int x2)]) hx hb dX12_once_66 hl (by decide) rfl (fun ls hl => ?_)
        refine lv_iconst (v := (-1)) hx hb dX12_once_68 ic_m1 ?_
        refine lv_istore (lv' := [(8, .int (-1)), (7, .int (-2)), (6, .int (-2)), (5, .int 0), (4, .int r_137), (0, .ref (h 0)), (1, .int x0), (2, .int x1), (3, .int x2)]) hx hb dX12_once_69 hl (by decide) rfl (fun ls hl => ?_)
        exact loop_71 23 r_137 0 (-2) (-2) (-1) f_139 _ _ _ (hs.trans ((if_pos rfl).trans (spl_e u_138 (spl_e u_142 rfl)))) (by have kc1 : (0 : Int32).toInt = 0 := ti_0; have kc2 : ((-2) : Int32).toInt = (-2) := ti_m2; have kc3 : ((-2) : Int32).toInt = (-2) := ti_m2; have kc4 : ((-1) : Int32).toInt = (-1) := ti_m1; omega) ⟨by omega, by omega⟩ ⟨by omega, by omega⟩ ⟨by omega, by omega⟩ ⟨by omega, by omega⟩ (by decide) (by decide) (by decide) hI hF hP hS (lv_sub hl [5, 7, 8, 4, 3, 2, 1, 0] rfl)
      · skip
        have hc_128 := hq
        refine lv_if_ne (tgt := 30) hx hb dX12_once_25 (by decide) (fun c => absurd c (by decide)) (fun c => ?_)
        refine lv_iconst (v := (-1)) hx hb dX12_once_28 ic_m1 ?_
        have k99 : ((-1) : Int32).toInt = (-1) := ti_m1
        exact hret _ _ _ _ (-1) f L Q dX12_once_29 hP hS ⟨⟨hI, hF, rfl, rfl⟩, trivial, (Eq.trans (Eq.symm (hs.trans ((if_neg (by decide)).trans rfl))) hsp)⟩
    · skip
      have hc_118 := hq
      refine lv_if_eq (tgt := 28) hx hb dX12_once_13 (by decide) (fun c => ?_) (fun c => absurd c (by decide))
      refine lv_iconst (v := (-1)) hx hb dX12_once_28 ic_m1 ?_
      have k99 : ((-1) : Int32).toInt = (-1) := ti_m1
      exact hret _ _ _ _ (-1) f L Q dX12_once_29 hP hS ⟨⟨hI, hF, rfl, rfl⟩, trivial, (Eq.trans (Eq.symm (hs.trans ((if_neg (by decide)).trans rfl))) hsp)⟩
  · skip
    have hc_112 := hq
    refine lv_iconst (v := (-1)) hx hb dX12_once_5 ic_m1 ?_
    refine lv_icmp_eq (tgt := 28) hx hb dX12_once_6 (by decide) (fun c => ?_) (fun c => ?_)
    · skip
      exfalso; have c_143 : r_110.toInt = (-1) := (by first | exact (cm_eq1 ti_m1 c) | (have z := Int32.toInt_inj.mpr c; have k1 : ((-1) : Int32).toInt = (-1) := ti_m1; omega)); first | exact absurd c_143 (by assumption) | omega
    · skip
      have c_144 : r_110.toInt ≠ (-1) := (by first | exact (cm_ne1 ti_m1 c) | (have z := bn_ne c; have k1 : ((-1) : Int32).toInt = (-1) := ti_m1; omega))
      refine lv_iload_n hx hb dX12_once_9 rfl (lv_at hl 2 rfl) ?_
      refine sg_calli (va_runS (As := [.int x1]) (rest := []) ⟨hx, hb, hml, hown, hts⟩ (kX12_isPart l D ca za h hh f L Q hI x1 H.size) (va_cwS 1 hts (gw_S (fun _ h => List.mem_cons_of_mem _ h) mw_636 mw_637 mw_619 mw_635) rfl rfl rfl hd_yX12_isPart.2 ⟨Nat.le_of_ble_eq_true rfl, Nat.le_of_ble_eq_true rfl⟩) (sg_preS hA hK hP hS hZ) rfl rfl hl.1 rfl (lv_room (Nat.le_of_ble_eq_true rfl)) dX12_once_10 ⟨Nat.le_refl _, Nat.le_refl _⟩) hA hS (fun r_148 f_145 L_146 Q_147 H locs hq hP hS => ?_)
      obtain ⟨⟨ef9, eL9, eQ9⟩, hq, u_149⟩ := hq
      rw [ef9, eL9, eQ9] at hP; clear ef9 eL9 eQ9
      rcases hq with ⟨rfl, hq⟩ | ⟨rfl, hq⟩
      · skip
        have hc_150 := hq
        refine lv_if_eq (tgt := 28) hx hb dX12_once_13 (by decide) (fun c => absurd c (by decide)) (fun c => ?_)
        refine lv_iload_n hx hb dX12_once_16 rfl (lv_at hl 3 rfl) ?_
        obtain ⟨w_151, ew_151⟩ : ∃ z : Int64, z = Int32.toInt64 x2 := ⟨_, rfl⟩
        have q_152 : w_151.toInt = x2.toInt := by rw [ew_151]; exact Int32.toInt_toInt64 _
        refine lv_i2l (v := w_151) hx hb dX12_once_17 ew_151.symm ?_
        refine lv_lconst (v := 0) hx hb dX12_once_18 (by decide) ?_
        refine lv_ldc2 (v := 2) hx hb hown (hts _ (List.mem_cons_of_mem _ mw_629)) dX12_once_19 ?_
        refine sg_calli (va_runS (As := [.long w_151, .long 0, .long 2]) (rest := []) ⟨hx, hb, hml, hown, hts⟩ (kX12_within l D ca za h hh f L Q hI w_151 0 2 H.size) (va_cwS 3 hts (gw_S (fun _ h => List.mem_cons_of_mem _ h) mw_631 mw_632 mw_619 mw_630) rfl rfl rfl hd_yX12_within.2 ⟨Nat.le_of_ble_eq_true rfl, Nat.le_of_ble_eq_true rfl⟩) (sg_preS hA hK hP hS hZ) rfl rfl hl.1 rfl (lv_room (Nat.le_of_ble_eq_true rfl)) dX12_once_22 ⟨Nat.le_refl _, Nat.le_refl _⟩) hA hS (fun r_156 f_153 L_154 Q_155 H locs hq hP hS => ?_)
        obtain ⟨⟨ef9, eL9, eQ9⟩, hq, u_157⟩ := hq
        rw [ef9, eL9, eQ9] at hP; clear ef9 eL9 eQ9
        have k_158 : (0 : Int64).toInt = 0 := by decide
        have k_159 : (2 : Int64).toInt = 2 := by decide
        rcases hq with ⟨rfl, hq⟩ | ⟨rfl, hq⟩
        · skip
          have hc_160 := hq
          refine lv_if_ne (tgt := 30) hx hb dX12_once_25 (by decide) (fun c => ?_) (fun c => absurd c (by decide))
          refine lv_aload_n hx hb dX12_once_30 rfl (lv_at hl 0 rfl) ?_
          refine lv_iload_n hx hb dX12_once_31 rfl (lv_at hl 1 rfl) ?_
          refine sg_calli (va_runV (As := [.int x0]) (rest := []) ⟨hx, hb, hml, hown, hts⟩ (kX12_bytesIs l D ca za h hh f L Q hI x0 H.size) (sl_c12_bytesIs_2_0_0_45_12 hts ⟨Nat.le_of_ble_eq_true rfl, Nat.le_of_ble_eq_true rfl⟩) (sl_vM_0 hA hK hP hS hZ) rfl rfl hl.1 rfl (lv_room (Nat.le_of_ble_eq_true rfl)) dX12_once_32 ⟨Nat.le_refl _, Nat.le_refl _⟩) hA hS (fun r_164 f_161 L_162 Q_163 H locs hq hP hS => ?_)
          obtain ⟨⟨ef9, eL9, eQ9⟩, hq, u_165⟩ := hq
          rw [ef9, eL9, eQ9] at hP; clear ef9 eL9 eQ9
          rw [show r_164 = r_110 from u_165.trans u_111.symm]
          refine lv_if_ge (tgt := 44) hx hb dX12_once_35 (by decide) (fun c => ?_) (fun c => ?_)
          · skip
            exfalso; have c_166 : 0 ≤ r_110.toInt := (by first | exact (cm_le0 ti_0 c) | (have z := bn_le c; have k1 : (0 : Int32).toInt = 0 := ti_0; omega)); omega
          · skip
            have c_167 : r_110.toInt < 0 := (by first | exact (cm_nle0 ti_0 c) | (have z := bn_nle c; have k1 : (0 : Int32).toInt = 0 := ti_0; omega))
            refine lv_aload_n hx hb dX12_once_38 rfl (lv_at hl 0 rfl) ?_
            refine lv_iload_n hx hb dX12_once_39 rfl (lv_at hl 1 rfl) ?_
            refine sg_calli (va_runV (As := [.int x0]) (rest := []) ⟨hx, hb, hml, hown, hts⟩ (kX12_bytesIs l D ca za h hh f L Q hI x0 H.size) (sl_c12_bytesIs_2_0_0_45_12 hts ⟨Nat.le_of_ble_eq_true rfl, Nat.le_of_ble_eq_true rfl⟩) (sl_vM_0 hA hK hP hS hZ) rfl rfl hl.1 rfl (lv_room (Nat.le_of_ble_eq_true rfl)) dX12_once_40 ⟨Nat.le_refl _, Nat.le_refl _⟩) hA hS (fun r_171 f_168 L_169 Q_170 H locs hq hP hS => ?_)
            obtain ⟨⟨ef9, eL9, eQ9⟩, hq, u_172⟩ := hq
            rw [ef9, eL9, eQ9] at hP; clear ef9 eL9 eQ9
            rw [show r_171 = r_110 from u_172.trans u_111.symm]
            exact hret _ _ _ _ (r_110) f L Q dX12_once_43 hP hS ⟨⟨hI, hF, rfl, rfl⟩, trivial, (Eq.trans (Eq.symm (hs.trans ((if_neg (fun z9 => by have k9 : (1 : Int32).toInt = 1 := ti_1; have h9 := hc_112; rw [z9] at h9; omega)).trans ((if_neg (fun z9 => by have k9 : ((-1) : Int32).toInt = (-1) := ti_m1; have h9 := hc_112; rw [z9] at h9; omega)).trans (spl_e u_149 ((if_pos rfl).trans (spl_e ew_151 (spl_e u_157 ((if_pos rfl).trans rfl))))))))) hsp)⟩
        · skip
          have hc_160 := hq
          refine lv_if_ne (tgt := 30) hx hb dX12_once_25 (by decide) (fun c => absurd c (by decide)) (fun c => ?_)
          refine lv_iconst (v := (-1)) hx hb dX12_once_28 ic_m1 ?_
          have k99 : ((-1) : Int32).toInt = (-1) := ti_m1
          exact hret _ _ _ _ (-1) f L Q dX12_once_29 hP hS ⟨⟨hI, hF, rfl, rfl⟩, trivial, (Eq.trans (Eq.symm (hs.trans ((if_neg (fun z9 => by have k9 : (1 : Int32).toInt = 1 := ti_1; have h9 := hc_112; rw [z9] at h9; omega)).trans ((if_neg (fun z9 => by have k9 : ((-1) : Int32).toInt = (-1) := ti_m1; have h9 := hc_112; rw [z9] at h9; omega)).trans (spl_e u_149 ((if_pos rfl).trans (spl_e ew_151 (spl_e u_157 ((if_neg (by decide)).trans rfl))))))))) hsp)⟩
      · skip
        have hc_150 := hq
        refine lv_if_eq (tgt := 28) hx hb dX12_once_13 (by decide) (fun c => ?_) (fun c => absurd c (by decide))
        refine lv_iconst (v := (-1)) hx hb dX12_once_28 ic_m1 ?_
        have k99 : ((-1) : Int32).toInt = (-1) := ti_m1
        exact hret _ _ _ _ (-1) f L Q dX12_once_29 hP hS ⟨⟨hI, hF, rfl, rfl⟩, trivial, (Eq.trans (Eq.symm (hs.trans ((if_neg (fun z9 => by have k9 : (1 : Int32).toInt = 1 := ti_1; have h9 := hc_112; rw [z9] at h9; omega)).trans ((if_neg (fun z9 => by have k9 : ((-1) : Int32).toInt = (-1) := ti_m1; have h9 := hc_112; rw [z9] at h9; omega)).trans (spl_e u_149 ((if_neg (by decide)).trans rfl)))))) hsp)⟩
  · skip
    have hc_112 := hq
    refine lv_iconst (v := (-1)) hx hb dX12_once_5 ic_m1 ?_
    refine lv_icmp_eq (tgt := 28) hx hb dX12_once_6 (by decide) (fun c => ?_) (fun c => absurd c (by decide))
    refine lv_iconst (v := (-1)) hx hb dX12_once_28 ic_m1 ?_
    have k99 : ((-1) : Int32).toInt = (-1) := ti_m1
    exact hret _ _ _ _ (-1) f L Q dX12_once_29 hP hS ⟨⟨hI, hF, rfl, rfl⟩, trivial, (Eq.trans (Eq.symm (hs.trans ((if_neg (by decide)).trans ((if_pos rfl).trans rfl)))) hsp)⟩

abbrev WkX12_beginsWeek : List (Nat × Nat × Option Nat) := [(0, 0, some 29), (0, 0, some 30), (0, 0, some 31), (12, 12, none)]
set_option maxHeartbeats 4000000 in
set_option maxRecDepth 100000 in
theorem kX12_beginsWeek (l : Launch) (D : va_G) (ca : Nat → ClassId) (za h : Nat → Nat) (hh : sgH 26 h) (f : sg_F) (L : sg_L) (Q : sg_Q) (hI : sgI loM hiM f) (sz : Nat) : Met l yX12_beginsWeek gwX12_beginsWeek { frames := 0, cells := 0, slots := 0, locals := 0 } (sgP D vwCl (tyX ca) 26 h (eM ca h) zcM za f L Q sz [.ref (h 0)]) (sgQv D vwCl 26 h (eM ca h) sz (fun f1 L1 Q1 => ((sgI loM hiM f1 ∧ sgK WkX12_beginsWeek f f1 ∧ L1 = L ∧ Q1 = Q) ∧ (f1) = sX12_beginsWeek f L))) 0 0 (sgA 26 h sz) := by
  refine sg_ofWv (cc := cX12_beginsWeek) (maxL := 2) RX12 (by decide) rfl rfl (Nat.le_of_ble_eq_true rfl) ?_
  intro p e s m below meth cd Qz ls hx hb hml hown hts hK hZ hP hS hl hret
  have hA := sgY.self (n := 26) (h := h) (sz := s.heap.size)
  have hl : lv_has ls 2 [(0, .ref (h 0))] := hl
  obtain ⟨H, hH⟩ : ∃ z : Heap, z = s.heap := ⟨_, rfl⟩
  obtain ⟨locs, hlo⟩ : ∃ z : List Loc, z = [] := ⟨_, rfl⟩
  have hP : va_P D vwCl (sgw 26 h (eM ca h) f L Q) H := by rw [hH]; exact hP
  have hS : va_S (sgA 26 h s.heap.size) s.heap H locs := by rw [hH, hlo]; exact hS
  suffices hgo : W p l e ({ frames := 0, cells := 0, slots := 0, locals := 0 }) s m ([.ref (h 0)] : List Value).toArray below meth cd H locs 0 0 Qz (F0 m 0 ls []) by rw [hH, hlo] at hgo; exact hgo
  clear hH hlo
  obtain ⟨sp, hsp⟩ : ∃ z : sg_F, z = sX12_beginsWeek f L := ⟨_, rfl⟩
  have hs : sp = sX12_beginsWeek f L := hsp
  have hF : sgK WkX12_beginsWeek f f := sgK.rf
  have loop_2 : ∀ (n_2 : Nat) (y1_2 : Int32) (fp_2 : sg_F) (H : Heap) (locs : List Loc) (ls : Array Slot), sp = sX12_beginsWeek_l2 n_2 y1_2 fp_2 L → 3 - y1_2.toInt < (n_2 : Int) → 0 ≤ y1_2.toInt ∧ y1_2.toInt ≤ 3 → sgI loM hiM fp_2 → sgK WkX12_beginsWeek f fp_2 → va_P D vwCl (sgw 26 h (eM ca h) fp_2 L Q) H → va_S (sgA 26 h s.heap.size) s.heap H locs → lv_has ls 2 [(0, .ref (h 0)), (1, .int y1_2)] → W p l e ({ frames := 0, cells := 0, slots := 0, locals := 0 }) s m ([.ref (h 0)] : List Value).toArray below meth cd H locs 0 0 Qz (F0 m 2 ls []) := by
    intro n_2
    induction n_2 with
    | zero => intro y1_2 fp_2 H locs ls hs hm_2 hy0_2 hI hF hP hS hl; exact absurd hm_2 (by omega)
    | succ n_2 ih_2 =>
      intro y1_2 fp_2 H locs ls hs hm_2 hy0_2 hI hF hP hS hl
      have hs : sp = sX12_beginsWeek_h2 (sX12_beginsWeek_l2 n_2) y1_2 fp_2 L := hs
      refine lv_iload_n hx hb dX12_beginsWeek_2 rfl (lv_at hl 1 rfl) ?_
      refine lv_iconst (v := 3) hx hb dX12_beginsWeek_3 ic_3 ?_
      refine lv_icmp_ge (tgt := 25) hx hb dX12_beginsWeek_4 (by decide) (fun c => ?_) (fun c => ?_)
      · skip
        have c_1 : 3 ≤ y1_2.toInt := (by first | exact (cm_le0 ti_3 c) | (have z := bn_le c; have k1 : (3 : Int32).toInt = 3 := ti_3; omega))
        refine lv_aload_n hx hb dX12_beginsWeek_25 rfl (lv_at hl 0 rfl) ?_
        refine lv_iconst (v := 0) hx hb dX12_beginsWeek_26 ic_0 ?_
        refine sl_pM_0_29_12 (x := 0) hx hb hts hown hh hA hK hP hS dX12_beginsWeek_27 (fun f_3 H locs ef_3 hP hS => ?_)
        have hI : sgI loM hiM f_3 := by rw [ef_3]; exact sgI.put hI 0 29 (bn_top _)
        have hF : sgK WkX12_beginsWeek f f_3 := sgK.put hF ef_3 (by rfl)
        refine lv_aload_n hx hb dX12_beginsWeek_30 rfl (lv_at hl 0 rfl) ?_
        refine lv_iconst (v := 0) hx hb dX12_beginsWeek_31 ic_0 ?_
        refine sl_pM_0_30_12 (x := 0) hx hb hts hown hh hA hK hP hS dX12_beginsWeek_32 (fun f_4 H locs ef_4 hP hS => ?_)
        have hI : sgI loM hiM f_4 := by rw [ef_4]; exact sgI.put hI 0 30 (bn_top _)
        have hF : sgK WkX12_beginsWeek f f_4 := sgK.put hF ef_4 (by rfl)
        refine lv_aload_n hx hb dX12_beginsWeek_35 rfl (lv_at hl 0 rfl) ?_
        refine lv_iconst (v := 0) hx hb dX12_beginsWeek_36 ic_0 ?_
        refine sl_pM_0_31_12 (x := 0) hx hb hts hown hh hA hK hP hS dX12_beginsWeek_37 (fun f_5 H locs ef_5 hP hS => ?_)
        have hI : sgI loM hiM f_5 := by rw [ef_5]; exact sgI.put hI 0 31 (bn_top _)
        have hF : sgK WkX12_beginsWeek f f_5 := sgK.put hF ef_5 (by rfl)
        exact hret _ _ _ _ f_5 L Q dX12_beginsWeek_40 hP hS ⟨⟨hI, hF, rfl, rfl⟩, (Eq.trans (Eq.symm (hs.trans (((if_neg (Int.not_lt.mpr c_1)).trans (spl_e ef_3 (spl_e ef_4 (spl_e ef_5 rfl))))))) hsp)⟩
      · skip
        have c_2 : y1_2.toInt < 3 := (by first | exact (cm_nle0 ti_3 c) | (have z := bn_nle c; have k1 : (3 : Int32).toInt = 3 := ti_3; omega))
        refine lv_aload_n hx hb dX12_beginsWeek_7 rfl (lv_at hl 0 rfl) ?_
        refine sl_gM_0_27_12 hx hb hts hown hK hP dX12_beginsWeek_8 ?_
        refine lv_iload_n hx hb dX12_beginsWeek_11 rfl (lv_at hl 1 rfl) ?_
        refine lv_aload_n hx hb dX12_beginsWeek_12 rfl (lv_at hl 0 rfl) ?_
        refine sl_gM_0_7_12 hx hb hts hown hK hP dX12_beginsWeek_13 ?_
        refine lv_iload_n hx hb dX12_beginsWeek_16 rfl (lv_at hl 1 rfl) ?_
        refine sg_iald hx hb hK hP 5 (by decide) 0 rfl rfl (i := y1_2) (vp_in_iff.mpr ⟨by omega, by omega⟩) dX12_beginsWeek_17 ?_
        refine lv_topi (fun v_6 ev_6 => ?_)
        have q_7 : 0 ≤ v_6.toInt ∧ v_6.toInt ≤ 60 := by rw [ev_6]; exact hI 5 _
        refine sg_iast hx hb hh hA hK hP hS 12 (by decide) 0 (fun _ => rfl) rfl (i := y1_2) (x := v_6) (vp_in_iff.mpr ⟨by omega, by omega⟩) dX12_beginsWeek_18 (fun f_8 H locs ef_8 hP hS => ?_)
        have hI : sgI loM hiM f_8 := by rw [ef_8]; exact sgI.put hI 12 y1_2.toNatClampNeg (show 0 ≤ (v_6 : Int32).toInt ∧ (v_6 : Int32).toInt ≤ 60 from q_7)
        have hF : sgK WkX12_beginsWeek f f_8 := sgK.put hF ef_8 (by rfl)
        obtain ⟨v_9, ev_9⟩ : ∃ z : Int32, z = y1_2 + 1 := ⟨_, rfl⟩
        have q_10 : v_9.toInt = y1_2.toInt + 1 := by rw [ev_9]; exact (bn_addc y1_2 1 (by decide) (by omega) (by omega))
        refine lv_iinc (v := v_9) (lv' := [(1, .int v_9), (0, .ref (h 0))]) hx hb dX12_beginsWeek_19 hl (k := 1) rfl (by rw [ev_9]; rfl) (by decide) rfl (fun ls hl => ?_)
        refine lv_goto (tgt := 2) hx hb dX12_beginsWeek_22 (by decide) ?_
        exact ih_2 v_9 f_8 _ _ _ (hs.trans (((if_pos c_2).trans (spl_e ev_6 (spl_e ef_8 (spl_e ev_9 rfl)))))) (by omega) ⟨by omega, by omega⟩ hI hF hP hS (lv_sub hl [1, 0] rfl)
  refine lv_iconst (v := 0) hx hb dX12_beginsWeek_0 ic_0 ?_
  refine lv_istore_n (lv' := [(1, .int 0), (0, .ref (h 0))]) hx hb dX12_beginsWeek_1 rfl hl (by decide) rfl (fun ls hl => ?_)
  exact loop_2 4 0 f _ _ _ hs (by have kc0 : (0 : Int32).toInt = 0 := ti_0; omega) (by decide) hI hF hP hS (lv_sub hl [1, 0] rfl)

set_option maxHeartbeats 4000000 in
set_option maxRecDepth 100000 in
theorem kX12_nearBy (l : Launch) (D : va_G) (ca : Nat → ClassId) (za h : Nat → Nat) (hh : sgH 26 h) (f : sg_F) (L : sg_L) (Q : sg_Q) (hI : sgI loM hiM f) (x0 : Int32) (b0 : 0 ≤ x0.toInt ∧ x0.toInt ≤ 7) (sz : Nat) : Met l yX12_nearBy gwX12_nearBy { frames := 1, cells := 0, slots := 0, locals := 22 } (sgP D vwCl (tyX ca) 26 h (eM ca h) zcM za f L Q sz [.ref (h 0), .int x0]) (sgQi D vwCl 26 h (eM ca h) sz (fun r f1 L1 Q1 => ((f1 = f ∧ L1 = L ∧ Q1 = Q) ∧ (0 ≤ r.toInt ∧ r.toInt ≤ 61) ∧ (r) = sX12_nearBy x0 f L))) 0 0 (sgA 26 h sz) := by
  refine sg_ofWi (cc := cX12_nearBy) (maxL := 2) RX12 (by decide) rfl rfl (Nat.le_of_ble_eq_true rfl) ?_
  intro p e s m below meth cd Qz ls hx hb hml hown hts hK hZ hP hS hl hret
  have hA := sgY.self (n := 26) (h := h) (sz := s.heap.size)
  have hl : lv_has ls 2 [(0, .ref (h 0)), (1, .int x0)] := hl
  obtain ⟨H, hH⟩ : ∃ z : Heap, z = s.heap := ⟨_, rfl⟩
  obtain ⟨locs, hlo⟩ : ∃ z : List Loc, z = [] := ⟨_, rfl⟩
  have hP : va_P D vwCl (sgw 26 h (eM ca h) f L Q) H := by rw [hH]; exact hP
  have hS : va_S (sgA 26 h s.heap.size) s.heap H locs := by rw [hH, hlo]; exact hS
  suffices hgo : W p l e ({ frames := 1, cells := 0, slots := 0, locals := 22 }) s m ([.ref (h 0), .int x0] : List Value).toArray below meth cd H locs 0 0 Qz (F0 m 0 ls []) by rw [hH, hlo] at hgo; exact hgo
  clear hH hlo
  obtain ⟨sp, hsp⟩ : ∃ z : Int32, z = sX12_nearBy x0 f L := ⟨_, rfl⟩
  have hs : sp = sX12_nearBy x0 f L := hsp
  refine lv_iload_n hx hb dX12_nearBy_0 rfl (lv_at hl 1 rfl) ?_
  refine lv_aload_n hx hb dX12_nearBy_1 rfl (lv_at hl 0 rfl) ?_
  refine sl_gM_0_20_12 (v := (f 0 20)) hx hb hts hown hK hP rfl dX12_nearBy_2 ?_
  refine lv_topi (fun v_1 ev_1 => ?_)
  replace hs := hs.trans (spl_e ev_1 rfl)
  have q_2 : (-1) ≤ v_1.toInt ∧ v_1.toInt ≤ 7 := by rw [ev_1]; exact hI 0 20
  refine lv_icmp_ne (tgt := 15) hx hb dX12_nearBy_5 (by decide) (fun c => ?_) (fun c => ?_)
  · skip
    have c_3 : x0.toInt ≠ v_1.toInt := (by first | exact (bn_ne c) | (have z := bn_ne c; omega))
    refine lv_aload_n hx hb dX12_nearBy_15 rfl (lv_at hl 0 rfl) ?_
    refine lv_iload_n hx hb dX12_nearBy_16 rfl (lv_at hl 1 rfl) ?_
    refine lv_bipush (v := 6) hx hb dX12_nearBy_17 bp_6 ?_
    refine sg_calli (va_runV (As := [.int x0, .int 6]) (rest := []) ⟨hx, hb, hml, hown, hts⟩ (kX12_numberOf l D ca za h hh f L Q hI x0 6 b0 (by decide) H.size) (sl_c12_numberOf_0_0_0_0_12 hts ⟨Nat.le_of_ble_eq_true rfl, Nat.le_of_ble_eq_true rfl⟩) (sl_vM_0 hA hK hP hS hZ) rfl rfl hl.1 rfl (lv_room (Nat.le_of_ble_eq_true rfl)) dX12_nearBy_19 ⟨Nat.le_refl _, Nat.le_refl _⟩) hA hS (fun r_8 f_5 L_6 Q_7 H locs hq hP hS => ?_)
    obtain ⟨⟨ef9, eL9, eQ9⟩, hq, u_9⟩ := hq
    rw [ef9, eL9, eQ9] at hP; clear ef9 eL9 eQ9
    exact hret _ _ _ _ (r_8) f L Q dX12_nearBy_22 hP hS ⟨⟨rfl, rfl, rfl⟩, ⟨by omega, by omega⟩, (Eq.trans (Eq.symm (hs.trans ((if_neg c_3).trans (spl_e u_9 rfl)))) hsp)⟩
  · skip
    have c_4 : x0.toInt = v_1.toInt := (by first | exact (Int32.toInt_inj.mpr c) | (have z := Int32.toInt_inj.mpr c; omega))
    refine lv_aload_n hx hb dX12_nearBy_8 rfl (lv_at hl 0 rfl) ?_
    refine sl_gM_0_21_12 (v := (f 0 21)) hx hb hts hown hK hP rfl dX12_nearBy_9 ?_
    refine lv_topi (fun v_10 ev_10 => ?_)
    have q_11 : 0 ≤ v_10.toInt ∧ v_10.toInt ≤ 61 := by rw [ev_10]; exact hI 0 21
    refine lv_goto (tgt := 22) hx hb dX12_nearBy_12 (by decide) ?_
    exact hret _ _ _ _ (v_10) f L Q dX12_nearBy_22 hP hS ⟨⟨rfl, rfl, rfl⟩, ⟨by omega, by omega⟩, (Eq.trans (Eq.symm (hs.trans ((if_pos c_4).trans (spl_e ev_10 rfl)))) hsp)⟩

set_option maxHeartbeats 4000000 in
set_option maxRecDepth 100000 in
theorem kX12_priceOf (l : Launch) (D : va_G) (ca : Nat → ClassId) (za h : Nat → Nat) (hh : sgH 26 h) (f : sg_F) (L : sg_L) (Q : sg_Q) (hI : sgI loM hiM f) (x0 : Int32) (b0 : 0 ≤ x0.toInt ∧ x0.toInt ≤ 2) (sz : Nat) : Met l yX12_priceOf gwX12_priceOf { frames := 0, cells := 0, slots := 0, locals := 0 } (sgP D vwCl (tyX ca) 26 h (eM ca h) zcM za f L Q sz [.ref (h 0), .int x0]) (sgQi D vwCl 26 h (eM ca h) sz (fun r f1 L1 Q1 => ((f1 = f ∧ L1 = L ∧ Q1 = Q) ∧ (0 ≤ r.toInt ∧ r.toInt ≤ 99) ∧ (r) = sX12_priceOf x0 f L))) 0 0 (sgA 26 h sz) := by
  refine sg_ofWi (cc := cX12_priceOf) (maxL := 2) RX12 (by decide) rfl rfl (Nat.le_of_ble_eq_true rfl) ?_
  intro p e s m below meth cd Qz ls hx hb hml hown hts hK hZ hP hS hl hret
  have hA := sgY.self (n := 26) (h := h) (sz := s.heap.size)
  have hl : lv_has ls 2 [(0, .ref (h 0)), (1, .int x0)] := hl
  obtain ⟨H, hH⟩ : ∃ z : Heap, z = s.heap := ⟨_, rfl⟩
  obtain ⟨locs, hlo⟩ : ∃ z : List Loc, z = [] := ⟨_, rfl⟩
  have hP : va_P D vwCl (sgw 26 h (eM ca h) f L Q) H := by rw [hH]; exact hP
  have hS : va_S (sgA 26 h s.heap.size) s.heap H locs := by rw [hH, hlo]; exact hS
  suffices hgo : W p l e ({ frames := 0, cells := 0, slots := 0, locals := 0 }) s m ([.ref (h 0), .int x0] : List Value).toArray below meth cd H locs 0 0 Qz (F0 m 0 ls []) by rw [hH, hlo] at hgo; exact hgo
  clear hH hlo
  obtain ⟨sp, hsp⟩ : ∃ z : Int32, z = sX12_priceOf x0 f L := ⟨_, rfl⟩
  have hs : sp = sX12_priceOf x0 f L := hsp
  refine lv_aload_n hx hb dX12_priceOf_0 rfl (lv_at hl 0 rfl) ?_
  refine sl_gM_0_23_12 (v := (f 0 23)) hx hb hts hown hK hP rfl dX12_priceOf_1 ?_
  refine lv_topi (fun v_1 ev_1 => ?_)
  replace hs := hs.trans (spl_e ev_1 rfl)
  have q_2 : 0 ≤ v_1.toInt ∧ v_1.toInt ≤ 1 := by rw [ev_1]; exact hI 0 23
  refine lv_if_eq (tgt := 21) hx hb dX12_priceOf_4 (by decide) (fun c => ?_) (fun c => ?_)
  · skip
    have c_3 : v_1.toInt = 0 := (by first | exact (cm_eq1 ti_0 c) | (have z := Int32.toInt_inj.mpr c; have k1 : (0 : Int32).toInt = 0 := ti_0; omega))
    refine lv_aload_n hx hb dX12_priceOf_21 rfl (lv_at hl 0 rfl) ?_
    refine sl_gM_0_0_12 hx hb hts hown hK hP dX12_priceOf_22 ?_
    refine lv_bipush (v := 67) hx hb dX12_priceOf_25 bp_67 ?_
    refine lv_iload_n hx hb dX12_priceOf_27 rfl (lv_at hl 1 rfl) ?_
    refine lv_iadd hx hb dX12_priceOf_28 ?_
    refine lv_topi (fun v_5 ev_5 => ?_)
    have q_6 : v_5.toInt = 67 + x0.toInt := by rw [ev_5]; have k0 : (67 : Int32).toInt = 67 := ti_67; exact (bn_addI (by omega) (by omega)).trans (by omega)
    refine sg_iald hx hb hK hP 1 (by decide) 0 rfl rfl (i := v_5) (vp_in_iff.mpr ⟨by omega, by omega⟩) dX12_priceOf_29 ?_
    refine lv_topi (fun v_7 ev_7 => ?_)
    have q_8 : v_5.toInt < 64 → v_7.toInt ≤ 60 := by rw [ev_7]; have z1 := segM1_r hI (j := Int32.toNatClampNeg v_5); have z2 := bn_clI (x := v_5) (by omega); intro z3; exact (z1.2.2 (by omega)).2
    have q_9 : 0 ≤ v_7.toInt ∧ v_7.toInt ≤ 99 := by rw [ev_7]; have z1 := segM1_r hI (j := Int32.toNatClampNeg v_5); have z2 := bn_clI (x := v_5) (by omega); omega
    exact hret _ _ _ _ (v_7) f L Q dX12_priceOf_30 hP hS ⟨⟨rfl, rfl, rfl⟩, ⟨by omega, by omega⟩, (Eq.trans (Eq.symm (hs.trans ((if_pos c_3).trans (spl_e ev_5 (spl_e ev_7 rfl))))) hsp)⟩
  · skip
    have c_4 : v_1.toInt ≠ 0 := (by first | exact (cm_ne1 ti_0 c) | (have z := bn_ne c; have k1 : (0 : Int32).toInt = 0 := ti_0; omega))
    refine lv_aload_n hx hb dX12_priceOf_7 rfl (lv_at hl 0 rfl) ?_
    refine sl_gM_0_0_12 hx hb hts hown hK hP dX12_priceOf_8 ?_
    refine lv_bipush (v := 67) hx hb dX12_priceOf_11 bp_67 ?_
    refine lv_iload_n hx hb dX12_priceOf_13 rfl (lv_at hl 1 rfl) ?_
    refine lv_iadd hx hb dX12_priceOf_14 ?_
    refine lv_topi (fun v_10 ev_10 => ?_)
    have q_11 : v_10.toInt = 67 + x0.toInt := by rw [ev_10]; have k0 : (67 : Int32).toInt = 67 := ti_67; exact (bn_addI (by omega) (by omega)).trans (by omega)
    refine sg_iald hx hb hK hP 1 (by decide) 0 rfl rfl (i := v_10) (vp_in_iff.mpr ⟨by omega, by omega⟩) dX12_priceOf_15 ?_
    refine lv_topi (fun v_12 ev_12 => ?_)
    have q_13 : v_10.toInt < 64 → v_12.toInt ≤ 60 := by rw [ev_12]; have z1 := segM1_r hI (j := Int32.toNatClampNeg v_10); have z2 := bn_clI (x := v_10) (by omega); intro z3; exact (z1.2.2 (by omega)).2
    have q_14 : 0 ≤ v_12.toInt ∧ v_12.toInt ≤ 99 := by rw [ev_12]; have z1 := segM1_r hI (j := Int32.toNatClampNeg v_10); have z2 := bn_clI (x := v_10) (by omega); omega
    refine lv_iconst (v := 2) hx hb dX12_priceOf_16 ic_2 ?_
    refine lv_idiv hx hb dX12_priceOf_17 (by decide) ?_
    refine lv_topi (fun v_15 ev_15 => ?_)
    have q_16 : v_15.toInt = v_12.toInt / 2 := by rw [ev_15]; exact bn_divI (by omega) (by decide) (by decide)
    refine lv_goto (tgt := 30) hx hb dX12_priceOf_18 (by decide) ?_
    exact hret _ _ _ _ (v_15) f L Q dX12_priceOf_30 hP hS ⟨⟨rfl, rfl, rfl⟩, ⟨by omega, by omega⟩, (Eq.trans (Eq.symm (hs.trans ((if_neg c_4).trans (spl_e ev_10 (spl_e ev_12 (spl_e ev_15 rfl)))))) hsp)⟩

set_option maxHeartbeats 4000000 in
set_option maxRecDepth 100000 in
theorem kX12_isIn (l : Launch) (D : va_G) (ca : Nat → ClassId) (za h : Nat → Nat) (hh : sgH 26 h) (f : sg_F) (L : sg_L) (Q : sg_Q) (hI : sgI loM hiM f) (x0 : Int32) (x1 : Int32) (b0 : 0 ≤ x0.toInt ∧ x0.toInt ≤ 487) (b1 : 0 ≤ x1.toInt ∧ x1.toInt ≤ 7) (sz : Nat) : Met l yX12_isIn gwX12_isIn { frames := 0, cells := 0, slots := 0, locals := 0 } (sgP D vwCl (tyX ca) 26 h (eM ca h) zcM za f L Q sz [.int x0, .int x1]) (sgQi D vwCl 26 h (eM ca h) sz (fun r f1 L1 Q1 => ((f1 = f ∧ L1 = L ∧ Q1 = Q) ∧ (0 ≤ r.toInt ∧ r.toInt ≤ 1) ∧ (r) = sX12_isIn x0 x1 f L))) 0 0 (sgA 26 h sz) := by
  refine sg_ofWz (cc := cX12_isIn) (maxL := 2) RX12 (by decide) rfl rfl (Nat.le_of_ble_eq_true rfl) ?_
  intro p e s m below meth cd Qz ls hx hb hml hown hts hK hZ hP hS hl hret
  have hA := sgY.self (n := 26) (h := h) (sz := s.heap.size)
  have hl : lv_has ls 2 [(0, .int x0), (1, .int x1)] := hl
  obtain ⟨H, hH⟩ : ∃ z : Heap, z = s.heap := ⟨_, rfl⟩
  obtain ⟨locs, hlo⟩ : ∃ z : List Loc, z = [] := ⟨_, rfl⟩
  have hP : va_P D vwCl (sgw 26 h (eM ca h) f L Q) H := by rw [hH]; exact hP
  have hS : va_S (sgA 26 h s.heap.size) s.heap H locs := by rw [hH, hlo]; exact hS
  suffices hgo : W p l e ({ frames := 0, cells := 0, slots := 0, locals := 0 }) s m ([.int x0, .int x1] : List Value).toArray below meth cd H locs 0 0 Qz (F0 m 0 ls []) by rw [hH, hlo] at hgo; exact hgo
  clear hH hlo
  obtain ⟨sp, hsp⟩ : ∃ z : Int32, z = sX12_isIn x0 x1 f L := ⟨_, rfl⟩
  have hs : sp = sX12_isIn x0 x1 f L := hsp
  refine lv_iload_n hx hb dX12_isIn_0 rfl (lv_at hl 0 rfl) ?_
  refine lv_iload_n hx hb dX12_isIn_1 rfl (lv_at hl 1 rfl) ?_
  refine lv_ishr hx hb dX12_isIn_2 ?_
  refine lv_topi (fun v_1 ev_1 => ?_)
  refine lv_iconst (v := 1) hx hb dX12_isIn_3 ic_1 ?_
  refine lv_iand hx hb dX12_isIn_4 ?_
  refine lv_topi (fun v_2 ev_2 => ?_)
  replace hs := hs.trans (spl_e ev_1 (spl_e ev_2 rfl))
  have q_3 : 0 ≤ v_2.toInt ∧ v_2.toInt ≤ 1 := by rw [ev_2]; exact bn_and1c v_1
  refine lv_iconst (v := 1) hx hb dX12_isIn_5 ic_1 ?_
  refine lv_icmp_ne (tgt := 13) hx hb dX12_isIn_6 (by decide) (fun c => ?_) (fun c => ?_)
  · skip
    have c_4 : v_2.toInt ≠ 1 := (by first | exact (cm_ne1 ti_1 c) | (have z := bn_ne c; have k1 : (1 : Int32).toInt = 1 := ti_1; omega))
    refine lv_iconst (v := 0) hx hb dX12_isIn_13 ic_0 ?_
    have k99 : (0 : Int32).toInt = 0 := ti_0
    exact hret _ _ _ _ (0) f L Q dX12_isIn_14 (by decide) hP hS ⟨⟨rfl, rfl, rfl⟩, (by decide), (Eq.trans (Eq.symm (hs.trans ((if_neg c_4).trans rfl))) hsp)⟩
  · skip
    have c_5 : v_2.toInt = 1 := (by first | exact (cm_eq1 ti_1 c) | (have z := Int32.toInt_inj.mpr c; have k1 : (1 : Int32).toInt = 1 := ti_1; omega))
    refine lv_iconst (v := 1) hx hb dX12_isIn_9 ic_1 ?_
    refine lv_goto (tgt := 14) hx hb dX12_isIn_10 (by decide) ?_
    have k99 : (1 : Int32).toInt = 1 := ti_1
    exact hret _ _ _ _ (1) f L Q dX12_isIn_14 (by decide) hP hS ⟨⟨rfl, rfl, rfl⟩, (by decide), (Eq.trans (Eq.symm (hs.trans ((if_pos c_5).trans rfl))) hsp)⟩

abbrev WkX12_turnsTo : List (Nat × Nat × Option Nat) := [(0, 0, some 29), (0, 0, some 31), (12, 12, none)]
set_option maxHeartbeats 4000000 in
set_option maxRecDepth 100000 in
theorem kX12_turnsTo (l : Launch) (D : va_G) (ca : Nat → ClassId) (za h : Nat → Nat) (hh : sgH 26 h) (f : sg_F) (L : sg_L) (Q : sg_Q) (hI : sgI loM hiM f) (x0 : Int32) (x1 : Int32) (x2 : Int32) (b0 : 0 ≤ x0.toInt ∧ x0.toInt ≤ 2) (b1 : 0 ≤ x1.toInt ∧ x1.toInt ≤ 60) (b2 : (-1) ≤ x2.toInt ∧ x2.toInt ≤ 7) (sz : Nat) : Met l yX12_turnsTo gwX12_turnsTo { frames := 1, cells := 0, slots := 0, locals := 21 } (sgP D vwCl (tyX ca) 26 h (eM ca h) zcM za f L Q sz [.ref (h 0), .int x0, .int x1, .int x2]) (sgQv D vwCl 26 h (eM ca h) sz (fun f1 L1 Q1 => ((sgI loM hiM f1 ∧ sgK WkX12_turnsTo f f1 ∧ L1 = L ∧ Q1 = Q) ∧ (f1) = sX12_turnsTo x0 x1 x2 f L))) 0 0 (sgA 26 h sz) := by
  refine sg_ofWv (cc := cX12_turnsTo) (maxL := 6) RX12 (by decide) rfl rfl (Nat.le_of_ble_eq_true rfl) ?_
  intro p e s m below meth cd Qz ls hx hb hml hown hts hK hZ hP hS hl hret
  have hA := sgY.self (n := 26) (h := h) (sz := s.heap.size)
  have hl : lv_has ls 6 [(0, .ref (h 0)), (1, .int x0), (2, .int x1), (3, .int x2)] := hl
  obtain ⟨H, hH⟩ : ∃ z : Heap, z = s.heap := ⟨_, rfl⟩
  obtain ⟨locs, hlo⟩ : ∃ z : List Loc, z = [] := ⟨_, rfl⟩
  have hP : va_P D vwCl (sgw 26 h (eM ca h) f L Q) H := by rw [hH]; exact hP
  have hS : va_S (sgA 26 h s.heap.size) s.heap H locs := by rw [hH, hlo]; exact hS
  suffices hgo : W p l e ({ frames := 1, cells := 0, slots := 0, locals := 21 }) s m ([.ref (h 0), .int x0, .int x1, .int x2] : List Value).toArray below meth cd H locs 0 0 Qz (F0 m 0 ls []) by rw [hH, hlo] at hgo; exact hgo
  clear hH hlo
  obtain ⟨sp, hsp⟩ : ∃ z : sg_F, z = sX12_turnsTo x0 x1 x2 f L := ⟨_, rfl⟩
  have hs : sp = sX12_turnsTo x0 x1 x2 f L := hsp
  have hF : sgK WkX12_turnsTo f f := sgK.rf
  refine lv_iload_n hx hb dX12_turnsTo_0 rfl (lv_at hl 2 rfl) ?_
  refine lv_aload_n hx hb dX12_turnsTo_1 rfl (lv_at hl 0 rfl) ?_
  refine sl_gM_0_27_12 hx hb hts hown hK hP dX12_turnsTo_2 ?_
  refine lv_iload_n hx hb dX12_turnsTo_5 rfl (lv_at hl 1 rfl) ?_
  refine sg_iald hx hb hK hP 12 (by decide) 0 rfl rfl (i := x0) (vp_in_iff.mpr ⟨by omega, by omega⟩) dX12_turnsTo_6 ?_
  refine lv_topi (fun v_1 ev_1 => ?_)
  have q_2 : 0 ≤ v_1.toInt ∧ v_1.toInt ≤ 60 := by rw [ev_1]; exact hI 12 _
  refine lv_isub hx hb dX12_turnsTo_7 ?_
  refine lv_topi (fun v_3 ev_3 => ?_)
  have q_4 : v_3.toInt = x1.toInt - v_1.toInt := by rw [ev_3]; first | exact bn_subI (by omega) (by omega) | exact (bn_subI (by omega) (by omega)).trans (by omega)
  refine sg_calli (va_runS (As := [.int v_3]) (rest := []) ⟨hx, hb, hml, hown, hts⟩ (kX12_sizeOf l D ca za h hh f L Q hI v_3 ⟨by omega, by omega⟩ H.size) (va_cwS 1 hts (gw_S (fun _ h => List.mem_cons_of_mem _ h) mw_682 mw_683 mw_619 mw_681) rfl rfl rfl hd_yX12_sizeOf.2 ⟨Nat.le_of_ble_eq_true rfl, Nat.le_of_ble_eq_true rfl⟩) (sg_preS hA hK hP hS hZ) rfl rfl hl.1 rfl (lv_room (Nat.le_of_ble_eq_true rfl)) dX12_turnsTo_8 ⟨Nat.le_refl _, Nat.le_refl _⟩) hA hS (fun r_8 f_5 L_6 Q_7 H locs hq hP hS => ?_)
  obtain ⟨⟨ef9, eL9, eQ9⟩, hq, u_9⟩ := hq
  rw [ef9, eL9, eQ9] at hP; clear ef9 eL9 eQ9
  refine lv_istore (lv' := [(4, .int r_8), (0, .ref (h 0)), (1, .int x0), (2, .int x1), (3, .int x2)]) hx hb dX12_turnsTo_11 hl (by decide) rfl (fun ls hl => ?_)
  refine lv_iload hx hb dX12_turnsTo_13 (lv_at hl 0 rfl) ?_
  refine lv_aload_n hx hb dX12_turnsTo_15 rfl (lv_at hl 1 rfl) ?_
  refine lv_iload_n hx hb dX12_turnsTo_16 rfl (lv_at hl 2 rfl) ?_
  refine sg_calli (va_runV (As := [.int x0]) (rest := [.int r_8]) ⟨hx, hb, hml, hown, hts⟩ (kX12_priceOf l D ca za h hh f L Q hI x0 b0 H.size) (sl_c12_priceOf_0_0_0_0_12 hts ⟨Nat.le_of_ble_eq_true rfl, Nat.le_of_ble_eq_true rfl⟩) (sl_vM_0 hA hK hP hS hZ) rfl rfl hl.1 rfl (lv_room (Nat.le_of_ble_eq_true rfl)) dX12_turnsTo_17 ⟨Nat.le_refl _, Nat.le_refl _⟩) hA hS (fun r_13 f_10 L_11 Q_12 H locs hq hP hS => ?_)
  obtain ⟨⟨ef9, eL9, eQ9⟩, hq, u_14⟩ := hq
  rw [ef9, eL9, eQ9] at hP; clear ef9 eL9 eQ9
  refine lv_imul hx hb dX12_turnsTo_20 ?_
  refine lv_topi (fun v_15 ev_15 => ?_)
  refine lv_istore (lv' := [(5, .int v_15), (4, .int r_8), (0, .ref (h 0)), (1, .int x0), (2, .int x1), (3, .int x2)]) hx hb dX12_turnsTo_21 hl (by decide) rfl (fun ls hl => ?_)
  refine lv_aload_n hx hb dX12_turnsTo_23 rfl (lv_at hl 2 rfl) ?_
  refine lv_dup hx hb dX12_turnsTo_24 rfl ?_
  refine sl_gM_0_29_12 (v := (f 0 29)) hx hb hts hown hK hP rfl dX12_turnsTo_25 ?_
  refine lv_topi (fun v_16 ev_16 => ?_)
  refine lv_iload hx hb dX12_turnsTo_28 (lv_at hl 1 rfl) ?_
  refine lv_iadd hx hb dX12_turnsTo_30 ?_
  refine lv_topi (fun v_17 ev_17 => ?_)
  refine sl_pM_0_29_12 (x := v_17) hx hb hts hown hh hA hK hP hS dX12_turnsTo_31 (fun f_18 H locs ef_18 hP hS => ?_)
  have hI : sgI loM hiM f_18 := by rw [ef_18]; exact sgI.put hI 0 29 (bn_top _)
  have hF : sgK WkX12_turnsTo f f_18 := sgK.put hF ef_18 (by rfl)
  refine lv_aload_n hx hb dX12_turnsTo_34 rfl (lv_at hl 2 rfl) ?_
  refine lv_dup hx hb dX12_turnsTo_35 rfl ?_
  refine sl_gM_0_31_12 (v := (f_18 0 31)) hx hb hts hown hK hP rfl dX12_turnsTo_36 ?_
  refine lv_topi (fun v_19 ev_19 => ?_)
  replace hs := hs.trans (spl_e ev_1 (spl_e ev_3 (spl_e u_9 (spl_e u_14 (spl_e ev_15 (spl_e ev_16 (spl_e ev_17 (spl_e ef_18 (spl_e ev_19 rfl)))))))))
  refine lv_iload_n hx hb dX12_turnsTo_39 rfl (lv_at hl 5 rfl) ?_
  refine lv_if_lt (tgt := 76) hx hb dX12_turnsTo_40 (by decide) (fun c => ?_) (fun c => ?_)
  · skip
    have c_20 : x2.toInt < 0 := (by first | exact (cm_lt1 ti_0 c) | (have z := bn_lt c; have k1 : (0 : Int32).toInt = 0 := ti_0; omega))
    refine lv_iload hx hb dX12_turnsTo_76 (lv_at hl 0 rfl) ?_
    refine lv_iadd hx hb dX12_turnsTo_78 ?_
    refine lv_topi (fun v_22 ev_22 => ?_)
    refine sl_pM_0_31_12 (x := v_22) hx hb hts hown hh hA hK hP hS dX12_turnsTo_79 (fun f_23 H locs ef_23 hP hS => ?_)
    have hI : sgI loM hiM f_23 := by rw [ef_23]; exact sgI.put hI 0 31 (bn_top _)
    have hF : sgK WkX12_turnsTo f f_23 := sgK.put hF ef_23 (by rfl)
    refine lv_aload_n hx hb dX12_turnsTo_82 rfl (lv_at hl 2 rfl) ?_
    refine sl_gM_0_27_12 hx hb hts hown hK hP dX12_turnsTo_83 ?_
    refine lv_iload_n hx hb dX12_turnsTo_86 rfl (lv_at hl 3 rfl) ?_
    refine lv_iload_n hx hb dX12_turnsTo_87 rfl (lv_at hl 4 rfl) ?_
    refine sg_iast hx hb hh hA hK hP hS 12 (by decide) 0 (fun _ => rfl) rfl (i := x0) (x := x1) (vp_in_iff.mpr ⟨by omega, by omega⟩) dX12_turnsTo_88 (fun f_24 H locs ef_24 hP hS => ?_)
    have hI : sgI loM hiM f_24 := by rw [ef_24]; exact sgI.put hI 12 x0.toNatClampNeg (show 0 ≤ (x1 : Int32).toInt ∧ (x1 : Int32).toInt ≤ 60 from b1)
    have hF : sgK WkX12_turnsTo f f_24 := sgK.put hF ef_24 (by rfl)
    exact hret _ _ _ _ f_24 L Q dX12_turnsTo_89 hP hS ⟨⟨hI, hF, rfl, rfl⟩, (Eq.trans (Eq.symm (hs.trans ((if_pos c_20).trans (spl_e ev_22 (spl_e ef_23 (spl_e ef_24 rfl)))))) hsp)⟩
  · skip
    have c_21 : 0 ≤ x2.toInt := (by first | exact (cm_nlt1 ti_0 c) | (have z := bn_nlt c; have k1 : (0 : Int32).toInt = 0 := ti_0; omega))
    refine lv_aload_n hx hb dX12_turnsTo_43 rfl (lv_at hl 2 rfl) ?_
    refine sl_gM_0_22_12 (v := (f_18 0 22)) hx hb hts hown hK hP rfl dX12_turnsTo_44 ?_
    refine lv_topi (fun v_25 ev_25 => ?_)
    have q_26 : 0 ≤ v_25.toInt ∧ v_25.toInt ≤ 487 := by rw [ev_25]; exact hI 0 22
    refine lv_iload_n hx hb dX12_turnsTo_47 rfl (lv_at hl 5 rfl) ?_
    refine sg_calli (va_runS (As := [.int v_25, .int x2]) (rest := [.int v_19, .ref (h 0)]) ⟨hx, hb, hml, hown, hts⟩ (kX12_isIn l D ca za h hh f_18 L Q hI v_25 x2 q_26 ⟨by omega, by omega⟩ H.size) (va_cwS 2 hts (gw_S (fun _ h => List.mem_cons_of_mem _ h) mw_832 mw_833 mw_619 mw_831) rfl rfl rfl hd_yX12_isIn.2 ⟨Nat.le_of_ble_eq_true rfl, Nat.le_of_ble_eq_true rfl⟩) (sg_preS hA hK hP hS hZ) rfl rfl hl.1 rfl (lv_room (Nat.le_of_ble_eq_true rfl)) dX12_turnsTo_48 ⟨Nat.le_refl _, Nat.le_refl _⟩) hA hS (fun r_30 f_27 L_28 Q_29 H locs hq hP hS => ?_)
    obtain ⟨⟨ef9, eL9, eQ9⟩, hq, u_31⟩ := hq
    replace hs := hs.trans ((if_neg (Int.not_lt.mpr c_21)).trans (spl_e ev_25 (spl_e u_31 rfl)))
    rw [ef9, eL9, eQ9] at hP; clear ef9 eL9 eQ9
    refine lv_if_eq (tgt := 76) hx hb dX12_turnsTo_51 (by decide) (fun c => ?_) (fun c => ?_)
    · skip
      have c_32 : r_30.toInt = 0 := (by first | exact (cm_eq1 ti_0 c) | (have z := Int32.toInt_inj.mpr c; have k1 : (0 : Int32).toInt = 0 := ti_0; omega))
      refine lv_iload hx hb dX12_turnsTo_76 (lv_at hl 0 rfl) ?_
      refine lv_iadd hx hb dX12_turnsTo_78 ?_
      refine lv_topi (fun v_34 ev_34 => ?_)
      refine sl_pM_0_31_12 (x := v_34) hx hb hts hown hh hA hK hP hS dX12_turnsTo_79 (fun f_35 H locs ef_35 hP hS => ?_)
      have hI : sgI loM hiM f_35 := by rw [ef_35]; exact sgI.put hI 0 31 (bn_top _)
      have hF : sgK WkX12_turnsTo f f_35 := sgK.put hF ef_35 (by rfl)
      refine lv_aload_n hx hb dX12_turnsTo_82 rfl (lv_at hl 2 rfl) ?_
      refine sl_gM_0_27_12 hx hb hts hown hK hP dX12_turnsTo_83 ?_
      refine lv_iload_n hx hb dX12_turnsTo_86 rfl (lv_at hl 3 rfl) ?_
      refine lv_iload_n hx hb dX12_turnsTo_87 rfl (lv_at hl 4 rfl) ?_
      refine sg_iast hx hb hh hA hK hP hS 12 (by decide) 0 (fun _ => rfl) rfl (i := x0) (x := x1) (vp_in_iff.mpr ⟨by omega, by omega⟩) dX12_turnsTo_88 (fun f_36 H locs ef_36 hP hS => ?_)
      have hI : sgI loM hiM f_36 := by rw [ef_36]; exact sgI.put hI 12 x0.toNatClampNeg (show 0 ≤ (x1 : Int32).toInt ∧ (x1 : Int32).toInt ≤ 60 from b1)
      have hF : sgK WkX12_turnsTo f f_36 := sgK.put hF ef_36 (by rfl)
      exact hret _ _ _ _ f_36 L Q dX12_turnsTo_89 hP hS ⟨⟨hI, hF, rfl, rfl⟩, (Eq.trans (Eq.symm (hs.trans ((if_pos c_32).trans (spl_e ev_34 (spl_e ef_35 (spl_e ef_36 rfl)))))) hsp)⟩
    · skip
      have c_33 : r_30.toInt ≠ 0 := (by first | exact (cm_ne1 ti_0 c) | (have z := bn_ne c; have k1 : (0 : Int32).toInt = 0 := ti_0; omega))
      refine lv_iload hx hb dX12_turnsTo_54 (lv_at hl 0 rfl) ?_
      refine lv_aload_n hx hb dX12_turnsTo_56 rfl (lv_at hl 2 rfl) ?_
      refine sl_gM_0_0_12 hx hb hts hown hK hP dX12_turnsTo_57 ?_
      refine lv_bipush (v := 70) hx hb dX12_turnsTo_60 bp_70 ?_
      refine sg_iald hx hb hK hP 1 (by decide) 0 rfl rfl (i := 70) (vp_in_iff.mpr (by decide)) dX12_turnsTo_62 ?_
      refine lv_topi (fun v_37 ev_37 => ?_)
      replace hs := hs.trans ((if_neg c_33).trans (spl_e ev_37 rfl))
      have q_38 : 70 < 64 → v_37.toInt ≤ 60 := by rw [ev_37]; have z1 := segM1_r hI (j := Int32.toNatClampNeg 70); have z2 := bn_clI (x := 70) (by have k0 : (70 : Int32).toInt = 70 := ti_70; omega); have k0 : (70 : Int32).toInt = 70 := ti_70; intro z3; exact (z1.2.2 (by omega)).2
      have q_39 : 0 ≤ v_37.toInt ∧ v_37.toInt ≤ 99 := by rw [ev_37]; have z1 := segM1_r hI (j := Int32.toNatClampNeg 70); have z2 := bn_clI (x := 70) (by have k0 : (70 : Int32).toInt = 70 := ti_70; omega); have k0 : (70 : Int32).toInt = 70 := ti_70; omega
      refine lv_icmp_le (tgt := 76) hx hb dX12_turnsTo_63 (by decide) (fun c => ?_) (fun c => ?_)
      · skip
        have c_40 : v_15.toInt ≤ v_37.toInt := (by first | exact (bn_le c) | (have z := bn_le c; omega))
        refine lv_iload hx hb dX12_turnsTo_76 (lv_at hl 0 rfl) ?_
        refine lv_iadd hx hb dX12_turnsTo_78 ?_
        refine lv_topi (fun v_42 ev_42 => ?_)
        refine sl_pM_0_31_12 (x := v_42) hx hb hts hown hh hA hK hP hS dX12_turnsTo_79 (fun f_43 H locs ef_43 hP hS => ?_)
        have hI : sgI loM hiM f_43 := by rw [ef_43]; exact sgI.put hI 0 31 (bn_top _)
        have hF : sgK WkX12_turnsTo f f_43 := sgK.put hF ef_43 (by rfl)
        refine lv_aload_n hx hb dX12_turnsTo_82 rfl (lv_at hl 2 rfl) ?_
        refine sl_gM_0_27_12 hx hb hts hown hK hP dX12_turnsTo_83 ?_
        refine lv_iload_n hx hb dX12_turnsTo_86 rfl (lv_at hl 3 rfl) ?_
        refine lv_iload_n hx hb dX12_turnsTo_87 rfl (lv_at hl 4 rfl) ?_
        refine sg_iast hx hb hh hA hK hP hS 12 (by decide) 0 (fun _ => rfl) rfl (i := x0) (x := x1) (vp_in_iff.mpr ⟨by omega, by omega⟩) dX12_turnsTo_88 (fun f_44 H locs ef_44 hP hS => ?_)
        have hI : sgI loM hiM f_44 := by rw [ef_44]; exact sgI.put hI 12 x0.toNatClampNeg (show 0 ≤ (x1 : Int32).toInt ∧ (x1 : Int32).toInt ≤ 60 from b1)
        have hF : sgK WkX12_turnsTo f f_44 := sgK.put hF ef_44 (by rfl)
        exact hret _ _ _ _ f_44 L Q dX12_turnsTo_89 hP hS ⟨⟨hI, hF, rfl, rfl⟩, (Eq.trans (Eq.symm (hs.trans ((if_neg (Int.not_lt.mpr c_40)).trans (spl_e ev_42 (spl_e ef_43 (spl_e ef_44 rfl)))))) hsp)⟩
      · skip
        have c_41 : v_37.toInt < v_15.toInt := (by first | exact (bn_nle c) | (have z := bn_nle c; omega))
        refine lv_aload_n hx hb dX12_turnsTo_66 rfl (lv_at hl 2 rfl) ?_
        refine sl_gM_0_0_12 hx hb hts hown hK hP dX12_turnsTo_67 ?_
        refine lv_bipush (v := 70) hx hb dX12_turnsTo_70 bp_70 ?_
        refine sg_iald hx hb hK hP 1 (by decide) 0 rfl rfl (i := 70) (vp_in_iff.mpr (by decide)) dX12_turnsTo_72 ?_
        refine W.eq (g2 := F0 m 73 ls [.int v_37, .int v_19, .ref (h 0)]) (by rw [show f_18 1 (Int32.toNatClampNeg 70) = v_37 from ev_37.symm]) ?_
        refine lv_goto (tgt := 78) hx hb dX12_turnsTo_73 (by decide) ?_
        refine lv_iadd hx hb dX12_turnsTo_78 ?_
        refine lv_topi (fun v_45 ev_45 => ?_)
        refine sl_pM_0_31_12 (x := v_45) hx hb hts hown hh hA hK hP hS dX12_turnsTo_79 (fun f_46 H locs ef_46 hP hS => ?_)
        have hI : sgI loM hiM f_46 := by rw [ef_46]; exact sgI.put hI 0 31 (bn_top _)
        have hF : sgK WkX12_turnsTo f f_46 := sgK.put hF ef_46 (by rfl)
        refine lv_aload_n hx hb dX12_turnsTo_82 rfl (lv_at hl 2 rfl) ?_
        refine sl_gM_0_27_12 hx hb hts hown hK hP dX12_turnsTo_83 ?_
        refine lv_iload_n hx hb dX12_turnsTo_86 rfl (lv_at hl 3 rfl) ?_
        refine lv_iload_n hx hb dX12_turnsTo_87 rfl (lv_at hl 4 rfl) ?_
        refine sg_iast hx hb hh hA hK hP hS 12 (by decide) 0 (fun _ => rfl) rfl (i := x0) (x := x1) (vp_in_iff.mpr ⟨by omega, by omega⟩) dX12_turnsTo_88 (fun f_47 H locs ef_47 hP hS => ?_)
        have hI : sgI loM hiM f_47 := by rw [ef_47]; exact sgI.put hI 12 x0.toNatClampNeg (show 0 ≤ (x1 : Int32).toInt ∧ (x1 : Int32).toInt ≤ 60 from b1)
        have hF : sgK WkX12_turnsTo f f_47 := sgK.put hF ef_47 (by rfl)
        exact hret _ _ _ _ f_47 L Q dX12_turnsTo_89 hP hS ⟨⟨hI, hF, rfl, rfl⟩, (Eq.trans (Eq.symm (hs.trans ((if_pos c_41).trans (spl_e ev_45 (spl_e ef_46 (spl_e ef_47 rfl)))))) hsp)⟩

abbrev WkX12_comes : List (Nat × Nat × Option Nat) := [(0, 0, some 12), (0, 0, some 13), (0, 0, some 14), (0, 0, some 15), (0, 0, some 16), (0, 0, some 29), (0, 0, some 30), (0, 0, some 31), (8, 8, none), (12, 12, none)]
set_option maxHeartbeats 4000000 in
set_option maxRecDepth 100000 in
theorem kX12_comes (l : Launch) (D : va_G) (ca : Nat → ClassId) (za h : Nat → Nat) (hh : sgH 26 h) (f : sg_F) (L : sg_L) (Q : sg_Q) (hI : sgI loM hiM f) (x0 : Int32) (b0 : 0 ≤ x0.toInt ∧ x0.toInt ≤ 7) (sz : Nat) : Met l yX12_comes gwX12_comes { frames := 45, cells := 0, slots := 0, locals := 1032 } (sgP D vwCl (tyX ca) 26 h (eM ca h) zcM za f L Q sz [.ref (h 0), .int x0]) (sgQv D vwCl 26 h (eM ca h) sz (fun f1 L1 Q1 => ((sgI loM hiM f1 ∧ sgK WkX12_comes f f1 ∧ L1 = L ∧ Q1 = Q) ∧ (f1) = sX12_comes x0 f L))) 0 0 (sgA 26 h sz) := by
  refine sg_ofWv (cc := cX12_comes) (maxL := 4) RX12 (by decide) rfl rfl (Nat.le_of_ble_eq_true rfl) ?_
  intro p e s m below meth cd Qz ls hx hb hml hown hts hK hZ hP hS hl hret
  have hA := sgY.self (n := 26) (h := h) (sz := s.heap.size)
  have hl : lv_has ls 4 [(0, .ref (h 0)), (1, .int x0)] := hl
  obtain ⟨H, hH⟩ : ∃ z : Heap, z = s.heap := ⟨_, rfl⟩
  obtain ⟨locs, hlo⟩ : ∃ z : List Loc, z = [] := ⟨_, rfl⟩
  have hP : va_P D vwCl (sgw 26 h (eM ca h) f L Q) H := by rw [hH]; exact hP
  have hS : va_S (sgA 26 h s.heap.size) s.heap H locs := by rw [hH, hlo]; exact hS
  suffices hgo : W p l e ({ frames := 45, cells := 0, slots := 0, locals := 1032 }) s m ([.ref (h 0), .int x0] : List Value).toArray below meth cd H locs 0 0 Qz (F0 m 0 ls []) by rw [hH, hlo] at hgo; exact hgo
  clear hH hlo
  obtain ⟨sp, hsp⟩ : ∃ z : sg_F, z = sX12_comes x0 f L := ⟨_, rfl⟩
  have hs : sp = sX12_comes x0 f L := hsp
  have hF : sgK WkX12_comes f f := sgK.rf
  have loop_82 : ∀ (n_82 : Nat) (y2_82 : Int32) (fp_82 : sg_F) (H : Heap) (locs : List Loc) (ls : Array Slot), sp = sX12_comes_l82 x0 n_82 y2_82 fp_82 L → 3 - y2_82.toInt < (n_82 : Int) → 0 ≤ y2_82.toInt ∧ y2_82.toInt ≤ 3 → sgI loM hiM fp_82 → sgK WkX12_comes f fp_82 → va_P D vwCl (sgw 26 h (eM ca h) fp_82 L Q) H → va_S (sgA 26 h s.heap.size) s.heap H locs → lv_has ls 4 [(0, .ref (h 0)), (1, .int x0), (2, .int y2_82)] → W p l e ({ frames := 45, cells := 0, slots := 0, locals := 1032 }) s m ([.ref (h 0), .int x0] : List Value).toArray below meth cd H locs 0 0 Qz (F0 m 82 ls []) := by
    intro n_82
    induction n_82 with
    | zero => intro y2_82 fp_82 H locs ls hs hm_82 hy0_82 hI hF hP hS hl; exact absurd hm_82 (by omega)
    | succ n_82 ih_82 =>
      intro y2_82 fp_82 H locs ls hs hm_82 hy0_82 hI hF hP hS hl
      have hs : sp = sX12_comes_h82 x0 (sX12_comes_l82 x0 n_82) y2_82 fp_82 L := hs
      refine lv_iload_n hx hb dX12_comes_82 rfl (lv_at hl 2 rfl) ?_
      refine lv_iconst (v := 3) hx hb dX12_comes_83 ic_3 ?_
      refine lv_icmp_ge (tgt := 111) hx hb dX12_comes_84 (by decide) (fun c => ?_) (fun c => ?_)
      · skip
        have c_1 : 3 ≤ y2_82.toInt := (by first | exact (cm_le0 ti_3 c) | (have z := bn_le c; have k1 : (3 : Int32).toInt = 3 := ti_3; omega))
        exact hret _ _ _ _ fp_82 L Q dX12_comes_111 hP hS ⟨⟨hI, hF, rfl, rfl⟩, (Eq.trans (Eq.symm (hs.trans (((if_neg (Int.not_lt.mpr c_1)).trans rfl)))) hsp)⟩
      · skip
        have c_2 : y2_82.toInt < 3 := (by first | exact (cm_nle0 ti_3 c) | (have z := bn_nle c; have k1 : (3 : Int32).toInt = 3 := ti_3; omega))
        refine lv_iload_n hx hb dX12_comes_87 rfl (lv_at hl 1 rfl) ?_
        refine lv_aload_n hx hb dX12_comes_88 rfl (lv_at hl 0 rfl) ?_
        refine sl_gM_0_24_12 (v := (fp_82 0 24)) hx hb hts hown hK hP rfl dX12_comes_89 ?_
        refine lv_topi (fun v_3 ev_3 => ?_)
        replace hs := hs.trans ((if_pos c_2).trans (spl_e ev_3 rfl))
        have q_4 : (-1) ≤ v_3.toInt ∧ v_3.toInt ≤ 7 := by rw [ev_3]; exact hI 0 24
        refine lv_icmp_ne (tgt := 111) hx hb dX12_comes_92 (by decide) (fun c => ?_) (fun c => ?_)
        · skip
          have c_5 : x0.toInt ≠ v_3.toInt := (by first | exact (bn_ne c) | (have z := bn_ne c; omega))
          exact hret _ _ _ _ fp_82 L Q dX12_comes_111 hP hS ⟨⟨hI, hF, rfl, rfl⟩, (Eq.trans (Eq.symm (hs.trans ((if_neg c_5).trans rfl))) hsp)⟩
        · skip
          have c_6 : x0.toInt = v_3.toInt := (by first | exact (Int32.toInt_inj.mpr c) | (have z := Int32.toInt_inj.mpr c; omega))
          refine lv_aload_n hx hb dX12_comes_95 rfl (lv_at hl 0 rfl) ?_
          refine lv_iload_n hx hb dX12_comes_96 rfl (lv_at hl 2 rfl) ?_
          refine lv_aload_n hx hb dX12_comes_97 rfl (lv_at hl 0 rfl) ?_
          refine sl_gM_0_25_12 (v := (fp_82 0 25)) hx hb hts hown hK hP rfl dX12_comes_98 ?_
          refine lv_topi (fun v_7 ev_7 => ?_)
          have q_8 : 0 ≤ v_7.toInt ∧ v_7.toInt ≤ 60 := by rw [ev_7]; exact hI 0 25
          refine lv_iconst (v := (-1)) hx hb dX12_comes_101 ic_m1 ?_
          refine sg_callv (va_runV (As := [.int y2_82, .int v_7, .int (-1)]) (rest := []) ⟨hx, hb, hml, hown, hts⟩ (kX12_turnsTo l D ca za h hh fp_82 L Q hI y2_82 v_7 (-1) ⟨by omega, by omega⟩ q_8 (by decide) H.size) (sl_c12_turnsTo_1_0_0_21_12 hts ⟨Nat.le_of_ble_eq_true rfl, Nat.le_of_ble_eq_true rfl⟩) (sl_vM_0 hA hK hP hS hZ) rfl rfl hl.1 rfl (lv_room (Nat.le_of_ble_eq_true rfl)) dX12_comes_102 ⟨Nat.le_refl _, Nat.le_refl _⟩) hA hS (fun f_9 L_10 Q_11 H locs hq hP hS => ?_)
          obtain ⟨⟨hI, hk_f_9, eL9, eQ9⟩, u_12⟩ := hq
          rw [eL9, eQ9] at hP; clear eL9 eQ9
          have hF : sgK WkX12_comes f f_9 := sgK.tr hF hk_f_9 (by decide +kernel)
          obtain ⟨v_13, ev_13⟩ : ∃ z : Int32, z = y2_82 + 1 := ⟨_, rfl⟩
          have q_14 : v_13.toInt = y2_82.toInt + 1 := by rw [ev_13]; exact (bn_addc y2_82 1 (by decide) (by omega) (by omega))
          refine lv_iinc (v := v_13) (lv' := [(2, .int v_13), (0, .ref (h 0)), (1, .int x0)]) hx hb dX12_comes_105 hl (k := 2) rfl (by rw [ev_13]; rfl) (by decide) rfl (fun ls hl => ?_)
          refine lv_goto (tgt := 82) hx hb dX12_comes_108 (by decide) ?_
          exact ih_82 v_13 f_9 _ _ _ (hs.trans ((if_pos c_6).trans (spl_e ev_7 (spl_e u_12 (spl_e ev_13 rfl))))) (by omega) ⟨by omega, by omega⟩ hI hF hP hS (lv_sub hl [1, 2, 0] rfl)
  have loop_48 : ∀ (n_48 : Nat) (y2_48 : Int32) (fp_48 : sg_F) (H : Heap) (locs : List Loc) (ls : Array Slot), sp = sX12_comes_l48 x0 n_48 y2_48 fp_48 L → 3 - y2_48.toInt < (n_48 : Int) → 0 ≤ y2_48.toInt ∧ y2_48.toInt ≤ 3 → sgI loM hiM fp_48 → sgK WkX12_comes f fp_48 → va_P D vwCl (sgw 26 h (eM ca h) fp_48 L Q) H → va_S (sgA 26 h s.heap.size) s.heap H locs → lv_has ls 4 [(0, .ref (h 0)), (1, .int x0), (2, .int y2_48)] → W p l e ({ frames := 45, cells := 0, slots := 0, locals := 1032 }) s m ([.ref (h 0), .int x0] : List Value).toArray below meth cd H locs 0 0 Qz (F0 m 48 ls []) := by
    intro n_48
    induction n_48 with
    | zero => intro y2_48 fp_48 H locs ls hs hm_48 hy0_48 hI hF hP hS hl; exact absurd hm_48 (by omega)
    | succ n_48 ih_48 =>
      intro y2_48 fp_48 H locs ls hs hm_48 hy0_48 hI hF hP hS hl
      have hs : sp = sX12_comes_h48 x0 (sX12_comes_l48 x0 n_48) y2_48 fp_48 L := hs
      refine lv_iload_n hx hb dX12_comes_48 rfl (lv_at hl 2 rfl) ?_
      refine lv_iconst (v := 3) hx hb dX12_comes_49 ic_3 ?_
      refine lv_icmp_ge (tgt := 80) hx hb dX12_comes_50 (by decide) (fun c => ?_) (fun c => ?_)
      · skip
        have c_15 : 3 ≤ y2_48.toInt := (by first | exact (cm_le0 ti_3 c) | (have z := bn_le c; have k1 : (3 : Int32).toInt = 3 := ti_3; omega))
        refine lv_iconst (v := 0) hx hb dX12_comes_80 ic_0 ?_
        refine lv_istore_n (lv' := [(2, .int 0), (0, .ref (h 0)), (1, .int x0)]) hx hb dX12_comes_81 rfl hl (by decide) rfl (fun ls hl => ?_)
        exact loop_82 4 0 fp_48 _ _ _ (hs.trans (((if_neg (Int.not_lt.mpr c_15)).trans rfl))) (by have kc0 : (0 : Int32).toInt = 0 := ti_0; omega) (by decide) hI hF hP hS (lv_sub hl [1, 2, 0] rfl)
      · skip
        have c_16 : y2_48.toInt < 3 := (by first | exact (cm_nle0 ti_3 c) | (have z := bn_nle c; have k1 : (3 : Int32).toInt = 3 := ti_3; omega))
        refine lv_aload_n hx hb dX12_comes_53 rfl (lv_at hl 0 rfl) ?_
        refine lv_dup hx hb dX12_comes_54 rfl ?_
        refine sl_gM_0_30_12 (v := (fp_48 0 30)) hx hb hts hown hK hP rfl dX12_comes_55 ?_
        refine lv_topi (fun v_17 ev_17 => ?_)
        refine lv_aload_n hx hb dX12_comes_58 rfl (lv_at hl 0 rfl) ?_
        refine lv_iload_n hx hb dX12_comes_59 rfl (lv_at hl 1 rfl) ?_
        refine lv_iload_n hx hb dX12_comes_60 rfl (lv_at hl 2 rfl) ?_
        refine lv_aload_n hx hb dX12_comes_61 rfl (lv_at hl 0 rfl) ?_
        refine sl_gM_0_27_12 hx hb hts hown hK hP dX12_comes_62 ?_
        refine lv_iload_n hx hb dX12_comes_65 rfl (lv_at hl 2 rfl) ?_
        refine sg_iald hx hb hK hP 12 (by decide) 0 rfl rfl (i := y2_48) (vp_in_iff.mpr ⟨by omega, by omega⟩) dX12_comes_66 ?_
        refine lv_topi (fun v_18 ev_18 => ?_)
        have q_19 : 0 ≤ v_18.toInt ∧ v_18.toInt ≤ 60 := by rw [ev_18]; exact hI 12 _
        refine sg_calli (va_runV (As := [.int x0, .int y2_48, .int v_18]) (rest := [.int v_17, .ref (h 0)]) ⟨hx, hb, hml, hown, hts⟩ (kX12_lossOf l D ca za h hh fp_48 L Q hI x0 y2_48 v_18 b0 ⟨by omega, by omega⟩ q_19 H.size) (sl_c12_lossOf_44_0_0_1006_12 hts ⟨Nat.le_of_ble_eq_true rfl, Nat.le_of_ble_eq_true rfl⟩) (sl_vM_0 hA hK hP hS hZ) rfl rfl hl.1 rfl (lv_room (Nat.le_of_ble_eq_true rfl)) dX12_comes_67 ⟨Nat.le_refl _, Nat.le_refl _⟩) hA hS (fun r_23 f_20 L_21 Q_22 H locs hq hP hS => ?_)
        obtain ⟨⟨hI, hk_f_20, eL9, eQ9⟩, hq, u_24⟩ := hq
        rw [eL9, eQ9] at hP; clear eL9 eQ9
        have hF : sgK WkX12_comes f f_20 := sgK.tr hF hk_f_20 (by decide +kernel)
        refine lv_iadd hx hb dX12_comes_70 ?_
        refine lv_topi (fun v_25 ev_25 => ?_)
        refine sl_pM_0_30_12 (x := v_25) hx hb hts hown hh hA hK hP hS dX12_comes_71 (fun f_26 H locs ef_26 hP hS => ?_)
        have hI : sgI loM hiM f_26 := by rw [ef_26]; exact sgI.put hI 0 30 (bn_top _)
        have hF : sgK WkX12_comes f f_26 := sgK.put hF ef_26 (by rfl)
        obtain ⟨v_27, ev_27⟩ : ∃ z : Int32, z = y2_48 + 1 := ⟨_, rfl⟩
        have q_28 : v_27.toInt = y2_48.toInt + 1 := by rw [ev_27]; exact (bn_addc y2_48 1 (by decide) (by omega) (by omega))
        refine lv_iinc (v := v_27) (lv' := [(2, .int v_27), (0, .ref (h 0)), (1, .int x0)]) hx hb dX12_comes_74 hl (k := 2) rfl (by rw [ev_27]; rfl) (by decide) rfl (fun ls hl => ?_)
        refine lv_goto (tgt := 48) hx hb dX12_comes_77 (by decide) ?_
        exact ih_48 v_27 f_26 _ _ _ (hs.trans (((if_pos c_16).trans (spl_e ev_17 (spl_e ev_18 (spl2_e u_24 (spl_e ev_25 (spl_e ef_26 (spl_e ev_27 rfl))))))))) (by omega) ⟨by omega, by omega⟩ hI hF hP hS (lv_sub hl [1, 2, 0] rfl)
  have loop_2 : ∀ (n_2 : Nat) (y2_2 : Int32) (fp_2 : sg_F) (H : Heap) (locs : List Loc) (ls : Array Slot), sp = sX12_comes_l2 x0 n_2 y2_2 fp_2 L → 3 - y2_2.toInt < (n_2 : Int) → 0 ≤ y2_2.toInt ∧ y2_2.toInt ≤ 3 → sgI loM hiM fp_2 → sgK WkX12_comes f fp_2 → va_P D vwCl (sgw 26 h (eM ca h) fp_2 L Q) H → va_S (sgA 26 h s.heap.size) s.heap H locs → lv_has ls 4 [(0, .ref (h 0)), (1, .int x0), (2, .int y2_2)] → W p l e ({ frames := 45, cells := 0, slots := 0, locals := 1032 }) s m ([.ref (h 0), .int x0] : List Value).toArray below meth cd H locs 0 0 Qz (F0 m 2 ls []) := by
    intro n_2
    induction n_2 with
    | zero => intro y2_2 fp_2 H locs ls hs hm_2 hy0_2 hI hF hP hS hl; exact absurd hm_2 (by omega)
    | succ n_2 ih_2 =>
      have blk_40 : ∀ (y2_40 : Int32) (fp_40 : sg_F) (H : Heap) (locs : List Loc) (ls : Array Slot), sp = sX12_comes_b40 (sX12_comes_l2 x0 n_2) x0 y2_40 fp_40 L → 3 - y2_40.toInt < ((n_2 + 1 : Nat) : Int) → 0 ≤ y2_40.toInt ∧ y2_40.toInt ≤ 2 → sgI loM hiM fp_40 → sgK WkX12_comes f fp_40 → va_P D vwCl (sgw 26 h (eM ca h) fp_40 L Q) H → va_S (sgA 26 h s.heap.size) s.heap H locs → lv_has ls 4 [(0, .ref (h 0)), (1, .int x0), (2, .int y2_40)] → W p l e ({ frames := 45, cells := 0, slots := 0, locals := 1032 }) s m ([.ref (h 0), .int x0] : List Value).toArray below meth cd H locs 0 0 Qz (F0 m 40 ls []) := by
        intro y2_40 fp_40 H locs ls hs hm_2 hy0_40 hI hF hP hS hl
        obtain ⟨v_29, ev_29⟩ : ∃ z : Int32, z = y2_40 + 1 := ⟨_, rfl⟩
        have q_30 : v_29.toInt = y2_40.toInt + 1 := by rw [ev_29]; exact (bn_addc y2_40 1 (by decide) (by omega) (by omega))
        refine lv_iinc (v := v_29) (lv' := [(2, .int v_29), (0, .ref (h 0)), (1, .int x0)]) hx hb dX12_comes_40 hl (k := 2) rfl (by rw [ev_29]; rfl) (by decide) rfl (fun ls hl => ?_)
        refine lv_goto (tgt := 2) hx hb dX12_comes_43 (by decide) ?_
        exact ih_2 v_29 fp_40 _ _ _ (hs.trans ((spl_e ev_29 rfl))) (by omega) ⟨by omega, by omega⟩ hI hF hP hS (lv_sub hl [1, 2, 0] rfl)
      intro y2_2 fp_2 H locs ls hs hm_2 hy0_2 hI hF hP hS hl
      have hs : sp = sX12_comes_h2 x0 (sX12_comes_l2 x0 n_2) y2_2 fp_2 L := hs
      refine lv_iload_n hx hb dX12_comes_2 rfl (lv_at hl 2 rfl) ?_
      refine lv_iconst (v := 3) hx hb dX12_comes_3 ic_3 ?_
      refine lv_icmp_ge (tgt := 46) hx hb dX12_comes_4 (by decide) (fun c => ?_) (fun c => ?_)
      · skip
        have c_31 : 3 ≤ y2_2.toInt := (by first | exact (cm_le0 ti_3 c) | (have z := bn_le c; have k1 : (3 : Int32).toInt = 3 := ti_3; omega))
        refine lv_iconst (v := 0) hx hb dX12_comes_46 ic_0 ?_
        refine lv_istore_n (lv' := [(2, .int 0), (0, .ref (h 0)), (1, .int x0)]) hx hb dX12_comes_47 rfl hl (by decide) rfl (fun ls hl => ?_)
        exact loop_48 4 0 fp_2 _ _ _ (hs.trans (((if_neg (Int.not_lt.mpr c_31)).trans rfl))) (by have kc0 : (0 : Int32).toInt = 0 := ti_0; omega) (by decide) hI hF hP hS (lv_sub hl [1, 2, 0] rfl)
      · skip
        have c_32 : y2_2.toInt < 3 := (by first | exact (cm_nle0 ti_3 c) | (have z := bn_nle c; have k1 : (3 : Int32).toInt = 3 := ti_3; omega))
        refine lv_aload_n hx hb dX12_comes_7 rfl (lv_at hl 0 rfl) ?_
        refine lv_iload_n hx hb dX12_comes_8 rfl (lv_at hl 1 rfl) ?_
        refine lv_iload_n hx hb dX12_comes_9 rfl (lv_at hl 2 rfl) ?_
        refine sg_calli (va_runV (As := [.int x0, .int y2_2]) (rest := []) ⟨hx, hb, hml, hown, hts⟩ (kX12_numberOf l D ca za h hh fp_2 L Q hI x0 y2_2 b0 ⟨by omega, by omega⟩ H.size) (sl_c12_numberOf_0_0_0_0_12 hts ⟨Nat.le_of_ble_eq_true rfl, Nat.le_of_ble_eq_true rfl⟩) (sl_vM_0 hA hK hP hS hZ) rfl rfl hl.1 rfl (lv_room (Nat.le_of_ble_eq_true rfl)) dX12_comes_10 ⟨Nat.le_refl _, Nat.le_refl _⟩) hA hS (fun r_36 f_33 L_34 Q_35 H locs hq hP hS => ?_)
        obtain ⟨⟨ef9, eL9, eQ9⟩, hq, u_37⟩ := hq
        rw [ef9, eL9, eQ9] at hP; clear ef9 eL9 eQ9
        refine lv_istore_n (lv' := [(3, .int r_36), (0, .ref (h 0)), (1, .int x0), (2, .int y2_2)]) hx hb dX12_comes_13 rfl hl (by decide) rfl (fun ls hl => ?_)
        refine lv_iload_n hx hb dX12_comes_14 rfl (lv_at hl 0 rfl) ?_
        refine lv_aload_n hx hb dX12_comes_15 rfl (lv_at hl 1 rfl) ?_
        refine sl_gM_0_27_12 hx hb hts hown hK hP dX12_comes_16 ?_
        refine lv_iload_n hx hb dX12_comes_19 rfl (lv_at hl 3 rfl) ?_
        refine sg_iald hx hb hK hP 12 (by decide) 0 rfl rfl (i := y2_2) (vp_in_iff.mpr ⟨by omega, by omega⟩) dX12_comes_20 ?_
        refine lv_topi (fun v_38 ev_38 => ?_)
        have q_39 : 0 ≤ v_38.toInt ∧ v_38.toInt ≤ 60 := by rw [ev_38]; exact hI 12 _
        refine lv_isub hx hb dX12_comes_21 ?_
        refine lv_topi (fun v_40 ev_40 => ?_)
        have q_41 : v_40.toInt = r_36.toInt - v_38.toInt := by rw [ev_40]; first | exact bn_subI (by omega) (by omega) | exact (bn_subI (by omega) (by omega)).trans (by omega)
        refine sg_calli (va_runS (As := [.int v_40]) (rest := []) ⟨hx, hb, hml, hown, hts⟩ (kX12_sizeOf l D ca za h hh fp_2 L Q hI v_40 ⟨by omega, by omega⟩ H.size) (va_cwS 1 hts (gw_S (fun _ h => List.mem_cons_of_mem _ h) mw_682 mw_683 mw_619 mw_681) rfl rfl rfl hd_yX12_sizeOf.2 ⟨Nat.le_of_ble_eq_true rfl, Nat.le_of_ble_eq_true rfl⟩) (sg_preS hA hK hP hS hZ) rfl rfl hl.1 rfl (lv_room (Nat.le_of_ble_eq_true rfl)) dX12_comes_22 ⟨Nat.le_refl _, Nat.le_refl _⟩) hA hS (fun r_45 f_42 L_43 Q_44 H locs hq hP hS => ?_)
        obtain ⟨⟨ef9, eL9, eQ9⟩, hq, u_46⟩ := hq
        rw [ef9, eL9, eQ9] at hP; clear ef9 eL9 eQ9
        refine lv_aload_n hx hb dX12_comes_25 rfl (lv_at hl 1 rfl) ?_
        refine lv_iload_n hx hb dX12_comes_26 rfl (lv_at hl 2 rfl) ?_
        refine sg_calli (va_runV (As := [.int x0]) (rest := [.int r_45]) ⟨hx, hb, hml, hown, hts⟩ (kX12_nearBy l D ca za h hh fp_2 L Q hI x0 b0 H.size) (sl_c12_nearBy_1_0_0_22_12 hts ⟨Nat.le_of_ble_eq_true rfl, Nat.le_of_ble_eq_true rfl⟩) (sl_vM_0 hA hK hP hS hZ) rfl rfl hl.1 rfl (lv_room (Nat.le_of_ble_eq_true rfl)) dX12_comes_27 ⟨Nat.le_refl _, Nat.le_refl _⟩) hA hS (fun r_50 f_47 L_48 Q_49 H locs hq hP hS => ?_)
        obtain ⟨⟨ef9, eL9, eQ9⟩, hq, u_51⟩ := hq
        replace hs := hs.trans ((if_pos c_32).trans (spl_e u_37 (spl_e ev_38 (spl_e ev_40 (spl_e u_46 (spl_e u_51 rfl))))))
        rw [ef9, eL9, eQ9] at hP; clear ef9 eL9 eQ9
        refine lv_icmp_le (tgt := 40) hx hb dX12_comes_30 (by decide) (fun c => ?_) (fun c => ?_)
        · skip
          have c_52 : r_45.toInt ≤ r_50.toInt := (by first | exact (bn_le c) | (have z := bn_le c; omega))
          exact blk_40 y2_2 fp_2 _ _ _ (hs.trans ((if_neg (Int.not_lt.mpr c_52)).trans rfl)) (by omega) ⟨by omega, by omega⟩ hI hF hP hS (lv_sub hl [1, 2, 3] rfl)
        · skip
          have c_53 : r_50.toInt < r_45.toInt := (by first | exact (bn_nle c) | (have z := bn_nle c; omega))
          refine lv_aload_n hx hb dX12_comes_33 rfl (lv_at hl 1 rfl) ?_
          refine lv_iload_n hx hb dX12_comes_34 rfl (lv_at hl 3 rfl) ?_
          refine lv_iload_n hx hb dX12_comes_35 rfl (lv_at hl 0 rfl) ?_
          refine lv_iload_n hx hb dX12_comes_36 rfl (lv_at hl 2 rfl) ?_
          refine sg_callv (va_runV (As := [.int y2_2, .int r_36, .int x0]) (rest := []) ⟨hx, hb, hml, hown, hts⟩ (kX12_turnsTo l D ca za h hh fp_2 L Q hI y2_2 r_36 x0 ⟨by omega, by omega⟩ ⟨by omega, by omega⟩ ⟨by omega, by omega⟩ H.size) (sl_c12_turnsTo_1_0_0_21_12 hts ⟨Nat.le_of_ble_eq_true rfl, Nat.le_of_ble_eq_true rfl⟩) (sl_vM_0 hA hK hP hS hZ) rfl rfl hl.1 rfl (lv_room (Nat.le_of_ble_eq_true rfl)) dX12_comes_37 ⟨Nat.le_refl _, Nat.le_refl _⟩) hA hS (fun f_54 L_55 Q_56 H locs hq hP hS => ?_)
          obtain ⟨⟨hI, hk_f_54, eL9, eQ9⟩, u_57⟩ := hq
          rw [eL9, eQ9] at hP; clear eL9 eQ9
          have hF : sgK WkX12_comes f f_54 := sgK.tr hF hk_f_54 (by decide +kernel)
          exact blk_40 y2_2 f_54 _ _ _ (hs.trans ((if_pos c_53).trans (spl_e u_57 rfl))) (by omega) ⟨by omega, by omega⟩ hI hF hP hS (lv_sub hl [1, 2, 3] rfl)
  refine lv_iconst (v := 0) hx hb dX12_comes_0 ic_0 ?_
  refine lv_istore_n (lv' := [(2, .int 0), (0, .ref (h 0)), (1, .int x0)]) hx hb dX12_comes_1 rfl hl (by decide) rfl (fun ls hl => ?_)
  exact loop_2 4 0 f _ _ _ hs (by have kc0 : (0 : Int32).toInt = 0 := ti_0; omega) (by decide) hI hF hP hS (lv_sub hl [1, 2, 0] rfl)

abbrev WkX12_weekOf : List (Nat × Nat × Option Nat) := [(0, 0, some 12), (0, 0, some 13), (0, 0, some 14), (0, 0, some 15), (0, 0, some 16), (0, 0, some 29), (0, 0, some 30), (0, 0, some 31), (8, 8, none), (12, 12, none), (13, 13, none)]
set_option maxHeartbeats 4000000 in
set_option maxRecDepth 100000 in
theorem kX12_weekOf (l : Launch) (D : va_G) (ca : Nat → ClassId) (za h : Nat → Nat) (hh : sgH 26 h) (f : sg_F) (L : sg_L) (Q : sg_Q) (hI : sgI loM hiM f) (x0 : Int32) (b0 : 0 ≤ x0.toInt ∧ x0.toInt ≤ 5) (sz : Nat) : Met l yX12_weekOf gwX12_weekOf { frames := 46, cells := 0, slots := 0, locals := 1055 } (sgP D vwCl (tyX ca) 26 h (eM ca h) zcM za f L Q sz [.ref (h 0), .int x0]) (sgQi D vwCl 26 h (eM ca h) sz (fun r f1 L1 Q1 => ((sgI loM hiM f1 ∧ sgK WkX12_weekOf f f1 ∧ L1 = L ∧ Q1 = Q) ∧ True ∧ (r, f1) = sX12_weekOf x0 f L))) 0 0 (sgA 26 h sz) := by
  refine sg_ofWi (cc := cX12_weekOf) (maxL := 5) RX12 (by decide) rfl rfl (Nat.le_of_ble_eq_true rfl) ?_
  intro p e s m below meth cd Qz ls hx hb hml hown hts hK hZ hP hS hl hret
  have hA := sgY.self (n := 26) (h := h) (sz := s.heap.size)
  have hl : lv_has ls 5 [(0, .ref (h 0)), (1, .int x0)] := hl
  obtain ⟨H, hH⟩ : ∃ z : Heap, z = s.heap := ⟨_, rfl⟩
  obtain ⟨locs, hlo⟩ : ∃ z : List Loc, z = [] := ⟨_, rfl⟩
  have hP : va_P D vwCl (sgw 26 h (eM ca h) f L Q) H := by rw [hH]; exact hP
  have hS : va_S (sgA 26 h s.heap.size) s.heap H locs := by rw [hH, hlo]; exact hS
  suffices hgo : W p l e ({ frames := 46, cells := 0, slots := 0, locals := 1055 }) s m ([.ref (h 0), .int x0] : List Value).toArray below meth cd H locs 0 0 Qz (F0 m 0 ls []) by rw [hH, hlo] at hgo; exact hgo
  clear hH hlo
  obtain ⟨sp, hsp⟩ : ∃ z : Int32 × sg_F, z = sX12_weekOf x0 f L := ⟨_, rfl⟩
  have hs : sp = sX12_weekOf x0 f L := hsp
  have hF : sgK WkX12_weekOf f f := sgK.rf
  have loop_6 : ∀ (n_6 : Nat) (y2_6 : Int32) (fp_6 : sg_F) (H : Heap) (locs : List Loc) (ls : Array Slot), sp = sX12_weekOf_l6 x0 n_6 y2_6 fp_6 L → 21 - y2_6.toInt < (n_6 : Int) → 0 ≤ y2_6.toInt ∧ y2_6.toInt ≤ 21 → sgI loM hiM fp_6 → sgK WkX12_weekOf f fp_6 → va_P D vwCl (sgw 26 h (eM ca h) fp_6 L Q) H → va_S (sgA 26 h s.heap.size) s.heap H locs → lv_has ls 5 [(0, .ref (h 0)), (1, .int x0), (2, .int y2_6)] → W p l e ({ frames := 46, cells := 0, slots := 0, locals := 1055 }) s m ([.ref (h 0), .int x0] : List Value).toArray below meth cd H locs 0 0 Qz (F0 m 6 ls []) := by
    intro n_6
    induction n_6 with
    | zero => intro y2_6 fp_6 H locs ls hs hm_6 hy0_6 hI hF hP hS hl; exact absurd hm_6 (by omega)
    | succ n_6 ih_6 =>
      have loop_72 : ∀ (n_72 : Nat) (y2_72 : Int32) (y4_72 : Int32) (fp_72 : sg_F) (H : Heap) (locs : List Loc) (ls : Array Slot), sp = sX12_weekOf_l72 (sX12_weekOf_l6 x0 n_6) x0 n_72 y2_72 y4_72 fp_72 L → 3 - y4_72.toInt < (n_72 : Int) → 21 - y2_72.toInt < ((n_6 + 1 : Nat) : Int) → 0 ≤ y2_72.toInt ∧ y2_72.toInt ≤ 20 → 0 ≤ y4_72.toInt ∧ y4_72.toInt ≤ 3 → sgI loM hiM fp_72 → sgK WkX12_weekOf f fp_72 → va_P D vwCl (sgw 26 h (eM ca h) fp_72 L Q) H → va_S (sgA 26 h s.heap.size) s.heap H locs → lv_has ls 5 [(0, .ref (h 0)), (1, .int x0), (2, .int y2_72), (4, .int y4_72)] → W p l e ({ frames := 46, cells := 0, slots := 0, locals := 1055 }) s m ([.ref (h 0), .int x0] : List Value).toArray below meth cd H locs 0 0 Qz (F0 m 72 ls []) := by
        intro n_72
        induction n_72 with
        | zero => intro y2_72 y4_72 fp_72 H locs ls hs hm_72 hm_6 hy0_72 hy1_72 hI hF hP hS hl; exact absurd hm_72 (by omega)
        | succ n_72 ih_72 =>
          intro y2_72 y4_72 fp_72 H locs ls hs hm_72 hm_6 hy0_72 hy1_72 hI hF hP hS hl
          have hs : sp = sX12_weekOf_h72 (sX12_weekOf_l6 x0 n_6) x0 (sX12_weekOf_l72 (sX12_weekOf_l6 x0 n_6) x0 n_72) y2_72 y4_72 fp_72 L := hs
          refine lv_iload hx hb dX12_weekOf_72 (lv_at hl 3 rfl) ?_
          refine lv_iconst (v := 3) hx hb dX12_weekOf_74 ic_3 ?_
          refine lv_icmp_ge (tgt := 124) hx hb dX12_weekOf_75 (by decide) (fun c => ?_) (fun c => ?_)
          · skip
            have c_1 : 3 ≤ y4_72.toInt := (by first | exact (cm_le0 ti_3 c) | (have z := bn_le c; have k1 : (3 : Int32).toInt = 3 := ti_3; omega))
            obtain ⟨v_3, ev_3⟩ : ∃ z : Int32, z = y2_72 + 1 := ⟨_, rfl⟩
            have q_4 : v_3.toInt = y2_72.toInt + 1 := by rw [ev_3]; exact (bn_addc y2_72 1 (by decide) (by omega) (by omega))
            refine lv_iinc (v := v_3) (lv' := [(2, .int v_3), (0, .ref (h 0)), (1, .int x0), (4, .int y4_72)]) hx hb dX12_weekOf_124 hl (k := 2) rfl (by rw [ev_3]; rfl) (by decide) rfl (fun ls hl => ?_)
            refine lv_goto (tgt := 6) hx hb dX12_weekOf_127 (by decide) ?_
            exact ih_6 v_3 fp_72 _ _ _ (hs.trans (((if_neg (Int.not_lt.mpr c_1)).trans (spl_e ev_3 rfl)))) (by omega) ⟨by omega, by omega⟩ hI hF hP hS (lv_sub hl [1, 2, 0] rfl)
          · skip
            have c_2 : y4_72.toInt < 3 := (by first | exact (cm_nle0 ti_3 c) | (have z := bn_nle c; have k1 : (3 : Int32).toInt = 3 := ti_3; omega))
            refine lv_aload_n hx hb dX12_weekOf_78 rfl (lv_at hl 0 rfl) ?_
            refine sl_gM_0_27_12 hx hb hts hown hK hP dX12_weekOf_79 ?_
            refine lv_iload hx hb dX12_weekOf_82 (lv_at hl 3 rfl) ?_
            refine lv_aload_n hx hb dX12_weekOf_84 rfl (lv_at hl 0 rfl) ?_
            refine lv_iload hx hb dX12_weekOf_85 (lv_at hl 3 rfl) ?_
            refine lv_aload_n hx hb dX12_weekOf_87 rfl (lv_at hl 0 rfl) ?_
            refine sl_gM_0_27_12 hx hb hts hown hK hP dX12_weekOf_88 ?_
            refine lv_iload hx hb dX12_weekOf_91 (lv_at hl 3 rfl) ?_
            refine sg_iald hx hb hK hP 12 (by decide) 0 rfl rfl (i := y4_72) (vp_in_iff.mpr ⟨by omega, by omega⟩) dX12_weekOf_93 ?_
            refine lv_topi (fun v_5 ev_5 => ?_)
            have q_6 : 0 ≤ v_5.toInt ∧ v_5.toInt ≤ 60 := by rw [ev_5]; exact hI 12 _
            refine sg_calli (va_runV (As := [.int y4_72, .int v_5]) (rest := [.int y4_72, .ref (h 12)]) ⟨hx, hb, hml, hown, hts⟩ (kX12_slipped l D ca za h hh fp_72 L Q hI y4_72 v_5 ⟨by omega, by omega⟩ ⟨by omega, by omega⟩ H.size) (sl_c12_slipped_0_0_0_0_12 hts ⟨Nat.le_of_ble_eq_true rfl, Nat.le_of_ble_eq_true rfl⟩) (sl_vM_0 hA hK hP hS hZ) rfl rfl hl.1 rfl (lv_room (Nat.le_of_ble_eq_true rfl)) dX12_weekOf_94 ⟨Nat.le_refl _, Nat.le_refl _⟩) hA hS (fun r_10 f_7 L_8 Q_9 H locs hq hP hS => ?_)
            obtain ⟨⟨ef9, eL9, eQ9⟩, hq, u_11⟩ := hq
            rw [ef9, eL9, eQ9] at hP; clear ef9 eL9 eQ9
            refine sg_iast hx hb hh hA hK hP hS 12 (by decide) 0 (fun _ => rfl) rfl (i := y4_72) (x := r_10) (vp_in_iff.mpr ⟨by omega, by omega⟩) dX12_weekOf_97 (fun f_12 H locs ef_12 hP hS => ?_)
            have hI : sgI loM hiM f_12 := by rw [ef_12]; exact sgI.put hI 12 y4_72.toNatClampNeg (show 0 ≤ (r_10 : Int32).toInt ∧ (r_10 : Int32).toInt ≤ 60 from ⟨by omega, by omega⟩)
            have hF : sgK WkX12_weekOf f f_12 := sgK.put hF ef_12 (by rfl)
            refine lv_aload_n hx hb dX12_weekOf_98 rfl (lv_at hl 0 rfl) ?_
            refine sl_gM_0_28_12 hx hb hts hown hK hP dX12_weekOf_99 ?_
            refine lv_iconst (v := 3) hx hb dX12_weekOf_102 ic_3 ?_
            refine lv_iload_n hx hb dX12_weekOf_103 rfl (lv_at hl 2 rfl) ?_
            refine lv_iconst (v := 1) hx hb dX12_weekOf_104 ic_1 ?_
            refine lv_iadd hx hb dX12_weekOf_105 ?_
            refine lv_topi (fun v_13 ev_13 => ?_)
            have q_14 : v_13.toInt = y2_72.toInt + 1 := by rw [ev_13]; first | exact cm_add ti_1 (by omega) (by omega) | (have k1 : (1 : Int32).toInt = 1 := ti_1; exact (bn_addI (by omega) (by omega)).trans (by omega))
            refine lv_imul hx hb dX12_weekOf_106 ?_
            refine lv_topi (fun v_15 ev_15 => ?_)
            have q_16 : v_15.toInt = 3 * v_13.toInt := by rw [ev_15]; exact bn_mulJ (by decide) (by omega) (by omega)
            refine lv_iload hx hb dX12_weekOf_107 (lv_at hl 3 rfl) ?_
            refine lv_iadd hx hb dX12_weekOf_109 ?_
            refine lv_topi (fun v_17 ev_17 => ?_)
            have q_18 : v_17.toInt = v_15.toInt + y4_72.toInt := by rw [ev_17]; first | exact bn_addI (by omega) (by omega) | exact (bn_addI (by omega) (by omega)).trans (by omega)
            refine lv_aload_n hx hb dX12_weekOf_110 rfl (lv_at hl 0 rfl) ?_
            refine sl_gM_0_27_12 hx hb hts hown hK hP dX12_weekOf_111 ?_
            refine lv_iload hx hb dX12_weekOf_114 (lv_at hl 3 rfl) ?_
            refine sg_iald hx hb hK hP 12 (by decide) 0 rfl rfl (i := y4_72) (vp_in_iff.mpr ⟨by omega, by omega⟩) dX12_weekOf_116 ?_
            refine W.eq (g2 := F0 m 117 ls [.int r_10, .int v_17, .ref (h 13)]) (by rw [show f_12 12 (Int32.toNatClampNeg y4_72) = r_10 from (by rw [ef_12, sg_up_s, sgu_s])]) ?_
            refine sg_iast hx hb hh hA hK hP hS 13 (by decide) 0 (fun _ => rfl) rfl (i := v_17) (x := r_10) (vp_in_iff.mpr ⟨by omega, by omega⟩) dX12_weekOf_117 (fun f_19 H locs ef_19 hP hS => ?_)
            have hI : sgI loM hiM f_19 := by rw [ef_19]; exact sgI.put hI 13 v_17.toNatClampNeg (show 0 ≤ (r_10 : Int32).toInt ∧ (r_10 : Int32).toInt ≤ 60 from ⟨by omega, by omega⟩)
            have hF : sgK WkX12_weekOf f f_19 := sgK.put hF ef_19 (by rfl)
            obtain ⟨v_20, ev_20⟩ : ∃ z : Int32, z = y4_72 + 1 := ⟨_, rfl⟩
            have q_21 : v_20.toInt = y4_72.toInt + 1 := by rw [ev_20]; exact (bn_addc y4_72 1 (by decide) (by omega) (by omega))
            refine lv_iinc (v := v_20) (lv' := [(4, .int v_20), (0, .ref (h 0)), (1, .int x0), (2, .int y2_72)]) hx hb dX12_weekOf_118 hl (k := 3) rfl (by rw [ev_20]; rfl) (by decide) rfl (fun ls hl => ?_)
            refine lv_goto (tgt := 72) hx hb dX12_weekOf_121 (by decide) ?_
            exact ih_72 y2_72 v_20 f_19 _ _ _ (hs.trans (((if_pos c_2).trans (spl_e ev_5 (spl_e u_11 (spl_e ef_12 (spl_e ev_13 (spl_e ev_15 (spl_e ev_17 (spl_e ef_19 (spl_e ev_20 rfl))))))))))) (by omega) hm_6 hy0_72 ⟨by omega, by omega⟩ hI hF hP hS (lv_sub hl [1, 2, 3, 0] rfl)
      have blk_69 : ∀ (y2_69 : Int32) (fp_69 : sg_F) (H : Heap) (locs : List Loc) (ls : Array Slot), sp = sX12_weekOf_b69 (sX12_weekOf_l6 x0 n_6) x0 y2_69 fp_69 L → 21 - y2_69.toInt < ((n_6 + 1 : Nat) : Int) → 0 ≤ y2_69.toInt ∧ y2_69.toInt ≤ 20 → sgI loM hiM fp_69 → sgK WkX12_weekOf f fp_69 → va_P D vwCl (sgw 26 h (eM ca h) fp_69 L Q) H → va_S (sgA 26 h s.heap.size) s.heap H locs → lv_has ls 5 [(0, .ref (h 0)), (1, .int x0), (2, .int y2_69)] → W p l e ({ frames := 46, cells := 0, slots := 0, locals := 1055 }) s m ([.ref (h 0), .int x0] : List Value).toArray below meth cd H locs 0 0 Qz (F0 m 69 ls []) := by
        intro y2_69 fp_69 H locs ls hs hm_6 hy0_69 hI hF hP hS hl
        refine lv_iconst (v := 0) hx hb dX12_weekOf_69 ic_0 ?_
        refine lv_istore (lv' := [(4, .int 0), (0, .ref (h 0)), (1, .int x0), (2, .int y2_69)]) hx hb dX12_weekOf_70 hl (by decide) rfl (fun ls hl => ?_)
        exact loop_72 4 y2_69 0 fp_69 _ _ _ hs (by have kc1 : (0 : Int32).toInt = 0 := ti_0; omega) (by have kc1 : (0 : Int32).toInt = 0 := ti_0; omega) hy0_69 (by decide) hI hF hP hS (lv_sub hl [1, 2, 3, 0] rfl)
      have loop_17 : ∀ (n_17 : Nat) (y2_17 : Int32) (y3_17 : Int32) (fp_17 : sg_F) (H : Heap) (locs : List Loc) (ls : Array Slot), sp = sX12_weekOf_l17 (sX12_weekOf_l6 x0 n_6) x0 n_17 y2_17 y3_17 fp_17 L → 3 - y3_17.toInt < (n_17 : Int) → 21 - y2_17.toInt < ((n_6 + 1 : Nat) : Int) → 0 ≤ y2_17.toInt ∧ y2_17.toInt ≤ 20 → 0 ≤ y3_17.toInt ∧ y3_17.toInt ≤ 3 → sgI loM hiM fp_17 → sgK WkX12_weekOf f fp_17 → va_P D vwCl (sgw 26 h (eM ca h) fp_17 L Q) H → va_S (sgA 26 h s.heap.size) s.heap H locs → lv_has ls 5 [(0, .ref (h 0)), (1, .int x0), (2, .int y2_17), (3, .int y3_17)] → W p l e ({ frames := 46, cells := 0, slots := 0, locals := 1055 }) s m ([.ref (h 0), .int x0] : List Value).toArray below meth cd H locs 0 0 Qz (F0 m 17 ls []) := by
        intro n_17
        induction n_17 with
        | zero => intro y2_17 y3_17 fp_17 H locs ls hs hm_17 hm_6 hy0_17 hy1_17 hI hF hP hS hl; exact absurd hm_17 (by omega)
        | succ n_17 ih_17 =>
          intro y2_17 y3_17 fp_17 H locs ls hs hm_17 hm_6 hy0_17 hy1_17 hI hF hP hS hl
          have hs : sp = sX12_weekOf_h17 (sX12_weekOf_l6 x0 n_6) x0 (sX12_weekOf_l17 (sX12_weekOf_l6 x0 n_6) x0 n_17) y2_17 y3_17 fp_17 L := hs
          refine lv_iload_n hx hb dX12_weekOf_17 rfl (lv_at hl 3 rfl) ?_
          refine lv_iconst (v := 3) hx hb dX12_weekOf_18 ic_3 ?_
          refine lv_icmp_ge (tgt := 44) hx hb dX12_weekOf_19 (by decide) (fun c => ?_) (fun c => ?_)
          · skip
            have c_22 : 3 ≤ y3_17.toInt := (by first | exact (cm_le0 ti_3 c) | (have z := bn_le c; have k1 : (3 : Int32).toInt = 3 := ti_3; omega))
            refine lv_aload_n hx hb dX12_weekOf_44 rfl (lv_at hl 0 rfl) ?_
            refine lv_iload_n hx hb dX12_weekOf_45 rfl (lv_at hl 1 rfl) ?_
            refine lv_iload_n hx hb dX12_weekOf_46 rfl (lv_at hl 2 rfl) ?_
            refine sg_calli (va_runV (As := [.int x0, .int y2_17]) (rest := []) ⟨hx, hb, hml, hown, hts⟩ (kX12_whoSits l D ca za h hh fp_17 L Q hI x0 y2_17 b0 hy0_17 H.size) (sl_c12_whoSits_2_0_0_47_12 hts ⟨Nat.le_of_ble_eq_true rfl, Nat.le_of_ble_eq_true rfl⟩) (sl_vM_0 hA hK hP hS hZ) rfl rfl hl.1 rfl (lv_room (Nat.le_of_ble_eq_true rfl)) dX12_weekOf_47 ⟨Nat.le_refl _, Nat.le_refl _⟩) hA hS (fun r_27 f_24 L_25 Q_26 H locs hq hP hS => ?_)
            obtain ⟨⟨ef9, eL9, eQ9⟩, hq, u_28⟩ := hq
            replace hs := hs.trans ((if_neg (Int.not_lt.mpr c_22)).trans (spl_e u_28 rfl))
            rw [ef9, eL9, eQ9] at hP; clear ef9 eL9 eQ9
            refine lv_istore_n (lv' := [(3, .int r_27), (0, .ref (h 0)), (1, .int x0), (2, .int y2_17)]) hx hb dX12_weekOf_50 rfl hl (by decide) rfl (fun ls hl => ?_)
            refine lv_iload_n hx hb dX12_weekOf_51 rfl (lv_at hl 0 rfl) ?_
            refine lv_if_lt (tgt := 69) hx hb dX12_weekOf_52 (by decide) (fun c => ?_) (fun c => ?_)
            · skip
              have c_29 : r_27.toInt < 0 := (by first | exact (cm_lt1 ti_0 c) | (have z := bn_lt c; have k1 : (0 : Int32).toInt = 0 := ti_0; omega))
              exact blk_69 y2_17 fp_17 _ _ _ (hs.trans ((if_pos c_29).trans rfl)) hm_6 hy0_17 hI hF hP hS (lv_sub hl [1, 2, 3] rfl)
            · skip
              have c_30 : 0 ≤ r_27.toInt := (by first | exact (cm_nlt1 ti_0 c) | (have z := bn_nlt c; have k1 : (0 : Int32).toInt = 0 := ti_0; omega))
              refine lv_aload_n hx hb dX12_weekOf_55 rfl (lv_at hl 1 rfl) ?_
              refine sl_gM_0_26_12 hx hb hts hown hK hP dX12_weekOf_56 ?_
              refine lv_iload_n hx hb dX12_weekOf_59 rfl (lv_at hl 3 rfl) ?_
              refine sg_zald hx hb hK hP 11 (by decide) 2 rfl rfl (i := y2_17) (vp_in_iff.mpr ⟨by omega, by omega⟩) dX12_weekOf_60 ?_
              refine lv_topi (fun v_31 ev_31 => ?_)
              replace hs := hs.trans ((if_neg (Int.not_lt.mpr c_30)).trans (spl_e ev_31 rfl))
              have q_32 : 0 ≤ v_31.toInt ∧ v_31.toInt ≤ 1 := by rw [ev_31]; exact hI 11 _
              refine lv_if_ne (tgt := 69) hx hb dX12_weekOf_61 (by decide) (fun c => ?_) (fun c => ?_)
              · skip
                have c_33 : v_31.toInt ≠ 0 := (by first | exact (cm_ne1 ti_0 c) | (have z := bn_ne c; have k1 : (0 : Int32).toInt = 0 := ti_0; omega))
                exact blk_69 y2_17 fp_17 _ _ _ (hs.trans ((if_neg c_33).trans rfl)) hm_6 hy0_17 hI hF hP hS (lv_sub hl [1, 2, 3] rfl)
              · skip
                have c_34 : v_31.toInt = 0 := (by first | exact (cm_eq1 ti_0 c) | (have z := Int32.toInt_inj.mpr c; have k1 : (0 : Int32).toInt = 0 := ti_0; omega))
                refine lv_aload_n hx hb dX12_weekOf_64 rfl (lv_at hl 1 rfl) ?_
                refine lv_iload_n hx hb dX12_weekOf_65 rfl (lv_at hl 0 rfl) ?_
                refine sg_callv (va_runV (As := [.int r_27]) (rest := []) ⟨hx, hb, hml, hown, hts⟩ (kX12_comes l D ca za h hh fp_17 L Q hI r_27 ⟨by omega, by omega⟩ H.size) (sl_c12_comes_45_0_0_1032_12 hts ⟨Nat.le_of_ble_eq_true rfl, Nat.le_of_ble_eq_true rfl⟩) (sl_vM_0 hA hK hP hS hZ) rfl rfl hl.1 rfl (lv_room (Nat.le_of_ble_eq_true rfl)) dX12_weekOf_66 ⟨Nat.le_refl _, Nat.le_refl _⟩) hA hS (fun f_35 L_36 Q_37 H locs hq hP hS => ?_)
                obtain ⟨⟨hI, hk_f_35, eL9, eQ9⟩, u_38⟩ := hq
                rw [eL9, eQ9] at hP; clear eL9 eQ9
                have hF : sgK WkX12_weekOf f f_35 := sgK.tr hF hk_f_35 (by decide +kernel)
                exact blk_69 y2_17 f_35 _ _ _ (hs.trans ((if_pos c_34).trans (spl_e u_38 rfl))) hm_6 hy0_17 hI hF hP hS (lv_sub hl [1, 2, 3] rfl)
          · skip
            have c_23 : y3_17.toInt < 3 := (by first | exact (cm_nle0 ti_3 c) | (have z := bn_nle c; have k1 : (3 : Int32).toInt = 3 := ti_3; omega))
            refine lv_aload_n hx hb dX12_weekOf_22 rfl (lv_at hl 0 rfl) ?_
            refine sl_gM_0_28_12 hx hb hts hown hK hP dX12_weekOf_23 ?_
            refine lv_iconst (v := 3) hx hb dX12_weekOf_26 ic_3 ?_
            refine lv_iload_n hx hb dX12_weekOf_27 rfl (lv_at hl 2 rfl) ?_
            refine lv_imul hx hb dX12_weekOf_28 ?_
            refine lv_topi (fun v_39 ev_39 => ?_)
            have q_40 : v_39.toInt = 3 * y2_17.toInt := by rw [ev_39]; exact bn_mulJ (by decide) (by omega) (by omega)
            refine lv_iload_n hx hb dX12_weekOf_29 rfl (lv_at hl 3 rfl) ?_
            refine lv_iadd hx hb dX12_weekOf_30 ?_
            refine lv_topi (fun v_41 ev_41 => ?_)
            have q_42 : v_41.toInt = v_39.toInt + y3_17.toInt := by rw [ev_41]; first | exact bn_addI (by omega) (by omega) | exact (bn_addI (by omega) (by omega)).trans (by omega)
            refine lv_aload_n hx hb dX12_weekOf_31 rfl (lv_at hl 0 rfl) ?_
            refine sl_gM_0_27_12 hx hb hts hown hK hP dX12_weekOf_32 ?_
            refine lv_iload_n hx hb dX12_weekOf_35 rfl (lv_at hl 3 rfl) ?_
            refine sg_iald hx hb hK hP 12 (by decide) 0 rfl rfl (i := y3_17) (vp_in_iff.mpr ⟨by omega, by omega⟩) dX12_weekOf_36 ?_
            refine lv_topi (fun v_43 ev_43 => ?_)
            have q_44 : 0 ≤ v_43.toInt ∧ v_43.toInt ≤ 60 := by rw [ev_43]; exact hI 12 _
            refine sg_iast hx hb hh hA hK hP hS 13 (by decide) 0 (fun _ => rfl) rfl (i := v_41) (x := v_43) (vp_in_iff.mpr ⟨by omega, by omega⟩) dX12_weekOf_37 (fun f_45 H locs ef_45 hP hS => ?_)
            have hI : sgI loM hiM f_45 := by rw [ef_45]; exact sgI.put hI 13 v_41.toNatClampNeg (show 0 ≤ (v_43 : Int32).toInt ∧ (v_43 : Int32).toInt ≤ 60 from q_44)
            have hF : sgK WkX12_weekOf f f_45 := sgK.put hF ef_45 (by rfl)
            obtain ⟨v_46, ev_46⟩ : ∃ z : Int32, z = y3_17 + 1 := ⟨_, rfl⟩
            have q_47 : v_46.toInt = y3_17.toInt + 1 := by rw [ev_46]; exact (bn_addc y3_17 1 (by decide) (by omega) (by omega))
            refine lv_iinc (v := v_46) (lv' := [(3, .int v_46), (0, .ref (h 0)), (1, .int x0), (2, .int y2_17)]) hx hb dX12_weekOf_38 hl (k := 3) rfl (by rw [ev_46]; rfl) (by decide) rfl (fun ls hl => ?_)
            refine lv_goto (tgt := 17) hx hb dX12_weekOf_41 (by decide) ?_
            exact ih_17 y2_17 v_46 f_45 _ _ _ (hs.trans (((if_pos c_23).trans (spl_e ev_39 (spl_e ev_41 (spl_e ev_43 (spl_e ef_45 (spl_e ev_46 rfl)))))))) (by omega) hm_6 hy0_17 ⟨by omega, by omega⟩ hI hF hP hS (lv_sub hl [1, 2, 3, 0] rfl)
      intro y2_6 fp_6 H locs ls hs hm_6 hy0_6 hI hF hP hS hl
      have hs : sp = sX12_weekOf_h6 x0 (sX12_weekOf_l6 x0 n_6) y2_6 fp_6 L := hs
      refine lv_iload_n hx hb dX12_weekOf_6 rfl (lv_at hl 2 rfl) ?_
      refine lv_aload_n hx hb dX12_weekOf_7 rfl (lv_at hl 0 rfl) ?_
      refine lv_iload_n hx hb dX12_weekOf_8 rfl (lv_at hl 1 rfl) ?_
      refine sg_calli (va_runV (As := [.int x0]) (rest := [.int y2_6]) ⟨hx, hb, hml, hown, hts⟩ (kX12_shiftsOf l D ca za h hh fp_6 L Q hI x0 b0 H.size) (sl_c12_shiftsOf_0_0_0_0_12 hts ⟨Nat.le_of_ble_eq_true rfl, Nat.le_of_ble_eq_true rfl⟩) (sl_vM_0 hA hK hP hS hZ) rfl rfl hl.1 rfl (lv_room (Nat.le_of_ble_eq_true rfl)) dX12_weekOf_9 ⟨Nat.le_refl _, Nat.le_refl _⟩) hA hS (fun r_51 f_48 L_49 Q_50 H locs hq hP hS => ?_)
      obtain ⟨⟨ef9, eL9, eQ9⟩, hq, u_52⟩ := hq
      replace hs := hs.trans (spl_e u_52 rfl)
      rw [ef9, eL9, eQ9] at hP; clear ef9 eL9 eQ9
      refine lv_icmp_ge (tgt := 130) hx hb dX12_weekOf_12 (by decide) (fun c => ?_) (fun c => ?_)
      · skip
        have c_53 : r_51.toInt ≤ y2_6.toInt := (by first | exact (bn_le c) | (have z := bn_le c; omega))
        refine lv_aload_n hx hb dX12_weekOf_130 rfl (lv_at hl 0 rfl) ?_
        refine sl_gM_0_31_12 (v := (fp_6 0 31)) hx hb hts hown hK hP rfl dX12_weekOf_131 ?_
        refine lv_topi (fun v_55 ev_55 => ?_)
        refine lv_aload_n hx hb dX12_weekOf_134 rfl (lv_at hl 0 rfl) ?_
        refine sl_gM_0_30_12 (v := (fp_6 0 30)) hx hb hts hown hK hP rfl dX12_weekOf_135 ?_
        refine lv_topi (fun v_56 ev_56 => ?_)
        refine lv_iadd hx hb dX12_weekOf_138 ?_
        refine lv_topi (fun v_57 ev_57 => ?_)
        exact hret _ _ _ _ (v_57) fp_6 L Q dX12_weekOf_139 hP hS ⟨⟨hI, hF, rfl, rfl⟩, trivial, (Eq.trans (Eq.symm (hs.trans ((if_neg (Int.not_lt.mpr c_53)).trans (spl_e ev_55 (spl_e ev_56 (spl_e ev_57 rfl)))))) hsp)⟩
      · skip
        have c_54 : y2_6.toInt < r_51.toInt := (by first | exact (bn_nle c) | (have z := bn_nle c; omega))
        refine lv_iconst (v := 0) hx hb dX12_weekOf_15 ic_0 ?_
        refine lv_istore_n (lv' := [(3, .int 0), (0, .ref (h 0)), (1, .int x0), (2, .int y2_6)]) hx hb dX12_weekOf_16 rfl hl (by decide) rfl (fun ls hl => ?_)
        exact loop_17 4 y2_6 0 fp_6 _ _ _ (hs.trans ((if_pos c_54).trans rfl)) (by have kc1 : (0 : Int32).toInt = 0 := ti_0; omega) (by have kc1 : (0 : Int32).toInt = 0 := ti_0; omega) ⟨by omega, by omega⟩ (by decide) hI hF hP hS (lv_sub hl [1, 2, 3, 0] rfl)
  refine lv_aload_n hx hb dX12_weekOf_0 rfl (lv_at hl 0 rfl) ?_
  refine sg_callv (va_runV (As := []) (rest := []) ⟨hx, hb, hml, hown, hts⟩ (kX12_beginsWeek l D ca za h hh f L Q hI H.size) (sl_c12_beginsWeek_0_0_0_0_12 hts ⟨Nat.le_of_ble_eq_true rfl, Nat.le_of_ble_eq_true rfl⟩) (sl_vM_0 hA hK hP hS hZ) rfl rfl hl.1 rfl (lv_room (Nat.le_of_ble_eq_true rfl)) dX12_weekOf_1 ⟨Nat.le_refl _, Nat.le_refl _⟩) hA hS (fun f_58 L_59 Q_60 H locs hq hP hS => ?_)
  obtain ⟨⟨hI, hk_f_58, eL9, eQ9⟩, u_61⟩ := hq
  rw [eL9, eQ9] at hP; clear eL9 eQ9
  have hF : sgK WkX12_weekOf f f_58 := sgK.tr hF hk_f_58 (by decide +kernel)
  refine lv_iconst (v := 0) hx hb dX12_weekOf_4 ic_0 ?_
  refine lv_istore_n (lv' := [(2, .int 0), (0, .ref (h 0)), (1, .int x0)]) hx hb dX12_weekOf_5 rfl hl (by decide) rfl (fun ls hl => ?_)
  exact loop_6 22 0 f_58 _ _ _ (hs.trans ((spl_e u_61 rfl))) (by have kc0 : (0 : Int32).toInt = 0 := ti_0; omega) (by decide) hI hF hP hS (lv_sub hl [1, 2, 0] rfl)

abbrev WkX12_week : List (Nat × Nat × Option Nat) := [(0, 0, some 12), (0, 0, some 13), (0, 0, some 14), (0, 0, some 15), (0, 0, some 16), (0, 0, some 29), (0, 0, some 30), (0, 0, some 31), (8, 8, none), (12, 12, none), (13, 13, none)]
set_option maxHeartbeats 4000000 in
set_option maxRecDepth 100000 in
theorem kX12_week (l : Launch) (D : va_G) (ca : Nat → ClassId) (za h : Nat → Nat) (hh : sgH 26 h) (f : sg_F) (L : sg_L) (Q : sg_Q) (hI : sgI loM hiM f) (x0 : Int32) (x1 : Int32) (sz : Nat) : Met l yX12_week gwX12_week { frames := 47, cells := 0, slots := 0, locals := 1079 } (sgP D vwCl (tyX ca) 26 h (eM ca h) zcM za f L Q sz [.ref (h 0), .int x0, .int x1]) (sgQi D vwCl 26 h (eM ca h) sz (fun r f1 L1 Q1 => ((sgI loM hiM f1 ∧ sgK WkX12_week f f1 ∧ L1 = L ∧ Q1 = Q) ∧ True ∧ (r, f1) = sX12_week x0 x1 f L))) 0 0 (sgA 26 h sz) := by
  refine sg_ofWi (cc := cX12_week) (maxL := 4) RX12 (by decide) rfl rfl (Nat.le_of_ble_eq_true rfl) ?_
  intro p e s m below meth cd Qz ls hx hb hml hown hts hK hZ hP hS hl hret
  have hA := sgY.self (n := 26) (h := h) (sz := s.heap.size)
  have hl : lv_has ls 4 [(0, .ref (h 0)), (1, .int x0), (2, .int x1)] := hl
  obtain ⟨H, hH⟩ : ∃ z : Heap, z = s.heap := ⟨_, rfl⟩
  obtain ⟨locs, hlo⟩ : ∃ z : List Loc, z = [] := ⟨_, rfl⟩
  have hP : va_P D vwCl (sgw 26 h (eM ca h) f L Q) H := by rw [hH]; exact hP
  have hS : va_S (sgA 26 h s.heap.size) s.heap H locs := by rw [hH, hlo]; exact hS
  suffices hgo : W p l e ({ frames := 47, cells := 0, slots := 0, locals := 1079 }) s m ([.ref (h 0), .int x0, .int x1] : List Value).toArray below meth cd H locs 0 0 Qz (F0 m 0 ls []) by rw [hH, hlo] at hgo; exact hgo
  clear hH hlo
  obtain ⟨sp, hsp⟩ : ∃ z : Int32 × sg_F, z = sX12_week x0 x1 f L := ⟨_, rfl⟩
  have hs : sp = sX12_week x0 x1 f L := hsp
  have hF : sgK WkX12_week f f := sgK.rf
  refine lv_aload_n hx hb dX12_week_0 rfl (lv_at hl 0 rfl) ?_
  refine lv_iload_n hx hb dX12_week_1 rfl (lv_at hl 1 rfl) ?_
  refine sg_calli (va_runV (As := [.int x0]) (rest := []) ⟨hx, hb, hml, hown, hts⟩ (kX12_bytesIs l D ca za h hh f L Q hI x0 H.size) (sl_c12_bytesIs_2_0_0_45_12 hts ⟨Nat.le_of_ble_eq_true rfl, Nat.le_of_ble_eq_true rfl⟩) (sl_vM_0 hA hK hP hS hZ) rfl rfl hl.1 rfl (lv_room (Nat.le_of_ble_eq_true rfl)) dX12_week_2 ⟨Nat.le_refl _, Nat.le_refl _⟩) hA hS (fun r_4 f_1 L_2 Q_3 H locs hq hP hS => ?_)
  obtain ⟨⟨ef9, eL9, eQ9⟩, hq, u_5⟩ := hq
  replace hs := hs.trans (spl_e u_5 rfl)
  rw [ef9, eL9, eQ9] at hP; clear ef9 eL9 eQ9
  rcases hq with ⟨rfl, hq⟩ | hq | ⟨rfl, hq⟩
  · skip
    have hc_6 := hq
    refine lv_iconst (v := (-1)) hx hb dX12_week_5 ic_m1 ?_
    refine lv_icmp_eq (tgt := 21) hx hb dX12_week_6 (by decide) (fun c => absurd c (by decide)) (fun c => ?_)
    refine lv_iload_n hx hb dX12_week_9 rfl (lv_at hl 2 rfl) ?_
    obtain ⟨w_7, ew_7⟩ : ∃ z : Int64, z = Int32.toInt64 x1 := ⟨_, rfl⟩
    have q_8 : w_7.toInt = x1.toInt := by rw [ew_7]; exact Int32.toInt_toInt64 _
    refine lv_i2l (v := w_7) hx hb dX12_week_10 ew_7.symm ?_
    refine lv_lconst (v := 0) hx hb dX12_week_11 (by decide) ?_
    refine lv_ldc2 (v := 2) hx hb hown (hts _ (List.mem_cons_of_mem _ mw_629)) dX12_week_12 ?_
    refine sg_calli (va_runS (As := [.long w_7, .long 0, .long 2]) (rest := []) ⟨hx, hb, hml, hown, hts⟩ (kX12_within l D ca za h hh f L Q hI w_7 0 2 H.size) (va_cwS 3 hts (gw_S (fun _ h => List.mem_cons_of_mem _ h) mw_631 mw_632 mw_619 mw_630) rfl rfl rfl hd_yX12_within.2 ⟨Nat.le_of_ble_eq_true rfl, Nat.le_of_ble_eq_true rfl⟩) (sg_preS hA hK hP hS hZ) rfl rfl hl.1 rfl (lv_room (Nat.le_of_ble_eq_true rfl)) dX12_week_15 ⟨Nat.le_refl _, Nat.le_refl _⟩) hA hS (fun r_12 f_9 L_10 Q_11 H locs hq hP hS => ?_)
    obtain ⟨⟨ef9, eL9, eQ9⟩, hq, u_13⟩ := hq
    replace hs := hs.trans ((if_pos rfl).trans (spl_e ew_7 (spl_e u_13 rfl)))
    rw [ef9, eL9, eQ9] at hP; clear ef9 eL9 eQ9
    have k_14 : (0 : Int64).toInt = 0 := by decide
    have k_15 : (2 : Int64).toInt = 2 := by decide
    rcases hq with ⟨rfl, hq⟩ | ⟨rfl, hq⟩
    · skip
      have hc_16 := hq
      refine lv_if_ne (tgt := 23) hx hb dX12_week_18 (by decide) (fun c => ?_) (fun c => absurd c (by decide))
      refine lv_aload_n hx hb dX12_week_23 rfl (lv_at hl 0 rfl) ?_
      refine lv_iload_n hx hb dX12_week_24 rfl (lv_at hl 1 rfl) ?_
      refine sg_calli (va_runV (As := [.int x0]) (rest := []) ⟨hx, hb, hml, hown, hts⟩ (kX12_bytesIs l D ca za h hh f L Q hI x0 H.size) (sl_c12_bytesIs_2_0_0_45_12 hts ⟨Nat.le_of_ble_eq_true rfl, Nat.le_of_ble_eq_true rfl⟩) (sl_vM_0 hA hK hP hS hZ) rfl rfl hl.1 rfl (lv_room (Nat.le_of_ble_eq_true rfl)) dX12_week_25 ⟨Nat.le_refl _, Nat.le_refl _⟩) hA hS (fun r_20 f_17 L_18 Q_19 H locs hq hP hS => ?_)
      obtain ⟨⟨ef9, eL9, eQ9⟩, hq, u_21⟩ := hq
      rw [ef9, eL9, eQ9] at hP; clear ef9 eL9 eQ9
      rw [show r_20 = 1 from u_21.trans u_5.symm]
      refine lv_if_ge (tgt := 37) hx hb dX12_week_28 (by decide) (fun c => ?_) (fun c => absurd c (by decide))
      refine lv_aload_n hx hb dX12_week_37 rfl (lv_at hl 0 rfl) ?_
      refine lv_iload_n hx hb dX12_week_38 rfl (lv_at hl 1 rfl) ?_
      refine sg_calli (va_runV (As := [.int x0]) (rest := []) ⟨hx, hb, hml, hown, hts⟩ (kX12_weekOf l D ca za h hh f L Q hI x0 ⟨by omega, by omega⟩ H.size) (sl_c12_weekOf_46_0_0_1055_12 hts ⟨Nat.le_of_ble_eq_true rfl, Nat.le_of_ble_eq_true rfl⟩) (sl_vM_0 hA hK hP hS hZ) rfl rfl hl.1 rfl (lv_room (Nat.le_of_ble_eq_true rfl)) dX12_week_39 ⟨Nat.le_refl _, Nat.le_refl _⟩) hA hS (fun r_25 f_22 L_23 Q_24 H locs hq hP hS => ?_)
      obtain ⟨⟨hI, hk_f_22, eL9, eQ9⟩, hq, u_26⟩ := hq
      replace hs := hs.trans ((if_pos rfl).trans (spl2_e u_26 rfl))
      rw [eL9, eQ9] at hP; clear eL9 eQ9
      have hF : sgK WkX12_week f f_22 := sgK.tr hF hk_f_22 (by decide +kernel)
      refine lv_istore_n (lv' := [(3, .int r_25), (0, .ref (h 0)), (1, .int x0), (2, .int x1)]) hx hb dX12_week_42 rfl hl (by decide) rfl (fun ls hl => ?_)
      refine lv_iload_n hx hb dX12_week_43 rfl (lv_at hl 3 rfl) ?_
      refine lv_if_ne (tgt := 54) hx hb dX12_week_44 (by decide) (fun c => ?_) (fun c => ?_)
      · skip
        have c_27 : x1.toInt ≠ 0 := (by first | exact (cm_ne1 ti_0 c) | (have z := bn_ne c; have k1 : (0 : Int32).toInt = 0 := ti_0; omega))
        replace hs := hs.trans ((if_neg c_27).trans rfl)
        refine lv_iload_n hx hb dX12_week_54 rfl (lv_at hl 3 rfl) ?_
        refine lv_iconst (v := 1) hx hb dX12_week_55 ic_1 ?_
        refine lv_icmp_ne (tgt := 66) hx hb dX12_week_56 (by decide) (fun c => ?_) (fun c => ?_)
        · skip
          have c_29 : x1.toInt ≠ 1 := (by first | exact (cm_ne1 ti_1 c) | (have z := bn_ne c; have k1 : (1 : Int32).toInt = 1 := ti_1; omega))
          refine lv_iload_n hx hb dX12_week_66 rfl (lv_at hl 0 rfl) ?_
          exact hret _ _ _ _ (r_25) f_22 L Q dX12_week_67 hP hS ⟨⟨hI, hF, rfl, rfl⟩, trivial, (Eq.trans (Eq.symm (hs.trans ((if_neg c_29).trans rfl))) hsp)⟩
        · skip
          have c_30 : x1.toInt = 1 := (by first | exact (cm_eq1 ti_1 c) | (have z := Int32.toInt_inj.mpr c; have k1 : (1 : Int32).toInt = 1 := ti_1; omega))
          refine lv_aload_n hx hb dX12_week_59 rfl (lv_at hl 1 rfl) ?_
          refine sl_gM_0_30_12 (v := (f_22 0 30)) hx hb hts hown hK hP rfl dX12_week_60 ?_
          refine lv_topi (fun v_31 ev_31 => ?_)
          refine lv_goto (tgt := 67) hx hb dX12_week_63 (by decide) ?_
          exact hret _ _ _ _ (v_31) f_22 L Q dX12_week_67 hP hS ⟨⟨hI, hF, rfl, rfl⟩, trivial, (Eq.trans (Eq.symm (hs.trans ((if_pos c_30).trans (spl_e ev_31 rfl)))) hsp)⟩
      · skip
        have c_28 : x1.toInt = 0 := (by first | exact (cm_eq1 ti_0 c) | (have z := Int32.toInt_inj.mpr c; have k1 : (0 : Int32).toInt = 0 := ti_0; omega))
        refine lv_aload_n hx hb dX12_week_47 rfl (lv_at hl 1 rfl) ?_
        refine sl_gM_0_29_12 (v := (f_22 0 29)) hx hb hts hown hK hP rfl dX12_week_48 ?_
        refine lv_topi (fun v_32 ev_32 => ?_)
        refine lv_goto (tgt := 67) hx hb dX12_week_51 (by decide) ?_
        exact hret _ _ _ _ (v_32) f_22 L Q dX12_week_67 hP hS ⟨⟨hI, hF, rfl, rfl⟩, trivial, (Eq.trans (Eq.symm (hs.trans ((if_pos c_28).trans (spl_e ev_32 rfl)))) hsp)⟩
    · skip
      have hc_16 := hq
      refine lv_if_ne (tgt := 23) hx hb dX12_week_18 (by decide) (fun c => absurd c (by decide)) (fun c => ?_)
      refine lv_iconst (v := (-1)) hx hb dX12_week_21 ic_m1 ?_
      have k99 : ((-1) : Int32).toInt = (-1) := ti_m1
      exact hret _ _ _ _ (-1) f L Q dX12_week_22 hP hS ⟨⟨hI, hF, rfl, rfl⟩, trivial, (Eq.trans (Eq.symm (hs.trans ((if_neg (by decide)).trans rfl))) hsp)⟩
  · skip
    have hc_6 := hq
    refine lv_iconst (v := (-1)) hx hb dX12_week_5 ic_m1 ?_
    refine lv_icmp_eq (tgt := 21) hx hb dX12_week_6 (by decide) (fun c => ?_) (fun c => ?_)
    · skip
      exfalso; have c_33 : r_4.toInt = (-1) := (by first | exact (cm_eq1 ti_m1 c) | (have z := Int32.toInt_inj.mpr c; have k1 : ((-1) : Int32).toInt = (-1) := ti_m1; omega)); first | exact absurd c_33 (by assumption) | omega
    · skip
      have c_34 : r_4.toInt ≠ (-1) := (by first | exact (cm_ne1 ti_m1 c) | (have z := bn_ne c; have k1 : ((-1) : Int32).toInt = (-1) := ti_m1; omega))
      refine lv_iload_n hx hb dX12_week_9 rfl (lv_at hl 2 rfl) ?_
      obtain ⟨w_35, ew_35⟩ : ∃ z : Int64, z = Int32.toInt64 x1 := ⟨_, rfl⟩
      have q_36 : w_35.toInt = x1.toInt := by rw [ew_35]; exact Int32.toInt_toInt64 _
      refine lv_i2l (v := w_35) hx hb dX12_week_10 ew_35.symm ?_
      refine lv_lconst (v := 0) hx hb dX12_week_11 (by decide) ?_
      refine lv_ldc2 (v := 2) hx hb hown (hts _ (List.mem_cons_of_mem _ mw_629)) dX12_week_12 ?_
      refine sg_calli (va_runS (As := [.long w_35, .long 0, .long 2]) (rest := []) ⟨hx, hb, hml, hown, hts⟩ (kX12_within l D ca za h hh f L Q hI w_35 0 2 H.size) (va_cwS 3 hts (gw_S (fun _ h => List.mem_cons_of_mem _ h) mw_631 mw_632 mw_619 mw_630) rfl rfl rfl hd_yX12_within.2 ⟨Nat.le_of_ble_eq_true rfl, Nat.le_of_ble_eq_true rfl⟩) (sg_preS hA hK hP hS hZ) rfl rfl hl.1 rfl (lv_room (Nat.le_of_ble_eq_true rfl)) dX12_week_15 ⟨Nat.le_refl _, Nat.le_refl _⟩) hA hS (fun r_40 f_37 L_38 Q_39 H locs hq hP hS => ?_)
      obtain ⟨⟨ef9, eL9, eQ9⟩, hq, u_41⟩ := hq
      rw [ef9, eL9, eQ9] at hP; clear ef9 eL9 eQ9
      have k_42 : (0 : Int64).toInt = 0 := by decide
      have k_43 : (2 : Int64).toInt = 2 := by decide
      rcases hq with ⟨rfl, hq⟩ | ⟨rfl, hq⟩
      · skip
        have hc_44 := hq
        refine lv_if_ne (tgt := 23) hx hb dX12_week_18 (by decide) (fun c => ?_) (fun c => absurd c (by decide))
        refine lv_aload_n hx hb dX12_week_23 rfl (lv_at hl 0 rfl) ?_
        refine lv_iload_n hx hb dX12_week_24 rfl (lv_at hl 1 rfl) ?_
        refine sg_calli (va_runV (As := [.int x0]) (rest := []) ⟨hx, hb, hml, hown, hts⟩ (kX12_bytesIs l D ca za h hh f L Q hI x0 H.size) (sl_c12_bytesIs_2_0_0_45_12 hts ⟨Nat.le_of_ble_eq_true rfl, Nat.le_of_ble_eq_true rfl⟩) (sl_vM_0 hA hK hP hS hZ) rfl rfl hl.1 rfl (lv_room (Nat.le_of_ble_eq_true rfl)) dX12_week_25 ⟨Nat.le_refl _, Nat.le_refl _⟩) hA hS (fun r_48 f_45 L_46 Q_47 H locs hq hP hS => ?_)
        obtain ⟨⟨ef9, eL9, eQ9⟩, hq, u_49⟩ := hq
        rw [ef9, eL9, eQ9] at hP; clear ef9 eL9 eQ9
        rw [show r_48 = r_4 from u_49.trans u_5.symm]
        refine lv_if_ge (tgt := 37) hx hb dX12_week_28 (by decide) (fun c => ?_) (fun c => ?_)
        · skip
          exfalso; have c_50 : 0 ≤ r_4.toInt := (by first | exact (cm_le0 ti_0 c) | (have z := bn_le c; have k1 : (0 : Int32).toInt = 0 := ti_0; omega)); omega
        · skip
          have c_51 : r_4.toInt < 0 := (by first | exact (cm_nle0 ti_0 c) | (have z := bn_nle c; have k1 : (0 : Int32).toInt = 0 := ti_0; omega))
          refine lv_aload_n hx hb dX12_week_31 rfl (lv_at hl 0 rfl) ?_
          refine lv_iload_n hx hb dX12_week_32 rfl (lv_at hl 1 rfl) ?_
          refine sg_calli (va_runV (As := [.int x0]) (rest := []) ⟨hx, hb, hml, hown, hts⟩ (kX12_bytesIs l D ca za h hh f L Q hI x0 H.size) (sl_c12_bytesIs_2_0_0_45_12 hts ⟨Nat.le_of_ble_eq_true rfl, Nat.le_of_ble_eq_true rfl⟩) (sl_vM_0 hA hK hP hS hZ) rfl rfl hl.1 rfl (lv_room (Nat.le_of_ble_eq_true rfl)) dX12_week_33 ⟨Nat.le_refl _, Nat.le_refl _⟩) hA hS (fun r_55 f_52 L_53 Q_54 H locs hq hP hS => ?_)
          obtain ⟨⟨ef9, eL9, eQ9⟩, hq, u_56⟩ := hq
          rw [ef9, eL9, eQ9] at hP; clear ef9 eL9 eQ9
          rw [show r_55 = r_4 from u_56.trans u_5.symm]
          exact hret _ _ _ _ (r_4) f L Q dX12_week_36 hP hS ⟨⟨hI, hF, rfl, rfl⟩, trivial, (Eq.trans (Eq.symm (hs.trans ((if_neg (fun z9 => by have k9 : (1 : Int32).toInt = 1 := ti_1; have h9 := hc_6; rw [z9] at h9; omega)).trans ((if_neg (fun z9 => by have k9 : ((-1) : Int32).toInt = (-1) := ti_m1; have h9 := hc_6; rw [z9] at h9; omega)).trans (spl_e ew_35 (spl_e u_41 ((if_pos rfl).trans rfl))))))) hsp)⟩
      · skip
        have hc_44 := hq
        refine lv_if_ne (tgt := 23) hx hb dX12_week_18 (by decide) (fun c => absurd c (by decide)) (fun c => ?_)
        refine lv_iconst (v := (-1)) hx hb dX12_week_21 ic_m1 ?_
        have k99 : ((-1) : Int32).toInt = (-1) := ti_m1
        exact hret _ _ _ _ (-1) f L Q dX12_week_22 hP hS ⟨⟨hI, hF, rfl, rfl⟩, trivial, (Eq.trans (Eq.symm (hs.trans ((if_neg (fun z9 => by have k9 : (1 : Int32).toInt = 1 := ti_1; have h9 := hc_6; rw [z9] at h9; omega)).trans ((if_neg (fun z9 => by have k9 : ((-1) : Int32).toInt = (-1) := ti_m1; have h9 := hc_6; rw [z9] at h9; omega)).trans (spl_e ew_35 (spl_e u_41 ((if_neg (by decide)).trans rfl))))))) hsp)⟩
  · skip
    have hc_6 := hq
    refine lv_iconst (v := (-1)) hx hb dX12_week_5 ic_m1 ?_
    refine lv_icmp_eq (tgt := 21) hx hb dX12_week_6 (by decide) (fun c => ?_) (fun c => absurd c (by decide))
    refine lv_iconst (v := (-1)) hx hb dX12_week_21 ic_m1 ?_
    have k99 : ((-1) : Int32).toInt = (-1) := ti_m1
    exact hret _ _ _ _ (-1) f L Q dX12_week_22 hP hS ⟨⟨hI, hF, rfl, rfl⟩, trivial, (Eq.trans (Eq.symm (hs.trans ((if_neg (by decide)).trans ((if_pos rfl).trans rfl)))) hsp)⟩

abbrev WkX12_stands : List (Nat × Nat × Option Nat) := [(0, 0, some 12), (0, 0, some 13), (0, 0, some 14), (0, 0, some 15), (0, 0, some 16), (0, 0, some 29), (0, 0, some 30), (0, 0, some 31), (8, 8, none), (12, 12, none), (13, 13, none)]
set_option maxHeartbeats 4000000 in
set_option maxRecDepth 100000 in
theorem kX12_stands (l : Launch) (D : va_G) (ca : Nat → ClassId) (za h : Nat → Nat) (hh : sgH 26 h) (f : sg_F) (L : sg_L) (Q : sg_Q) (hI : sgI loM hiM f) (x0 : Int32) (x1 : Int32) (x2 : Int32) (sz : Nat) : Met l yX12_stands gwX12_stands { frames := 47, cells := 0, slots := 0, locals := 1079 } (sgP D vwCl (tyX ca) 26 h (eM ca h) zcM za f L Q sz [.ref (h 0), .int x0, .int x1, .int x2]) (sgQi D vwCl 26 h (eM ca h) sz (fun r f1 L1 Q1 => ((sgI loM hiM f1 ∧ sgK WkX12_stands f f1 ∧ L1 = L ∧ Q1 = Q) ∧ ((-12) ≤ r.toInt ∧ r.toInt ≤ 60) ∧ (r, f1) = sX12_stands x0 x1 x2 f L))) 0 0 (sgA 26 h sz) := by
  refine sg_ofWi (cc := cX12_stands) (maxL := 4) RX12 (by decide) rfl rfl (Nat.le_of_ble_eq_true rfl) ?_
  intro p e s m below meth cd Qz ls hx hb hml hown hts hK hZ hP hS hl hret
  have hA := sgY.self (n := 26) (h := h) (sz := s.heap.size)
  have hl : lv_has ls 4 [(0, .ref (h 0)), (1, .int x0), (2, .int x1), (3, .int x2)] := hl
  obtain ⟨H, hH⟩ : ∃ z : Heap, z = s.heap := ⟨_, rfl⟩
  obtain ⟨locs, hlo⟩ : ∃ z : List Loc, z = [] := ⟨_, rfl⟩
  have hP : va_P D vwCl (sgw 26 h (eM ca h) f L Q) H := by rw [hH]; exact hP
  have hS : va_S (sgA 26 h s.heap.size) s.heap H locs := by rw [hH, hlo]; exact hS
  suffices hgo : W p l e ({ frames := 47, cells := 0, slots := 0, locals := 1079 }) s m ([.ref (h 0), .int x0, .int x1, .int x2] : List Value).toArray below meth cd H locs 0 0 Qz (F0 m 0 ls []) by rw [hH, hlo] at hgo; exact hgo
  clear hH hlo
  obtain ⟨sp, hsp⟩ : ∃ z : Int32 × sg_F, z = sX12_stands x0 x1 x2 f L := ⟨_, rfl⟩
  have hs : sp = sX12_stands x0 x1 x2 f L := hsp
  have hF : sgK WkX12_stands f f := sgK.rf
  refine lv_aload_n hx hb dX12_stands_0 rfl (lv_at hl 0 rfl) ?_
  refine lv_iload_n hx hb dX12_stands_1 rfl (lv_at hl 1 rfl) ?_
  refine sg_calli (va_runV (As := [.int x0]) (rest := []) ⟨hx, hb, hml, hown, hts⟩ (kX12_bytesIs l D ca za h hh f L Q hI x0 H.size) (sl_c12_bytesIs_2_0_0_45_12 hts ⟨Nat.le_of_ble_eq_true rfl, Nat.le_of_ble_eq_true rfl⟩) (sl_vM_0 hA hK hP hS hZ) rfl rfl hl.1 rfl (lv_room (Nat.le_of_ble_eq_true rfl)) dX12_stands_2 ⟨Nat.le_refl _, Nat.le_refl _⟩) hA hS (fun r_4 f_1 L_2 Q_3 H locs hq hP hS => ?_)
  obtain ⟨⟨ef9, eL9, eQ9⟩, hq, u_5⟩ := hq
  replace hs := hs.trans (spl_e u_5 rfl)
  rw [ef9, eL9, eQ9] at hP; clear ef9 eL9 eQ9
  rcases hq with ⟨rfl, hq⟩ | hq | ⟨rfl, hq⟩
  · skip
    have hc_6 := hq
    refine lv_iconst (v := (-1)) hx hb dX12_stands_5 ic_m1 ?_
    refine lv_icmp_eq (tgt := 20) hx hb dX12_stands_6 (by decide) (fun c => absurd c (by decide)) (fun c => ?_)
    refine lv_iload_n hx hb dX12_stands_9 rfl (lv_at hl 2 rfl) ?_
    refine sg_calli (va_runS (As := [.int x1]) (rest := []) ⟨hx, hb, hml, hown, hts⟩ (kX12_isPart l D ca za h hh f L Q hI x1 H.size) (va_cwS 1 hts (gw_S (fun _ h => List.mem_cons_of_mem _ h) mw_636 mw_637 mw_619 mw_635) rfl rfl rfl hd_yX12_isPart.2 ⟨Nat.le_of_ble_eq_true rfl, Nat.le_of_ble_eq_true rfl⟩) (sg_preS hA hK hP hS hZ) rfl rfl hl.1 rfl (lv_room (Nat.le_of_ble_eq_true rfl)) dX12_stands_10 ⟨Nat.le_refl _, Nat.le_refl _⟩) hA hS (fun r_10 f_7 L_8 Q_9 H locs hq hP hS => ?_)
    obtain ⟨⟨ef9, eL9, eQ9⟩, hq, u_11⟩ := hq
    replace hs := hs.trans ((if_pos rfl).trans (spl_e u_11 rfl))
    rw [ef9, eL9, eQ9] at hP; clear ef9 eL9 eQ9
    rcases hq with ⟨rfl, hq⟩ | ⟨rfl, hq⟩
    · skip
      have hc_12 := hq
      refine lv_if_eq (tgt := 20) hx hb dX12_stands_13 (by decide) (fun c => absurd c (by decide)) (fun c => ?_)
      refine lv_iload_n hx hb dX12_stands_16 rfl (lv_at hl 3 rfl) ?_
      refine lv_if_ge (tgt := 22) hx hb dX12_stands_17 (by decide) (fun c => ?_) (fun c => ?_)
      · skip
        have c_13 : 0 ≤ x2.toInt := (by first | exact (cm_le0 ti_0 c) | (have z := bn_le c; have k1 : (0 : Int32).toInt = 0 := ti_0; omega))
        refine lv_aload_n hx hb dX12_stands_22 rfl (lv_at hl 0 rfl) ?_
        refine lv_iload_n hx hb dX12_stands_23 rfl (lv_at hl 1 rfl) ?_
        refine sg_calli (va_runV (As := [.int x0]) (rest := []) ⟨hx, hb, hml, hown, hts⟩ (kX12_bytesIs l D ca za h hh f L Q hI x0 H.size) (sl_c12_bytesIs_2_0_0_45_12 hts ⟨Nat.le_of_ble_eq_true rfl, Nat.le_of_ble_eq_true rfl⟩) (sl_vM_0 hA hK hP hS hZ) rfl rfl hl.1 rfl (lv_room (Nat.le_of_ble_eq_true rfl)) dX12_stands_24 ⟨Nat.le_refl _, Nat.le_refl _⟩) hA hS (fun r_18 f_15 L_16 Q_17 H locs hq hP hS => ?_)
        obtain ⟨⟨ef9, eL9, eQ9⟩, hq, u_19⟩ := hq
        rw [ef9, eL9, eQ9] at hP; clear ef9 eL9 eQ9
        rw [show r_18 = 1 from u_19.trans u_5.symm]
        refine lv_if_ge (tgt := 36) hx hb dX12_stands_27 (by decide) (fun c => ?_) (fun c => absurd c (by decide))
        refine lv_iload_n hx hb dX12_stands_36 rfl (lv_at hl 3 rfl) ?_
        refine lv_aload_n hx hb dX12_stands_37 rfl (lv_at hl 0 rfl) ?_
        refine lv_iload_n hx hb dX12_stands_38 rfl (lv_at hl 1 rfl) ?_
        refine sg_calli (va_runV (As := [.int x0]) (rest := [.int x2]) ⟨hx, hb, hml, hown, hts⟩ (kX12_shiftsOf l D ca za h hh f L Q hI x0 ⟨by omega, by omega⟩ H.size) (sl_c12_shiftsOf_0_0_0_0_12 hts ⟨Nat.le_of_ble_eq_true rfl, Nat.le_of_ble_eq_true rfl⟩) (sl_vM_0 hA hK hP hS hZ) rfl rfl hl.1 rfl (lv_room (Nat.le_of_ble_eq_true rfl)) dX12_stands_39 ⟨Nat.le_refl _, Nat.le_refl _⟩) hA hS (fun r_23 f_20 L_21 Q_22 H locs hq hP hS => ?_)
        obtain ⟨⟨ef9, eL9, eQ9⟩, hq, u_24⟩ := hq
        replace hs := hs.trans ((if_pos rfl).trans ((if_neg (Int.not_lt.mpr c_13)).trans (spl_e u_24 rfl)))
        rw [ef9, eL9, eQ9] at hP; clear ef9 eL9 eQ9
        refine lv_icmp_le (tgt := 47) hx hb dX12_stands_42 (by decide) (fun c => ?_) (fun c => ?_)
        · skip
          have c_25 : x2.toInt ≤ r_23.toInt := (by first | exact (bn_le c) | (have z := bn_le c; omega))
          refine lv_aload_n hx hb dX12_stands_47 rfl (lv_at hl 0 rfl) ?_
          refine lv_iload_n hx hb dX12_stands_48 rfl (lv_at hl 1 rfl) ?_
          refine sg_calli (va_runV (As := [.int x0]) (rest := []) ⟨hx, hb, hml, hown, hts⟩ (kX12_weekOf l D ca za h hh f L Q hI x0 ⟨by omega, by omega⟩ H.size) (sl_c12_weekOf_46_0_0_1055_12 hts ⟨Nat.le_of_ble_eq_true rfl, Nat.le_of_ble_eq_true rfl⟩) (sl_vM_0 hA hK hP hS hZ) rfl rfl hl.1 rfl (lv_room (Nat.le_of_ble_eq_true rfl)) dX12_stands_49 ⟨Nat.le_refl _, Nat.le_refl _⟩) hA hS (fun r_30 f_27 L_28 Q_29 H locs hq hP hS => ?_)
          obtain ⟨⟨hI, hk_f_27, eL9, eQ9⟩, hq, u_31⟩ := hq
          replace hs := hs.trans ((if_neg (Int.not_lt.mpr c_25)).trans (spl2_e u_31 rfl))
          rw [eL9, eQ9] at hP; clear eL9 eQ9
          have hF : sgK WkX12_stands f f_27 := sgK.tr hF hk_f_27 (by decide +kernel)
          refine lv_pop hx hb dX12_stands_52 rfl ?_
          refine lv_iload_n hx hb dX12_stands_53 rfl (lv_at hl 3 rfl) ?_
          refine lv_if_ne (tgt := 66) hx hb dX12_stands_54 (by decide) (fun c => ?_) (fun c => ?_)
          · skip
            have c_32 : x2.toInt ≠ 0 := (by first | exact (cm_ne1 ti_0 c) | (have z := bn_ne c; have k1 : (0 : Int32).toInt = 0 := ti_0; omega))
            refine lv_aload_n hx hb dX12_stands_66 rfl (lv_at hl 0 rfl) ?_
            refine sl_gM_0_28_12 hx hb hts hown hK hP dX12_stands_67 ?_
            refine lv_iconst (v := 3) hx hb dX12_stands_70 ic_3 ?_
            refine lv_iload_n hx hb dX12_stands_71 rfl (lv_at hl 3 rfl) ?_
            refine lv_imul hx hb dX12_stands_72 ?_
            refine lv_topi (fun v_34 ev_34 => ?_)
            have q_35 : v_34.toInt = 3 * x2.toInt := by rw [ev_34]; exact bn_mulJ (by decide) (by omega) (by omega)
            refine lv_iload_n hx hb dX12_stands_73 rfl (lv_at hl 2 rfl) ?_
            refine lv_iadd hx hb dX12_stands_74 ?_
            refine lv_topi (fun v_36 ev_36 => ?_)
            have q_37 : v_36.toInt = v_34.toInt + x1.toInt := by rw [ev_36]; first | exact bn_addI (by omega) (by omega) | exact (bn_addI (by omega) (by omega)).trans (by omega)
            refine sg_iald hx hb hK hP 13 (by decide) 0 rfl rfl (i := v_36) (vp_in_iff.mpr ⟨by omega, by omega⟩) dX12_stands_75 ?_
            refine lv_topi (fun v_38 ev_38 => ?_)
            have q_39 : 0 ≤ v_38.toInt ∧ v_38.toInt ≤ 60 := by rw [ev_38]; exact hI 13 _
            exact hret _ _ _ _ (v_38) f_27 L Q dX12_stands_76 hP hS ⟨⟨hI, hF, rfl, rfl⟩, ⟨by omega, by omega⟩, (Eq.trans (Eq.symm (hs.trans ((if_neg c_32).trans (spl_e ev_34 (spl_e ev_36 (spl_e ev_38 rfl)))))) hsp)⟩
          · skip
            have c_33 : x2.toInt = 0 := (by first | exact (cm_eq1 ti_0 c) | (have z := Int32.toInt_inj.mpr c; have k1 : (0 : Int32).toInt = 0 := ti_0; omega))
            refine lv_aload_n hx hb dX12_stands_57 rfl (lv_at hl 0 rfl) ?_
            refine sl_gM_0_7_12 hx hb hts hown hK hP dX12_stands_58 ?_
            refine lv_iload_n hx hb dX12_stands_61 rfl (lv_at hl 2 rfl) ?_
            refine sg_iald hx hb hK hP 5 (by decide) 0 rfl rfl (i := x1) (vp_in_iff.mpr ⟨by omega, by omega⟩) dX12_stands_62 ?_
            refine lv_topi (fun v_40 ev_40 => ?_)
            have q_41 : 0 ≤ v_40.toInt ∧ v_40.toInt ≤ 60 := by rw [ev_40]; exact hI 5 _
            refine lv_goto (tgt := 76) hx hb dX12_stands_63 (by decide) ?_
            exact hret _ _ _ _ (v_40) f_27 L Q dX12_stands_76 hP hS ⟨⟨hI, hF, rfl, rfl⟩, ⟨by omega, by omega⟩, (Eq.trans (Eq.symm (hs.trans ((if_pos c_33).trans (spl_e ev_40 rfl)))) hsp)⟩
        · skip
          have c_26 : r_23.toInt < x2.toInt := (by first | exact (bn_nle c) | (have z := bn_nle c; omega))
          refine lv_iconst (v := (-1)) hx hb dX12_stands_45 ic_m1 ?_
          have k99 : ((-1) : Int32).toInt = (-1) := ti_m1
          exact hret _ _ _ _ (-1) f L Q dX12_stands_46 hP hS ⟨⟨hI, hF, rfl, rfl⟩, (by decide), (Eq.trans (Eq.symm (hs.trans ((if_pos c_26).trans rfl))) hsp)⟩
      · skip
        have c_14 : x2.toInt < 0 := (by first | exact (cm_nle0 ti_0 c) | (have z := bn_nle c; have k1 : (0 : Int32).toInt = 0 := ti_0; omega))
        refine lv_iconst (v := (-1)) hx hb dX12_stands_20 ic_m1 ?_
        have k99 : ((-1) : Int32).toInt = (-1) := ti_m1
        exact hret _ _ _ _ (-1) f L Q dX12_stands_21 hP hS ⟨⟨hI, hF, rfl, rfl⟩, (by decide), (Eq.trans (Eq.symm (hs.trans ((if_pos rfl).trans ((if_pos c_14).trans rfl)))) hsp)⟩
    · skip
      have hc_12 := hq
      refine lv_if_eq (tgt := 20) hx hb dX12_stands_13 (by decide) (fun c => ?_) (fun c => absurd c (by decide))
      refine lv_iconst (v := (-1)) hx hb dX12_stands_20 ic_m1 ?_
      have k99 : ((-1) : Int32).toInt = (-1) := ti_m1
      exact hret _ _ _ _ (-1) f L Q dX12_stands_21 hP hS ⟨⟨hI, hF, rfl, rfl⟩, (by decide), (Eq.trans (Eq.symm (hs.trans ((if_neg (by decide)).trans rfl))) hsp)⟩
  · skip
    have hc_6 := hq
    refine lv_iconst (v := (-1)) hx hb dX12_stands_5 ic_m1 ?_
    refine lv_icmp_eq (tgt := 20) hx hb dX12_stands_6 (by decide) (fun c => ?_) (fun c => ?_)
    · skip
      exfalso; have c_42 : r_4.toInt = (-1) := (by first | exact (cm_eq1 ti_m1 c) | (have z := Int32.toInt_inj.mpr c; have k1 : ((-1) : Int32).toInt = (-1) := ti_m1; omega)); first | exact absurd c_42 (by assumption) | omega
    · skip
      have c_43 : r_4.toInt ≠ (-1) := (by first | exact (cm_ne1 ti_m1 c) | (have z := bn_ne c; have k1 : ((-1) : Int32).toInt = (-1) := ti_m1; omega))
      refine lv_iload_n hx hb dX12_stands_9 rfl (lv_at hl 2 rfl) ?_
      refine sg_calli (va_runS (As := [.int x1]) (rest := []) ⟨hx, hb, hml, hown, hts⟩ (kX12_isPart l D ca za h hh f L Q hI x1 H.size) (va_cwS 1 hts (gw_S (fun _ h => List.mem_cons_of_mem _ h) mw_636 mw_637 mw_619 mw_635) rfl rfl rfl hd_yX12_isPart.2 ⟨Nat.le_of_ble_eq_true rfl, Nat.le_of_ble_eq_true rfl⟩) (sg_preS hA hK hP hS hZ) rfl rfl hl.1 rfl (lv_room (Nat.le_of_ble_eq_true rfl)) dX12_stands_10 ⟨Nat.le_refl _, Nat.le_refl _⟩) hA hS (fun r_47 f_44 L_45 Q_46 H locs hq hP hS => ?_)
      obtain ⟨⟨ef9, eL9, eQ9⟩, hq, u_48⟩ := hq
      rw [ef9, eL9, eQ9] at hP; clear ef9 eL9 eQ9
      rcases hq with ⟨rfl, hq⟩ | ⟨rfl, hq⟩
      · skip
        have hc_49 := hq
        refine lv_if_eq (tgt := 20) hx hb dX12_stands_13 (by decide) (fun c => absurd c (by decide)) (fun c => ?_)
        refine lv_iload_n hx hb dX12_stands_16 rfl (lv_at hl 3 rfl) ?_
        refine lv_if_ge (tgt := 22) hx hb dX12_stands_17 (by decide) (fun c => ?_) (fun c => ?_)
        · skip
          have c_50 : 0 ≤ x2.toInt := (by first | exact (cm_le0 ti_0 c) | (have z := bn_le c; have k1 : (0 : Int32).toInt = 0 := ti_0; omega))
          refine lv_aload_n hx hb dX12_stands_22 rfl (lv_at hl 0 rfl) ?_
          refine lv_iload_n hx hb dX12_stands_23 rfl (lv_at hl 1 rfl) ?_
          refine sg_calli (va_runV (As := [.int x0]) (rest := []) ⟨hx, hb, hml, hown, hts⟩ (kX12_bytesIs l D ca za h hh f L Q hI x0 H.size) (sl_c12_bytesIs_2_0_0_45_12 hts ⟨Nat.le_of_ble_eq_true rfl, Nat.le_of_ble_eq_true rfl⟩) (sl_vM_0 hA hK hP hS hZ) rfl rfl hl.1 rfl (lv_room (Nat.le_of_ble_eq_true rfl)) dX12_stands_24 ⟨Nat.le_refl _, Nat.le_refl _⟩) hA hS (fun r_55 f_52 L_53 Q_54 H locs hq hP hS => ?_)
          obtain ⟨⟨ef9, eL9, eQ9⟩, hq, u_56⟩ := hq
          rw [ef9, eL9, eQ9] at hP; clear ef9 eL9 eQ9
          rw [show r_55 = r_4 from u_56.trans u_5.symm]
          refine lv_if_ge (tgt := 36) hx hb dX12_stands_27 (by decide) (fun c => ?_) (fun c => ?_)
          · skip
            exfalso; have c_57 : 0 ≤ r_4.toInt := (by first | exact (cm_le0 ti_0 c) | (have z := bn_le c; have k1 : (0 : Int32).toInt = 0 := ti_0; omega)); omega
          · skip
            have c_58 : r_4.toInt < 0 := (by first | exact (cm_nle0 ti_0 c) | (have z := bn_nle c; have k1 : (0 : Int32).toInt = 0 := ti_0; omega))
            refine lv_aload_n hx hb dX12_stands_30 rfl (lv_at hl 0 rfl) ?_
            refine lv_iload_n hx hb dX12_stands_31 rfl (lv_at hl 1 rfl) ?_
            refine sg_calli (va_runV (As := [.int x0]) (rest := []) ⟨hx, hb, hml, hown, hts⟩ (kX12_bytesIs l D ca za h hh f L Q hI x0 H.size) (sl_c12_bytesIs_2_0_0_45_12 hts ⟨Nat.le_of_ble_eq_true rfl, Nat.le_of_ble_eq_true rfl⟩) (sl_vM_0 hA hK hP hS hZ) rfl rfl hl.1 rfl (lv_room (Nat.le_of_ble_eq_true rfl)) dX12_stands_32 ⟨Nat.le_refl _, Nat.le_refl _⟩) hA hS (fun r_62 f_59 L_60 Q_61 H locs hq hP hS => ?_)
            obtain ⟨⟨ef9, eL9, eQ9⟩, hq, u_63⟩ := hq
            rw [ef9, eL9, eQ9] at hP; clear ef9 eL9 eQ9
            rw [show r_62 = r_4 from u_63.trans u_5.symm]
            exact hret _ _ _ _ (r_4) f L Q dX12_stands_35 hP hS ⟨⟨hI, hF, rfl, rfl⟩, ⟨by omega, by omega⟩, (Eq.trans (Eq.symm (hs.trans ((if_neg (fun z9 => by have k9 : (1 : Int32).toInt = 1 := ti_1; have h9 := hc_6; rw [z9] at h9; omega)).trans ((if_neg (fun z9 => by have k9 : ((-1) : Int32).toInt = (-1) := ti_m1; have h9 := hc_6; rw [z9] at h9; omega)).trans (spl_e u_48 ((if_pos rfl).trans ((if_neg (Int.not_lt.mpr c_50)).trans rfl))))))) hsp)⟩
        · skip
          have c_51 : x2.toInt < 0 := (by first | exact (cm_nle0 ti_0 c) | (have z := bn_nle c; have k1 : (0 : Int32).toInt = 0 := ti_0; omega))
          refine lv_iconst (v := (-1)) hx hb dX12_stands_20 ic_m1 ?_
          have k99 : ((-1) : Int32).toInt = (-1) := ti_m1
          exact hret _ _ _ _ (-1) f L Q dX12_stands_21 hP hS ⟨⟨hI, hF, rfl, rfl⟩, (by decide), (Eq.trans (Eq.symm (hs.trans ((if_neg (fun z9 => by have k9 : (1 : Int32).toInt = 1 := ti_1; have h9 := hc_6; rw [z9] at h9; omega)).trans ((if_neg (fun z9 => by have k9 : ((-1) : Int32).toInt = (-1) := ti_m1; have h9 := hc_6; rw [z9] at h9; omega)).trans (spl_e u_48 ((if_pos rfl).trans ((if_pos c_51).trans rfl))))))) hsp)⟩
      · skip
        have hc_49 := hq
        refine lv_if_eq (tgt := 20) hx hb dX12_stands_13 (by decide) (fun c => ?_) (fun c => absurd c (by decide))
        refine lv_iconst (v := (-1)) hx hb dX12_stands_20 ic_m1 ?_
        have k99 : ((-1) : Int32).toInt = (-1) := ti_m1
        exact hret _ _ _ _ (-1) f L Q dX12_stands_21 hP hS ⟨⟨hI, hF, rfl, rfl⟩, (by decide), (Eq.trans (Eq.symm (hs.trans ((if_neg (fun z9 => by have k9 : (1 : Int32).toInt = 1 := ti_1; have h9 := hc_6; rw [z9] at h9; omega)).trans ((if_neg (fun z9 => by have k9 : ((-1) : Int32).toInt = (-1) := ti_m1; have h9 := hc_6; rw [z9] at h9; omega)).trans (spl_e u_48 ((if_neg (by decide)).trans rfl)))))) hsp)⟩
  · skip
    have hc_6 := hq
    refine lv_iconst (v := (-1)) hx hb dX12_stands_5 ic_m1 ?_
    refine lv_icmp_eq (tgt := 20) hx hb dX12_stands_6 (by decide) (fun c => ?_) (fun c => absurd c (by decide))
    refine lv_iconst (v := (-1)) hx hb dX12_stands_20 ic_m1 ?_
    have k99 : ((-1) : Int32).toInt = (-1) := ti_m1
    exact hret _ _ _ _ (-1) f L Q dX12_stands_21 hP hS ⟨⟨hI, hF, rfl, rfl⟩, (by decide), (Eq.trans (Eq.symm (hs.trans ((if_neg (by decide)).trans ((if_pos rfl).trans rfl)))) hsp)⟩

abbrev WkX12_pays : List (Nat × Nat × Option Nat) := [(0, 0, some 12), (0, 0, some 13), (0, 0, some 14), (0, 0, some 15), (0, 0, some 16), (0, 0, some 20), (0, 0, some 21), (0, 0, some 29), (0, 0, some 30), (0, 0, some 31), (8, 8, none), (12, 12, none), (13, 13, none)]
set_option maxHeartbeats 4000000 in
set_option maxRecDepth 100000 in
theorem kX12_pays (l : Launch) (D : va_G) (ca : Nat → ClassId) (za h : Nat → Nat) (hh : sgH 26 h) (f : sg_F) (L : sg_L) (Q : sg_Q) (hI : sgI loM hiM f) (x0 : Int32) (x1 : Int32) (x2 : Int32) (sz : Nat) : Met l yX12_pays gwX12_pays { frames := 47, cells := 0, slots := 0, locals := 1079 } (sgP D vwCl (tyX ca) 26 h (eM ca h) zcM za f L Q sz [.ref (h 0), .int x0, .int x1, .int x2]) (sgQi D vwCl 26 h (eM ca h) sz (fun r f1 L1 Q1 => ((sgI loM hiM f1 ∧ sgK WkX12_pays f f1 ∧ L1 = L ∧ Q1 = Q) ∧ True ∧ (r, f1) = sX12_pays x0 x1 x2 f L))) 0 0 (sgA 26 h sz) := by
  refine sg_ofWi (cc := cX12_pays) (maxL := 7) RX12 (by decide) rfl rfl (Nat.le_of_ble_eq_true rfl) ?_
  intro p e s m below meth cd Qz ls hx hb hml hown hts hK hZ hP hS hl hret
  have hA := sgY.self (n := 26) (h := h) (sz := s.heap.size)
  have hl : lv_has ls 7 [(0, .ref (h 0)), (1, .int x0), (2, .int x1), (3, .int x2)] := hl
  obtain ⟨H, hH⟩ : ∃ z : Heap, z = s.heap := ⟨_, rfl⟩
  obtain ⟨locs, hlo⟩ : ∃ z : List Loc, z = [] := ⟨_, rfl⟩
  have hP : va_P D vwCl (sgw 26 h (eM ca h) f L Q) H := by rw [hH]; exact hP
  have hS : va_S (sgA 26 h s.heap.size) s.heap H locs := by rw [hH, hlo]; exact hS
  suffices hgo : W p l e ({ frames := 47, cells := 0, slots := 0, locals := 1079 }) s m ([.ref (h 0), .int x0, .int x1, .int x2] : List Value).toArray below meth cd H locs 0 0 Qz (F0 m 0 ls []) by rw [hH, hlo] at hgo; exact hgo
  clear hH hlo
  obtain ⟨sp, hsp⟩ : ∃ z : Int32 × sg_F, z = sX12_pays x0 x1 x2 f L := ⟨_, rfl⟩
  have hs : sp = sX12_pays x0 x1 x2 f L := hsp
  have hF : sgK WkX12_pays f f := sgK.rf
  have loop_60 : ∀ (n_60 : Nat) (y4_60 : Int32) (y5_60 : Int32) (fp_60 : sg_F) (H : Heap) (locs : List Loc) (ls : Array Slot), sp = sX12_pays_l60 x0 x1 x2 n_60 y4_60 y5_60 fp_60 L → 61 - (fp_60 0 21).toInt < (n_60 : Int) → 0 ≤ (fp_60 0 20).toInt ∧ (fp_60 0 20).toInt ≤ 7 → 0 ≤ x0.toInt ∧ x0.toInt ≤ 5 → 0 ≤ x1.toInt ∧ x1.toInt ≤ 7 → 0 ≤ x2.toInt ∧ x2.toInt ≤ 1 → 0 ≤ y4_60.toInt ∧ y4_60.toInt ≤ 60 → sgI loM hiM fp_60 → sgK WkX12_pays f fp_60 → va_P D vwCl (sgw 26 h (eM ca h) fp_60 L Q) H → va_S (sgA 26 h s.heap.size) s.heap H locs → lv_has ls 7 [(0, .ref (h 0)), (1, .int x0), (3, .int x2), (4, .int y4_60), (5, .int y5_60)] → W p l e ({ frames := 47, cells := 0, slots := 0, locals := 1079 }) s m ([.ref (h 0), .int x0, .int x1, .int x2] : List Value).toArray below meth cd H locs 0 0 Qz (F0 m 60 ls []) := by
    intro n_60
    induction n_60 with
    | zero => intro y4_60 y5_60 fp_60 H locs ls hs hm_60 hy0_60 hy1_60 hy2_60 hy3_60 hy4_60 hI hF hP hS hl; have zb := (show 0 ≤ (fp_60 0 21).toInt ∧ (fp_60 0 21).toInt ≤ 61 from hI 0 21); exact absurd hm_60 (by omega)
    | succ n_60 ih_60 =>
      have blk_111 : ∀ (y4_111 : Int32) (y6_111 : Int32) (fp_111 : sg_F) (H : Heap) (locs : List Loc) (ls : Array Slot), sp = sX12_pays_b111 (sX12_pays_l60 x0 x1 x2 n_60) x0 x1 x2 y4_111 y6_111 fp_111 L → 61 - (fp_111 0 21).toInt < ((n_60 + 1 : Nat) : Int) → 0 ≤ (fp_111 0 20).toInt ∧ (fp_111 0 20).toInt ≤ 7 → 0 ≤ (fp_111 0 21).toInt ∧ (fp_111 0 21).toInt ≤ 60 → 0 ≤ x0.toInt ∧ x0.toInt ≤ 5 → 0 ≤ x1.toInt ∧ x1.toInt ≤ 7 → 0 ≤ x2.toInt ∧ x2.toInt ≤ 1 → 0 ≤ y4_111.toInt ∧ y4_111.toInt ≤ 60 → sgI loM hiM fp_111 → sgK WkX12_pays f fp_111 → va_P D vwCl (sgw 26 h (eM ca h) fp_111 L Q) H → va_S (sgA 26 h s.heap.size) s.heap H locs → lv_has ls 7 [(0, .ref (h 0)), (1, .int x0), (3, .int x2), (4, .int y4_111), (6, .int y6_111)] → W p l e ({ frames := 47, cells := 0, slots := 0, locals := 1079 }) s m ([.ref (h 0), .int x0, .int x1, .int x2] : List Value).toArray below meth cd H locs 0 0 Qz (F0 m 111 ls []) := by
        intro y4_111 y6_111 fp_111 H locs ls hs hm_60 hy0_111 hy1_111 hy2_111 hy3_111 hy4_111 hy5_111 hI hF hP hS hl
        obtain ⟨v_1, ev_1⟩ : ∃ z : Int32, z = fp_111 0 20 := ⟨_, rfl⟩
        have q_2 : (-1) ≤ v_1.toInt ∧ v_1.toInt ≤ 7 := by rw [ev_1]; exact hI 0 20
        have q_3 : (fp_111 0 20).toInt = v_1.toInt := by rw [ev_1]
        obtain ⟨v_4, ev_4⟩ : ∃ z : Int32, z = fp_111 0 21 := ⟨_, rfl⟩
        have q_5 : 0 ≤ v_4.toInt ∧ v_4.toInt ≤ 61 := by rw [ev_4]; exact hI 0 21
        have q_6 : (fp_111 0 21).toInt = v_4.toInt := by rw [ev_4]
        refine lv_iload hx hb dX12_pays_111 (lv_at hl 4 rfl) ?_
        refine lv_goto (tgt := 118) hx hb dX12_pays_113 (by decide) ?_
        refine lv_istore (lv' := [(5, .int y6_111), (0, .ref (h 0)), (1, .int x0), (3, .int x2), (4, .int y4_111), (6, .int y6_111)]) hx hb dX12_pays_118 hl (by decide) rfl (fun ls hl => ?_)
        refine lv_aload_n hx hb dX12_pays_120 rfl (lv_at hl 1 rfl) ?_
        refine lv_dup hx hb dX12_pays_121 rfl ?_
        refine sl_gM_0_21_12 (v := v_4) hx hb hts hown hK hP (show fp_111 0 21 = v_4 from ev_4.symm) dX12_pays_122 ?_
        refine lv_iconst (v := 1) hx hb dX12_pays_125 ic_1 ?_
        refine lv_iadd hx hb dX12_pays_126 ?_
        refine lv_topi (fun v_7 ev_7 => ?_)
        have q_8 : v_7.toInt = v_4.toInt + 1 := by rw [ev_7]; first | exact cm_add ti_1 (by omega) (by omega) | (have k1 : (1 : Int32).toInt = 1 := ti_1; exact (bn_addI (by omega) (by omega)).trans (by omega))
        refine sl_pM_0_21_12 (x := v_7) hx hb hts hown hh hA hK hP hS dX12_pays_127 (fun f_9 H locs ef_9 hP hS => ?_)
        have hI : sgI loM hiM f_9 := by rw [ef_9]; exact sgI.put hI 0 21 (show 0 ≤ (v_7 : Int32).toInt ∧ (v_7 : Int32).toInt ≤ 61 from ⟨by omega, by omega⟩)
        have hF : sgK WkX12_pays f f_9 := sgK.put hF ef_9 (by rfl)
        refine lv_goto (tgt := 60) hx hb dX12_pays_130 (by decide) ?_
        exact ih_60 y4_111 y6_111 f_9 _ _ _ (hs.trans ((spl_e ev_1 (spl_e ev_4 (spl_e ev_7 (spl_e ef_9 rfl)))))) (by have zz0_21 : (f_9 0 21).toInt = v_7.toInt := (congrArg Int32.toInt (show f_9 0 21 = v_7 from (by rw [ef_9, sg_up_s, sgu_s]))); omega) (by have zz0_20 : (f_9 0 20).toInt = v_1.toInt := (congrArg Int32.toInt (show f_9 0 20 = v_1 from (by rw [ef_9, sg_up_s, sgu_n (by decide)]; exact ev_1.symm))); exact ⟨by omega, by omega⟩) hy2_111 hy3_111 hy4_111 hy5_111 hI hF hP hS (lv_sub hl [1, 2, 3, 4, 0] rfl)
      have blk_88 : ∀ (y5_88 : Int32) (y6_88 : Int32) (fp_88 : sg_F) (H : Heap) (locs : List Loc) (ls : Array Slot), sp = sX12_pays_b88 (sX12_pays_l60 x0 x1 x2 n_60) x0 x1 x2 y5_88 y6_88 fp_88 L → 61 - (fp_88 0 21).toInt < ((n_60 + 1 : Nat) : Int) → 0 ≤ (fp_88 0 20).toInt ∧ (fp_88 0 20).toInt ≤ 7 → 0 ≤ (fp_88 0 21).toInt ∧ (fp_88 0 21).toInt ≤ 60 → 0 ≤ x0.toInt ∧ x0.toInt ≤ 5 → 0 ≤ x1.toInt ∧ x1.toInt ≤ 7 → 0 ≤ x2.toInt ∧ x2.toInt ≤ 1 → sgI loM hiM fp_88 → sgK WkX12_pays f fp_88 → va_P D vwCl (sgw 26 h (eM ca h) fp_88 L Q) H → va_S (sgA 26 h s.heap.size) s.heap H locs → lv_has ls 7 [(0, .ref (h 0)), (1, .int x0), (3, .int x2), (5, .int y5_88), (6, .int y6_88)] → W p l e ({ frames := 47, cells := 0, slots := 0, locals := 1079 }) s m ([.ref (h 0), .int x0, .int x1, .int x2] : List Value).toArray below meth cd H locs 0 0 Qz (F0 m 88 ls []) := by
        intro y5_88 y6_88 fp_88 H locs ls hs hm_60 hy0_88 hy1_88 hy2_88 hy3_88 hy4_88 hI hF hP hS hl
        obtain ⟨v_10, ev_10⟩ : ∃ z : Int32, z = fp_88 0 20 := ⟨_, rfl⟩
        have q_11 : (-1) ≤ v_10.toInt ∧ v_10.toInt ≤ 7 := by rw [ev_10]; exact hI 0 20
        have q_12 : (fp_88 0 20).toInt = v_10.toInt := by rw [ev_10]
        obtain ⟨v_13, ev_13⟩ : ∃ z : Int32, z = fp_88 0 21 := ⟨_, rfl⟩
        replace hs := hs.trans (spl_e ev_10 (spl_e ev_13 rfl))
        have q_14 : 0 ≤ v_13.toInt ∧ v_13.toInt ≤ 61 := by rw [ev_13]; exact hI 0 21
        have q_15 : (fp_88 0 21).toInt = v_13.toInt := by rw [ev_13]
        refine lv_aload_n hx hb dX12_pays_88 rfl (lv_at hl 0 rfl) ?_
        refine sl_gM_0_21_12 (v := v_13) hx hb hts hown hK hP (show fp_88 0 21 = v_13 from ev_13.symm) dX12_pays_89 ?_
        refine lv_goto (tgt := 97) hx hb dX12_pays_92 (by decide) ?_
        refine lv_istore (lv' := [(4, .int v_13), (0, .ref (h 0)), (1, .int x0), (3, .int x2), (5, .int y5_88), (6, .int y6_88)]) hx hb dX12_pays_97 hl (by decide) rfl (fun ls hl => ?_)
        refine lv_iload hx hb dX12_pays_99 (lv_at hl 4 rfl) ?_
        refine lv_if_lt (tgt := 111) hx hb dX12_pays_101 (by decide) (fun c => ?_) (fun c => ?_)
        · skip
          have c_16 : y5_88.toInt < 0 := (by first | exact (cm_lt1 ti_0 c) | (have z := bn_lt c; have k1 : (0 : Int32).toInt = 0 := ti_0; omega))
          exact blk_111 v_13 y6_88 fp_88 _ _ _ (hs.trans ((if_pos c_16).trans rfl)) (by have zz0_21 : (fp_88 0 21).toInt = v_13.toInt := (congrArg Int32.toInt (show fp_88 0 21 = v_13 from ev_13.symm)); omega) (by have zz0_20 : (fp_88 0 20).toInt = v_10.toInt := (congrArg Int32.toInt (show fp_88 0 20 = v_10 from ev_10.symm)); exact ⟨by omega, by omega⟩) (by have zz0_21 : (fp_88 0 21).toInt = v_13.toInt := (congrArg Int32.toInt (show fp_88 0 21 = v_13 from ev_13.symm)); exact ⟨by omega, by omega⟩) hy2_88 hy3_88 hy4_88 ⟨by omega, by omega⟩ hI hF hP hS (lv_sub hl [1, 2, 3, 0, 5] rfl)
        · skip
          have c_17 : 0 ≤ y5_88.toInt := (by first | exact (cm_nlt1 ti_0 c) | (have z := bn_nlt c; have k1 : (0 : Int32).toInt = 0 := ti_0; omega))
          replace hs := hs.trans ((if_neg (Int.not_lt.mpr c_17)).trans rfl)
          refine lv_iload hx hb dX12_pays_104 (lv_at hl 5 rfl) ?_
          refine lv_iload hx hb dX12_pays_106 (lv_at hl 4 rfl) ?_
          refine lv_icmp_ge (tgt := 116) hx hb dX12_pays_108 (by decide) (fun c => ?_) (fun c => ?_)
          · skip
            have c_18 : y5_88.toInt ≤ y6_88.toInt := (by first | exact (bn_le c) | (have z := bn_le c; omega))
            refine lv_iload hx hb dX12_pays_116 (lv_at hl 4 rfl) ?_
            refine lv_istore (lv' := [(5, .int y5_88), (4, .int v_13), (0, .ref (h 0)), (1, .int x0), (3, .int x2), (6, .int y6_88)]) hx hb dX12_pays_118 hl (by decide) rfl (fun ls hl => ?_)
            refine lv_aload_n hx hb dX12_pays_120 rfl (lv_at hl 2 rfl) ?_
            refine lv_dup hx hb dX12_pays_121 rfl ?_
            refine sl_gM_0_21_12 (v := v_13) hx hb hts hown hK hP (show fp_88 0 21 = v_13 from ev_13.symm) dX12_pays_122 ?_
            refine lv_iconst (v := 1) hx hb dX12_pays_125 ic_1 ?_
            refine lv_iadd hx hb dX12_pays_126 ?_
            refine lv_topi (fun v_20 ev_20 => ?_)
            have q_21 : v_20.toInt = v_13.toInt + 1 := by rw [ev_20]; first | exact cm_add ti_1 (by omega) (by omega) | (have k1 : (1 : Int32).toInt = 1 := ti_1; exact (bn_addI (by omega) (by omega)).trans (by omega))
            refine sl_pM_0_21_12 (x := v_20) hx hb hts hown hh hA hK hP hS dX12_pays_127 (fun f_22 H locs ef_22 hP hS => ?_)
            have hI : sgI loM hiM f_22 := by rw [ef_22]; exact sgI.put hI 0 21 (show 0 ≤ (v_20 : Int32).toInt ∧ (v_20 : Int32).toInt ≤ 61 from ⟨by omega, by omega⟩)
            have hF : sgK WkX12_pays f f_22 := sgK.put hF ef_22 (by rfl)
            refine lv_goto (tgt := 60) hx hb dX12_pays_130 (by decide) ?_
            exact ih_60 v_13 y5_88 f_22 _ _ _ (hs.trans ((if_neg (Int.not_lt.mpr c_18)).trans (spl_e ev_20 (spl_e ef_22 rfl)))) (by have zz0_21 : (f_22 0 21).toInt = v_20.toInt := (congrArg Int32.toInt (show f_22 0 21 = v_20 from (by rw [ef_22, sg_up_s, sgu_s]))); omega) (by have zz0_20 : (f_22 0 20).toInt = v_10.toInt := (congrArg Int32.toInt (show f_22 0 20 = v_10 from (by rw [ef_22, sg_up_s, sgu_n (by decide)]; exact ev_10.symm))); exact ⟨by omega, by omega⟩) hy2_88 hy3_88 hy4_88 ⟨by omega, by omega⟩ hI hF hP hS (lv_sub hl [2, 3, 4, 1, 0] rfl)
          · skip
            have c_19 : y6_88.toInt < y5_88.toInt := (by first | exact (bn_nle c) | (have z := bn_nle c; omega))
            exact blk_111 v_13 y6_88 fp_88 _ _ _ (hs.trans ((if_pos c_19).trans rfl)) (by have zz0_21 : (fp_88 0 21).toInt = v_13.toInt := (congrArg Int32.toInt (show fp_88 0 21 = v_13 from ev_13.symm)); omega) (by have zz0_20 : (fp_88 0 20).toInt = v_10.toInt := (congrArg Int32.toInt (show fp_88 0 20 = v_10 from ev_10.symm)); exact ⟨by omega, by omega⟩) (by have zz0_21 : (fp_88 0 21).toInt = v_13.toInt := (congrArg Int32.toInt (show fp_88 0 21 = v_13 from ev_13.symm)); exact ⟨by omega, by omega⟩) hy2_88 hy3_88 hy4_88 ⟨by omega, by omega⟩ hI hF hP hS (lv_sub hl [1, 2, 3, 0, 5] rfl)
      intro y4_60 y5_60 fp_60 H locs ls hs hm_60 hy0_60 hy1_60 hy2_60 hy3_60 hy4_60 hI hF hP hS hl
      have hs : sp = sX12_pays_h60 x0 x1 x2 (sX12_pays_l60 x0 x1 x2 n_60) y4_60 y5_60 fp_60 L := hs
      obtain ⟨v_23, ev_23⟩ : ∃ z : Int32, z = fp_60 0 20 := ⟨_, rfl⟩
      have q_24 : (-1) ≤ v_23.toInt ∧ v_23.toInt ≤ 7 := by rw [ev_23]; exact hI 0 20
      have q_25 : (fp_60 0 20).toInt = v_23.toInt := by rw [ev_23]
      obtain ⟨v_26, ev_26⟩ : ∃ z : Int32, z = fp_60 0 21 := ⟨_, rfl⟩
      replace hs := hs.trans (spl_e ev_23 (spl_e ev_26 rfl))
      have q_27 : 0 ≤ v_26.toInt ∧ v_26.toInt ≤ 61 := by rw [ev_26]; exact hI 0 21
      have q_28 : (fp_60 0 21).toInt = v_26.toInt := by rw [ev_26]
      refine lv_aload_n hx hb dX12_pays_60 rfl (lv_at hl 0 rfl) ?_
      refine sl_gM_0_21_12 (v := v_26) hx hb hts hown hK hP (show fp_60 0 21 = v_26 from ev_26.symm) dX12_pays_61 ?_
      refine lv_bipush (v := 61) hx hb dX12_pays_64 bp_61 ?_
      refine lv_icmp_ge (tgt := 133) hx hb dX12_pays_66 (by decide) (fun c => ?_) (fun c => ?_)
      · skip
        have c_29 : 61 ≤ v_26.toInt := (by first | exact (cm_le0 ti_61 c) | (have z := bn_le c; have k1 : (61 : Int32).toInt = 61 := ti_61; omega))
        refine lv_aload_n hx hb dX12_pays_133 rfl (lv_at hl 0 rfl) ?_
        refine lv_iconst (v := (-1)) hx hb dX12_pays_134 ic_m1 ?_
        refine sl_pM_0_20_12 (x := (-1)) hx hb hts hown hh hA hK hP hS dX12_pays_135 (fun f_31 H locs ef_31 hP hS => ?_)
        replace hs := hs.trans ((if_neg (Int.not_lt.mpr c_29)).trans (spl_e ef_31 rfl))
        have hI : sgI loM hiM f_31 := by rw [ef_31]; exact sgI.put hI 0 20 (show (-1) ≤ ((-1) : Int32).toInt ∧ ((-1) : Int32).toInt ≤ 7 from by decide)
        have hF : sgK WkX12_pays f f_31 := sgK.put hF ef_31 (by rfl)
        refine lv_iload_n hx hb dX12_pays_138 rfl (lv_at hl 2 rfl) ?_
        refine lv_if_ne (tgt := 147) hx hb dX12_pays_139 (by decide) (fun c => ?_) (fun c => ?_)
        · skip
          have c_32 : x2.toInt ≠ 0 := (by first | exact (cm_ne1 ti_0 c) | (have z := bn_ne c; have k1 : (0 : Int32).toInt = 0 := ti_0; omega))
          refine lv_iload hx hb dX12_pays_147 (lv_at hl 4 rfl) ?_
          exact hret _ _ _ _ (y5_60) f_31 L Q dX12_pays_149 hP hS ⟨⟨hI, hF, rfl, rfl⟩, trivial, (Eq.trans (Eq.symm (hs.trans ((if_neg c_32).trans rfl))) hsp)⟩
        · skip
          have c_33 : x2.toInt = 0 := (by first | exact (cm_eq1 ti_0 c) | (have z := Int32.toInt_inj.mpr c; have k1 : (0 : Int32).toInt = 0 := ti_0; omega))
          refine lv_iload hx hb dX12_pays_142 (lv_at hl 3 rfl) ?_
          refine lv_goto (tgt := 149) hx hb dX12_pays_144 (by decide) ?_
          exact hret _ _ _ _ (y4_60) f_31 L Q dX12_pays_149 hP hS ⟨⟨hI, hF, rfl, rfl⟩, trivial, (Eq.trans (Eq.symm (hs.trans ((if_pos c_33).trans rfl))) hsp)⟩
      · skip
        have c_30 : v_26.toInt < 61 := (by first | exact (cm_nle0 ti_61 c) | (have z := bn_nle c; have k1 : (61 : Int32).toInt = 61 := ti_61; omega))
        refine lv_aload_n hx hb dX12_pays_69 rfl (lv_at hl 0 rfl) ?_
        refine lv_iload_n hx hb dX12_pays_70 rfl (lv_at hl 1 rfl) ?_
        refine sg_calli (va_runV (As := [.int x0]) (rest := []) ⟨hx, hb, hml, hown, hts⟩ (kX12_weekOf l D ca za h hh fp_60 L Q hI x0 hy1_60 H.size) (sl_c12_weekOf_46_0_0_1055_12 hts ⟨Nat.le_of_ble_eq_true rfl, Nat.le_of_ble_eq_true rfl⟩) (sl_vM_0 hA hK hP hS hZ) rfl rfl hl.1 rfl (lv_room (Nat.le_of_ble_eq_true rfl)) dX12_pays_71 ⟨Nat.le_refl _, Nat.le_refl _⟩) hA hS (fun r_37 f_34 L_35 Q_36 H locs hq hP hS => ?_)
        obtain ⟨⟨hI, hk_f_34, eL9, eQ9⟩, hq, u_38⟩ := hq
        replace hs := hs.trans ((if_pos c_30).trans (spl2_e u_38 rfl))
        rw [eL9, eQ9] at hP; clear eL9 eQ9
        have hF : sgK WkX12_pays f f_34 := sgK.tr hF hk_f_34 (by decide +kernel)
        refine lv_istore (lv' := [(6, .int r_37), (0, .ref (h 0)), (1, .int x0), (3, .int x2), (4, .int y4_60), (5, .int y5_60)]) hx hb dX12_pays_74 hl (by decide) rfl (fun ls hl => ?_)
        refine lv_iload hx hb dX12_pays_76 (lv_at hl 5 rfl) ?_
        refine lv_if_lt (tgt := 88) hx hb dX12_pays_78 (by decide) (fun c => ?_) (fun c => ?_)
        · skip
          have c_39 : y5_60.toInt < 0 := (by first | exact (cm_lt1 ti_0 c) | (have z := bn_lt c; have k1 : (0 : Int32).toInt = 0 := ti_0; omega))
          exact blk_88 y5_60 r_37 f_34 _ _ _ (hs.trans ((if_pos c_39).trans rfl)) (by have zz0_21 : (f_34 0 21).toInt = v_26.toInt := (congrArg Int32.toInt (show f_34 0 21 = v_26 from ((hk_f_34 0 21 (by decide)).trans ev_26.symm))); omega) (by have zz0_20 : (f_34 0 20).toInt = v_23.toInt := (congrArg Int32.toInt (show f_34 0 20 = v_23 from ((hk_f_34 0 20 (by decide)).trans ev_23.symm))); exact ⟨by omega, by omega⟩) (by have zz0_21 : (f_34 0 21).toInt = v_26.toInt := (congrArg Int32.toInt (show f_34 0 21 = v_26 from ((hk_f_34 0 21 (by decide)).trans ev_26.symm))); exact ⟨by omega, by omega⟩) hy1_60 hy2_60 hy3_60 hI hF hP hS (lv_sub hl [1, 2, 3, 5, 0] rfl)
        · skip
          have c_40 : 0 ≤ y5_60.toInt := (by first | exact (cm_nlt1 ti_0 c) | (have z := bn_nlt c; have k1 : (0 : Int32).toInt = 0 := ti_0; omega))
          replace hs := hs.trans ((if_neg (Int.not_lt.mpr c_40)).trans rfl)
          refine lv_iload hx hb dX12_pays_81 (lv_at hl 0 rfl) ?_
          refine lv_iload hx hb dX12_pays_83 (lv_at hl 5 rfl) ?_
          refine lv_icmp_ge (tgt := 95) hx hb dX12_pays_85 (by decide) (fun c => ?_) (fun c => ?_)
          · skip
            have c_41 : y5_60.toInt ≤ r_37.toInt := (by first | exact (bn_le c) | (have z := bn_le c; omega))
            replace hs := hs.trans ((if_neg (Int.not_lt.mpr c_41)).trans rfl)
            refine lv_iload hx hb dX12_pays_95 (lv_at hl 4 rfl) ?_
            refine lv_istore (lv' := [(4, .int y4_60), (6, .int r_37), (0, .ref (h 0)), (1, .int x0), (3, .int x2), (5, .int y5_60)]) hx hb dX12_pays_97 hl (by decide) rfl (fun ls hl => ?_)
            refine lv_iload hx hb dX12_pays_99 (lv_at hl 5 rfl) ?_
            refine lv_if_lt (tgt := 111) hx hb dX12_pays_101 (by decide) (fun c => ?_) (fun c => ?_)
            · skip
              exfalso; have c_43 : y5_60.toInt < 0 := (by first | exact (cm_lt1 ti_0 c) | (have z := bn_lt c; have k1 : (0 : Int32).toInt = 0 := ti_0; omega)); omega
            · skip
              have c_44 : 0 ≤ y5_60.toInt := (by first | exact (cm_nlt1 ti_0 c) | (have z := bn_nlt c; have k1 : (0 : Int32).toInt = 0 := ti_0; omega))
              refine lv_iload hx hb dX12_pays_104 (lv_at hl 1 rfl) ?_
              refine lv_iload hx hb dX12_pays_106 (lv_at hl 5 rfl) ?_
              refine lv_icmp_ge (tgt := 116) hx hb dX12_pays_108 (by decide) (fun c => ?_) (fun c => ?_)
              · skip
                have c_45 : y5_60.toInt ≤ r_37.toInt := (by first | exact (bn_le c) | (have z := bn_le c; omega))
                refine lv_iload hx hb dX12_pays_116 (lv_at hl 5 rfl) ?_
                refine lv_istore (lv' := [(5, .int y5_60), (4, .int y4_60), (6, .int r_37), (0, .ref (h 0)), (1, .int x0), (3, .int x2)]) hx hb dX12_pays_118 hl (by decide) rfl (fun ls hl => ?_)
                refine lv_aload_n hx hb dX12_pays_120 rfl (lv_at hl 3 rfl) ?_
                refine lv_dup hx hb dX12_pays_121 rfl ?_
                refine sl_gM_0_21_12 (v := v_26) hx hb hts hown hK hP (show f_34 0 21 = v_26 from ((hk_f_34 0 21 (by decide)).trans ev_26.symm)) dX12_pays_122 ?_
                refine lv_iconst (v := 1) hx hb dX12_pays_125 ic_1 ?_
                refine lv_iadd hx hb dX12_pays_126 ?_
                refine lv_topi (fun v_47 ev_47 => ?_)
                have q_48 : v_47.toInt = v_26.toInt + 1 := by rw [ev_47]; first | exact cm_add ti_1 (by omega) (by omega) | (have k1 : (1 : Int32).toInt = 1 := ti_1; exact (bn_addI (by omega) (by omega)).trans (by omega))
                refine sl_pM_0_21_12 (x := v_47) hx hb hts hown hh hA hK hP hS dX12_pays_127 (fun f_49 H locs ef_49 hP hS => ?_)
                have hI : sgI loM hiM f_49 := by rw [ef_49]; exact sgI.put hI 0 21 (show 0 ≤ (v_47 : Int32).toInt ∧ (v_47 : Int32).toInt ≤ 61 from ⟨by omega, by omega⟩)
                have hF : sgK WkX12_pays f f_49 := sgK.put hF ef_49 (by rfl)
                refine lv_goto (tgt := 60) hx hb dX12_pays_130 (by decide) ?_
                exact ih_60 y4_60 y5_60 f_49 _ _ _ (hs.trans ((if_neg (Int.not_lt.mpr c_45)).trans (spl_e ev_47 (spl_e ef_49 rfl)))) (by have zz0_21 : (f_49 0 21).toInt = v_47.toInt := (congrArg Int32.toInt (show f_49 0 21 = v_47 from (by rw [ef_49, sg_up_s, sgu_s]))); omega) (by have zz0_20 : (f_49 0 20).toInt = v_23.toInt := (congrArg Int32.toInt (show f_49 0 20 = v_23 from (by rw [ef_49, sg_up_s, sgu_n (by decide)]; exact ((hk_f_34 0 20 (by decide)).trans ev_23.symm)))); exact ⟨by omega, by omega⟩) hy1_60 hy2_60 hy3_60 hy4_60 hI hF hP hS (lv_sub hl [3, 4, 5, 1, 0] rfl)
              · skip
                have c_46 : r_37.toInt < y5_60.toInt := (by first | exact (bn_nle c) | (have z := bn_nle c; omega))
                exact blk_111 y4_60 r_37 f_34 _ _ _ (hs.trans ((if_pos c_46).trans rfl)) (by have zz0_21 : (f_34 0 21).toInt = v_26.toInt := (congrArg Int32.toInt (show f_34 0 21 = v_26 from ((hk_f_34 0 21 (by decide)).trans ev_26.symm))); omega) (by have zz0_20 : (f_34 0 20).toInt = v_23.toInt := (congrArg Int32.toInt (show f_34 0 20 = v_23 from ((hk_f_34 0 20 (by decide)).trans ev_23.symm))); exact ⟨by omega, by omega⟩) (by have zz0_21 : (f_34 0 21).toInt = v_26.toInt := (congrArg Int32.toInt (show f_34 0 21 = v_26 from ((hk_f_34 0 21 (by decide)).trans ev_26.symm))); exact ⟨by omega, by omega⟩) hy1_60 hy2_60 hy3_60 hy4_60 hI hF hP hS (lv_sub hl [2, 3, 4, 0, 1] rfl)
          · skip
            have c_42 : r_37.toInt < y5_60.toInt := (by first | exact (bn_nle c) | (have z := bn_nle c; omega))
            exact blk_88 y5_60 r_37 f_34 _ _ _ (hs.trans ((if_pos c_42).trans rfl)) (by have zz0_21 : (f_34 0 21).toInt = v_26.toInt := (congrArg Int32.toInt (show f_34 0 21 = v_26 from ((hk_f_34 0 21 (by decide)).trans ev_26.symm))); omega) (by have zz0_20 : (f_34 0 20).toInt = v_23.toInt := (congrArg Int32.toInt (show f_34 0 20 = v_23 from ((hk_f_34 0 20 (by decide)).trans ev_23.symm))); exact ⟨by omega, by omega⟩) (by have zz0_21 : (f_34 0 21).toInt = v_26.toInt := (congrArg Int32.toInt (show f_34 0 21 = v_26 from ((hk_f_34 0 21 (by decide)).trans ev_26.symm))); exact ⟨by omega, by omega⟩) hy1_60 hy2_60 hy3_60 hI hF hP hS (lv_sub hl [1, 2, 3, 5, 0] rfl)
  refine lv_aload_n hx hb dX12_pays_0 rfl (lv_at hl 0 rfl) ?_
  refine lv_iload_n hx hb dX12_pays_1 rfl (lv_at hl 1 rfl) ?_
  refine sg_calli (va_runV (As := [.int x0]) (rest := []) ⟨hx, hb, hml, hown, hts⟩ (kX12_bytesIs l D ca za h hh f L Q hI x0 H.size) (sl_c12_bytesIs_2_0_0_45_12 hts ⟨Nat.le_of_ble_eq_true rfl, Nat.le_of_ble_eq_true rfl⟩) (sl_vM_0 hA hK hP hS hZ) rfl rfl hl.1 rfl (lv_room (Nat.le_of_ble_eq_true rfl)) dX12_pays_2 ⟨Nat.le_refl _, Nat.le_refl _⟩) hA hS (fun r_53 f_50 L_51 Q_52 H locs hq hP hS => ?_)
  obtain ⟨⟨ef9, eL9, eQ9⟩, hq, u_54⟩ := hq
  replace hs := hs.trans (spl_e u_54 rfl)
  rw [ef9, eL9, eQ9] at hP; clear ef9 eL9 eQ9
  rcases hq with ⟨rfl, hq⟩ | hq | ⟨rfl, hq⟩
  · skip
    have hc_55 := hq
    refine lv_iconst (v := (-1)) hx hb dX12_pays_5 ic_m1 ?_
    refine lv_icmp_eq (tgt := 28) hx hb dX12_pays_6 (by decide) (fun c => absurd c (by decide)) (fun c => ?_)
    refine lv_aload_n hx hb dX12_pays_9 rfl (lv_at hl 0 rfl) ?_
    refine lv_iload_n hx hb dX12_pays_10 rfl (lv_at hl 2 rfl) ?_
    obtain ⟨w_56, ew_56⟩ : ∃ z : Int64, z = Int32.toInt64 x1 := ⟨_, rfl⟩
    have q_57 : w_56.toInt = x1.toInt := by rw [ew_56]; exact Int32.toInt_toInt64 _
    refine lv_i2l (v := w_56) hx hb dX12_pays_11 ew_56.symm ?_
    obtain ⟨v_58, ev_58⟩ : ∃ z : Int32, z = f 0 6 := ⟨_, rfl⟩
    have q_59 : 0 ≤ v_58.toInt ∧ v_58.toInt ≤ 8 := by rw [ev_58]; exact hI 0 6
    have q_60 : (f 0 6).toInt = v_58.toInt := (congrArg Int32.toInt (show f 0 6 = v_58 from ev_58.symm))
    refine sg_calli (va_runV (As := [.long w_56]) (rest := []) ⟨hx, hb, hml, hown, hts⟩ (kX12_isSitter l D ca za h hh f L Q hI w_56 H.size) (sl_c12_isSitter_1_0_0_25_12 hts ⟨Nat.le_of_ble_eq_true rfl, Nat.le_of_ble_eq_true rfl⟩) (sl_vM_0 hA hK hP hS hZ) rfl rfl hl.1 rfl (lv_room (Nat.le_of_ble_eq_true rfl)) dX12_pays_12 ⟨Nat.le_refl _, Nat.le_refl _⟩) hA hS (fun r_65 f_62 L_63 Q_64 H locs hq hP hS => ?_)
    obtain ⟨⟨ef9, eL9, eQ9⟩, hq, u_66⟩ := hq
    replace hs := hs.trans ((if_pos rfl).trans (spl_e ew_56 (spl_e ev_58 (spl_e u_66 rfl))))
    rw [ef9, eL9, eQ9] at hP; clear ef9 eL9 eQ9
    rcases hq with ⟨rfl, hq⟩ | ⟨rfl, hq⟩
    · skip
      have hc_67 := hq
      refine lv_if_eq (tgt := 28) hx hb dX12_pays_15 (by decide) (fun c => absurd c (by decide)) (fun c => ?_)
      refine lv_iload_n hx hb dX12_pays_18 rfl (lv_at hl 3 rfl) ?_
      obtain ⟨w_68, ew_68⟩ : ∃ z : Int64, z = Int32.toInt64 x2 := ⟨_, rfl⟩
      have q_69 : w_68.toInt = x2.toInt := by rw [ew_68]; exact Int32.toInt_toInt64 _
      refine lv_i2l (v := w_68) hx hb dX12_pays_19 ew_68.symm ?_
      refine lv_lconst (v := 0) hx hb dX12_pays_20 (by decide) ?_
      refine lv_lconst (v := 1) hx hb dX12_pays_21 (by decide) ?_
      refine sg_calli (va_runS (As := [.long w_68, .long 0, .long 1]) (rest := []) ⟨hx, hb, hml, hown, hts⟩ (kX12_within l D ca za h hh f L Q hI w_68 0 1 H.size) (va_cwS 3 hts (gw_S (fun _ h => List.mem_cons_of_mem _ h) mw_631 mw_632 mw_619 mw_630) rfl rfl rfl hd_yX12_within.2 ⟨Nat.le_of_ble_eq_true rfl, Nat.le_of_ble_eq_true rfl⟩) (sg_preS hA hK hP hS hZ) rfl rfl hl.1 rfl (lv_room (Nat.le_of_ble_eq_true rfl)) dX12_pays_22 ⟨Nat.le_refl _, Nat.le_refl _⟩) hA hS (fun r_73 f_70 L_71 Q_72 H locs hq hP hS => ?_)
      obtain ⟨⟨ef9, eL9, eQ9⟩, hq, u_74⟩ := hq
      replace hs := hs.trans ((if_pos rfl).trans (spl_e ew_68 (spl_e u_74 rfl)))
      rw [ef9, eL9, eQ9] at hP; clear ef9 eL9 eQ9
      have k_75 : (0 : Int64).toInt = 0 := by decide
      have k_76 : (1 : Int64).toInt = 1 := by decide
      rcases hq with ⟨rfl, hq⟩ | ⟨rfl, hq⟩
      · skip
        have hc_77 := hq
        refine lv_if_ne (tgt := 30) hx hb dX12_pays_25 (by decide) (fun c => ?_) (fun c => absurd c (by decide))
        refine lv_aload_n hx hb dX12_pays_30 rfl (lv_at hl 0 rfl) ?_
        refine lv_iload_n hx hb dX12_pays_31 rfl (lv_at hl 1 rfl) ?_
        refine sg_calli (va_runV (As := [.int x0]) (rest := []) ⟨hx, hb, hml, hown, hts⟩ (kX12_bytesIs l D ca za h hh f L Q hI x0 H.size) (sl_c12_bytesIs_2_0_0_45_12 hts ⟨Nat.le_of_ble_eq_true rfl, Nat.le_of_ble_eq_true rfl⟩) (sl_vM_0 hA hK hP hS hZ) rfl rfl hl.1 rfl (lv_room (Nat.le_of_ble_eq_true rfl)) dX12_pays_32 ⟨Nat.le_refl _, Nat.le_refl _⟩) hA hS (fun r_81 f_78 L_79 Q_80 H locs hq hP hS => ?_)
        obtain ⟨⟨ef9, eL9, eQ9⟩, hq, u_82⟩ := hq
        rw [ef9, eL9, eQ9] at hP; clear ef9 eL9 eQ9
        rw [show r_81 = 1 from u_82.trans u_54.symm]
        refine lv_if_ge (tgt := 44) hx hb dX12_pays_35 (by decide) (fun c => ?_) (fun c => absurd c (by decide))
        refine lv_iconst (v := 0) hx hb dX12_pays_44 ic_0 ?_
        refine lv_istore (lv' := [(4, .int 0), (0, .ref (h 0)), (1, .int x0), (2, .int x1), (3, .int x2)]) hx hb dX12_pays_45 hl (by decide) rfl (fun ls hl => ?_)
        refine lv_iconst (v := (-1)) hx hb dX12_pays_47 ic_m1 ?_
        refine lv_istore (lv' := [(5, .int (-1)), (4, .int 0), (0, .ref (h 0)), (1, .int x0), (2, .int x1), (3, .int x2)]) hx hb dX12_pays_48 hl (by decide) rfl (fun ls hl => ?_)
        refine lv_aload_n hx hb dX12_pays_50 rfl (lv_at hl 2 rfl) ?_
        refine lv_iload_n hx hb dX12_pays_51 rfl (lv_at hl 4 rfl) ?_
        refine sl_pM_0_20_12 (x := x1) hx hb hts hown hh hA hK hP hS dX12_pays_52 (fun f_83 H locs ef_83 hP hS => ?_)
        have hI : sgI loM hiM f_83 := by rw [ef_83]; exact sgI.put hI 0 20 (show (-1) ≤ (x1 : Int32).toInt ∧ (x1 : Int32).toInt ≤ 7 from ⟨by omega, by omega⟩)
        have hF : sgK WkX12_pays f f_83 := sgK.put hF ef_83 (by rfl)
        refine lv_aload_n hx hb dX12_pays_55 rfl (lv_at hl 2 rfl) ?_
        refine lv_iconst (v := 0) hx hb dX12_pays_56 ic_0 ?_
        refine sl_pM_0_21_12 (x := 0) hx hb hts hown hh hA hK hP hS dX12_pays_57 (fun f_84 H locs ef_84 hP hS => ?_)
        have hI : sgI loM hiM f_84 := by rw [ef_84]; exact sgI.put hI 0 21 (show 0 ≤ (0 : Int32).toInt ∧ (0 : Int32).toInt ≤ 61 from by decide)
        have hF : sgK WkX12_pays f f_84 := sgK.put hF ef_84 (by rfl)
        exact loop_60 70 0 (-1) f_84 _ _ _ (hs.trans ((if_pos rfl).trans (spl_e ef_83 (spl_e ef_84 rfl)))) (by have kc0 : (0 : Int32).toInt = 0 := ti_0; have kc1 : ((-1) : Int32).toInt = (-1) := ti_m1; have zz0_21 : (f_84 0 21).toInt = 0 := (congrArg Int32.toInt (show f_84 0 21 = 0 from (by rw [ef_84, sg_up_s, sgu_s]))).trans (by decide); omega) (by have zz0_20 : (f_84 0 20).toInt = x1.toInt := (congrArg Int32.toInt (show f_84 0 20 = x1 from (by rw [ef_84, sg_up_s, sgu_n (by decide)]; exact (by rw [ef_83, sg_up_s, sgu_s])))); exact ⟨by omega, by omega⟩) ⟨by omega, by omega⟩ ⟨by omega, by omega⟩ ⟨by omega, by omega⟩ (by decide) hI hF hP hS (lv_sub hl [2, 3, 5, 1, 0] rfl)
      · skip
        have hc_77 := hq
        refine lv_if_ne (tgt := 30) hx hb dX12_pays_25 (by decide) (fun c => absurd c (by decide)) (fun c => ?_)
        refine lv_iconst (v := (-1)) hx hb dX12_pays_28 ic_m1 ?_
        have k99 : ((-1) : Int32).toInt = (-1) := ti_m1
        exact hret _ _ _ _ (-1) f L Q dX12_pays_29 hP hS ⟨⟨hI, hF, rfl, rfl⟩, trivial, (Eq.trans (Eq.symm (hs.trans ((if_neg (by decide)).trans rfl))) hsp)⟩
    · skip
      have hc_67 := hq
      refine lv_if_eq (tgt := 28) hx hb dX12_pays_15 (by decide) (fun c => ?_) (fun c => absurd c (by decide))
      refine lv_iconst (v := (-1)) hx hb dX12_pays_28 ic_m1 ?_
      have k99 : ((-1) : Int32).toInt = (-1) := ti_m1
      exact hret _ _ _ _ (-1) f L Q dX12_pays_29 hP hS ⟨⟨hI, hF, rfl, rfl⟩, trivial, (Eq.trans (Eq.symm (hs.trans ((if_neg (by decide)).trans rfl))) hsp)⟩
  · skip
    have hc_55 := hq
    refine lv_iconst (v := (-1)) hx hb dX12_pays_5 ic_m1 ?_
    refine lv_icmp_eq (tgt := 28) hx hb dX12_pays_6 (by decide) (fun c => ?_) (fun c => ?_)
    · skip
      exfalso; have c_85 : r_53.toInt = (-1) := (by first | exact (cm_eq1 ti_m1 c) | (have z := Int32.toInt_inj.mpr c; have k1 : ((-1) : Int32).toInt = (-1) := ti_m1; omega)); first | exact absurd c_85 (by assumption) | omega
    · skip
      have c_86 : r_53.toInt ≠ (-1) := (by first | exact (cm_ne1 ti_m1 c) | (have z := bn_ne c; have k1 : ((-1) : Int32).toInt = (-1) := ti_m1; omega))
      refine lv_aload_n hx hb dX12_pays_9 rfl (lv_at hl 0 rfl) ?_
      refine lv_iload_n hx hb dX12_pays_10 rfl (lv_at hl 2 rfl) ?_
      obtain ⟨w_87, ew_87⟩ : ∃ z : Int64, z = Int32.toInt64 x1 := ⟨_, rfl⟩
      have q_88 : w_87.toInt = x1.toInt := by rw [ew_87]; exact Int32.toInt_toInt64 _
      refine lv_i2l (v := w_87) hx hb dX12_pays_11 ew_87.symm ?_
      obtain ⟨v_89, ev_89⟩ : ∃ z : Int32, z = f 0 6 := ⟨_, rfl⟩
      have q_90 : 0 ≤ v_89.toInt ∧ v_89.toInt ≤ 8 := by rw [ev_89]; exact hI 0 6
      have q_91 : (f 0 6).toInt = v_89.toInt := (congrArg Int32.toInt (show f 0 6 = v_89 from ev_89.symm))
      refine sg_calli (va_runV (As := [.long w_87]) (rest := []) ⟨hx, hb, hml, hown, hts⟩ (kX12_isSitter l D ca za h hh f L Q hI w_87 H.size) (sl_c12_isSitter_1_0_0_25_12 hts ⟨Nat.le_of_ble_eq_true rfl, Nat.le_of_ble_eq_true rfl⟩) (sl_vM_0 hA hK hP hS hZ) rfl rfl hl.1 rfl (lv_room (Nat.le_of_ble_eq_true rfl)) dX12_pays_12 ⟨Nat.le_refl _, Nat.le_refl _⟩) hA hS (fun r_96 f_93 L_94 Q_95 H locs hq hP hS => ?_)
      obtain ⟨⟨ef9, eL9, eQ9⟩, hq, u_97⟩ := hq
      rw [ef9, eL9, eQ9] at hP; clear ef9 eL9 eQ9
      rcases hq with ⟨rfl, hq⟩ | ⟨rfl, hq⟩
      · skip
        have hc_98 := hq
        refine lv_if_eq (tgt := 28) hx hb dX12_pays_15 (by decide) (fun c => absurd c (by decide)) (fun c => ?_)
        refine lv_iload_n hx hb dX12_pays_18 rfl (lv_at hl 3 rfl) ?_
        obtain ⟨w_99, ew_99⟩ : ∃ z : Int64, z = Int32.toInt64 x2 := ⟨_, rfl⟩
        have q_100 : w_99.toInt = x2.toInt := by rw [ew_99]; exact Int32.toInt_toInt64 _
        refine lv_i2l (v := w_99) hx hb dX12_pays_19 ew_99.symm ?_
        refine lv_lconst (v := 0) hx hb dX12_pays_20 (by decide) ?_
        refine lv_lconst (v := 1) hx hb dX12_pays_21 (by decide) ?_
        refine sg_calli (va_runS (As := [.long w_99, .long 0, .long 1]) (rest := []) ⟨hx, hb, hml, hown, hts⟩ (kX12_within l D ca za h hh f L Q hI w_99 0 1 H.size) (va_cwS 3 hts (gw_S (fun _ h => List.mem_cons_of_mem _ h) mw_631 mw_632 mw_619 mw_630) rfl rfl rfl hd_yX12_within.2 ⟨Nat.le_of_ble_eq_true rfl, Nat.le_of_ble_eq_true rfl⟩) (sg_preS hA hK hP hS hZ) rfl rfl hl.1 rfl (lv_room (Nat.le_of_ble_eq_true rfl)) dX12_pays_22 ⟨Nat.le_refl _, Nat.le_refl _⟩) hA hS (fun r_104 f_101 L_102 Q_103 H locs hq hP hS => ?_)
        obtain ⟨⟨ef9, eL9, eQ9⟩, hq, u_105⟩ := hq
        rw [ef9, eL9, eQ9] at hP; clear ef9 eL9 eQ9
        have k_106 : (0 : Int64).toInt = 0 := by decide
        have k_107 : (1 : Int64).toInt = 1 := by decide
        rcases hq with ⟨rfl, hq⟩ | ⟨rfl, hq⟩
        · skip
          have hc_108 := hq
          refine lv_if_ne (tgt := 30) hx hb dX12_pays_25 (by decide) (fun c => ?_) (fun c => absurd c (by decide))
          refine lv_aload_n hx hb dX12_pays_30 rfl (lv_at hl 0 rfl) ?_
          refine lv_iload_n hx hb dX12_pays_31 rfl (lv_at hl 1 rfl) ?_
          refine sg_calli (va_runV (As := [.int x0]) (rest := []) ⟨hx, hb, hml, hown, hts⟩ (kX12_bytesIs l D ca za h hh f L Q hI x0 H.size) (sl_c12_bytesIs_2_0_0_45_12 hts ⟨Nat.le_of_ble_eq_true rfl, Nat.le_of_ble_eq_true rfl⟩) (sl_vM_0 hA hK hP hS hZ) rfl rfl hl.1 rfl (lv_room (Nat.le_of_ble_eq_true rfl)) dX12_pays_32 ⟨Nat.le_refl _, Nat.le_refl _⟩) hA hS (fun r_112 f_109 L_110 Q_111 H locs hq hP hS => ?_)
          obtain ⟨⟨ef9, eL9, eQ9⟩, hq, u_113⟩ := hq
          rw [ef9, eL9, eQ9] at hP; clear ef9 eL9 eQ9
          rw [show r_112 = r_53 from u_113.trans u_54.symm]
          refine lv_if_ge (tgt := 44) hx hb dX12_pays_35 (by decide) (fun c => ?_) (fun c => ?_)
          · skip
            exfalso; have c_114 : 0 ≤ r_53.toInt := (by first | exact (cm_le0 ti_0 c) | (have z := bn_le c; have k1 : (0 : Int32).toInt = 0 := ti_0; omega)); omega
          · skip
            have c_115 : r_53.toInt < 0 := (by first | exact (cm_nle0 ti_0 c) | (have z := bn_nle c; have k1 : (0 : Int32).toInt = 0 := ti_0; omega))
            refine lv_aload_n hx hb dX12_pays_38 rfl (lv_at hl 0 rfl) ?_
            refine lv_iload_n hx hb dX12_pays_39 rfl (lv_at hl 1 rfl) ?_
            refine sg_calli (va_runV (As := [.int x0]) (rest := []) ⟨hx, hb, hml, hown, hts⟩ (kX12_bytesIs l D ca za h hh f L Q hI x0 H.size) (sl_c12_bytesIs_2_0_0_45_12 hts ⟨Nat.le_of_ble_eq_true rfl, Nat.le_of_ble_eq_true rfl⟩) (sl_vM_0 hA hK hP hS hZ) rfl rfl hl.1 rfl (lv_room (Nat.le_of_ble_eq_true rfl)) dX12_pays_40 ⟨Nat.le_refl _, Nat.le_refl _⟩) hA hS (fun r_119 f_116 L_117 Q_118 H locs hq hP hS => ?_)
            obtain ⟨⟨ef9, eL9, eQ9⟩, hq, u_120⟩ := hq
            rw [ef9, eL9, eQ9] at hP; clear ef9 eL9 eQ9
            rw [show r_119 = r_53 from u_120.trans u_54.symm]
            exact hret _ _ _ _ (r_53) f L Q dX12_pays_43 hP hS ⟨⟨hI, hF, rfl, rfl⟩, trivial, (Eq.trans (Eq.symm (hs.trans ((if_neg (fun z9 => by have k9 : (1 : Int32).toInt = 1 := ti_1; have h9 := hc_55; rw [z9] at h9; omega)).trans ((if_neg (fun z9 => by have k9 : ((-1) : Int32).toInt = (-1) := ti_m1; have h9 := hc_55; rw [z9] at h9; omega)).trans (spl_e ew_87 (spl_e ev_89 (spl_e u_97 ((if_pos rfl).trans (spl_e ew_99 (spl_e u_105 ((if_pos rfl).trans rfl))))))))))) hsp)⟩
        · skip
          have hc_108 := hq
          refine lv_if_ne (tgt := 30) hx hb dX12_pays_25 (by decide) (fun c => absurd c (by decide)) (fun c => ?_)
          refine lv_iconst (v := (-1)) hx hb dX12_pays_28 ic_m1 ?_
          have k99 : ((-1) : Int32).toInt = (-1) := ti_m1
          exact hret _ _ _ _ (-1) f L Q dX12_pays_29 hP hS ⟨⟨hI, hF, rfl, rfl⟩, trivial, (Eq.trans (Eq.symm (hs.trans ((if_neg (fun z9 => by have k9 : (1 : Int32).toInt = 1 := ti_1; have h9 := hc_55; rw [z9] at h9; omega)).trans ((if_neg (fun z9 => by have k9 : ((-1) : Int32).toInt = (-1) := ti_m1; have h9 := hc_55; rw [z9] at h9; omega)).trans (spl_e ew_87 (spl_e ev_89 (spl_e u_97 ((if_pos rfl).trans (spl_e ew_99 (spl_e u_105 ((if_neg (by decide)).trans rfl))))))))))) hsp)⟩
      · skip
        have hc_98 := hq
        refine lv_if_eq (tgt := 28) hx hb dX12_pays_15 (by decide) (fun c => ?_) (fun c => absurd c (by decide))
        refine lv_iconst (v := (-1)) hx hb dX12_pays_28 ic_m1 ?_
        have k99 : ((-1) : Int32).toInt = (-1) := ti_m1
        exact hret _ _ _ _ (-1) f L Q dX12_pays_29 hP hS ⟨⟨hI, hF, rfl, rfl⟩, trivial, (Eq.trans (Eq.symm (hs.trans ((if_neg (fun z9 => by have k9 : (1 : Int32).toInt = 1 := ti_1; have h9 := hc_55; rw [z9] at h9; omega)).trans ((if_neg (fun z9 => by have k9 : ((-1) : Int32).toInt = (-1) := ti_m1; have h9 := hc_55; rw [z9] at h9; omega)).trans (spl_e ew_87 (spl_e ev_89 (spl_e u_97 ((if_neg (by decide)).trans rfl)))))))) hsp)⟩
  · skip
    have hc_55 := hq
    refine lv_iconst (v := (-1)) hx hb dX12_pays_5 ic_m1 ?_
    refine lv_icmp_eq (tgt := 28) hx hb dX12_pays_6 (by decide) (fun c => ?_) (fun c => absurd c (by decide))
    refine lv_iconst (v := (-1)) hx hb dX12_pays_28 ic_m1 ?_
    have k99 : ((-1) : Int32).toInt = (-1) := ti_m1
    exact hret _ _ _ _ (-1) f L Q dX12_pays_29 hP hS ⟨⟨hI, hF, rfl, rfl⟩, trivial, (Eq.trans (Eq.symm (hs.trans ((if_neg (by decide)).trans ((if_pos rfl).trans rfl)))) hsp)⟩

set_option maxHeartbeats 4000000 in
set_option maxRecDepth 100000 in
theorem kX12_bitsOf (l : Launch) (D : va_G) (ca : Nat → ClassId) (za h : Nat → Nat) (hh : sgH 26 h) (f : sg_F) (L : sg_L) (Q : sg_Q) (hI : sgI loM hiM f) (x0 : Int32) (b0 : 0 ≤ x0.toInt ∧ x0.toInt ≤ 255) (sz : Nat) : Met l yX12_bitsOf gwX12_bitsOf { frames := 0, cells := 0, slots := 0, locals := 0 } (sgP D vwCl (tyX ca) 26 h (eM ca h) zcM za f L Q sz [.int x0]) (sgQi D vwCl 26 h (eM ca h) sz (fun r f1 L1 Q1 => ((f1 = f ∧ L1 = L ∧ Q1 = Q) ∧ True ∧ (r) = sX12_bitsOf x0 f L))) 0 0 (sgA 26 h sz) := by
  refine sg_ofWi (cc := cX12_bitsOf) (maxL := 3) RX12 (by decide) rfl rfl (Nat.le_of_ble_eq_true rfl) ?_
  intro p e s m below meth cd Qz ls hx hb hml hown hts hK hZ hP hS hl hret
  have hA := sgY.self (n := 26) (h := h) (sz := s.heap.size)
  have hl : lv_has ls 3 [(0, .int x0)] := hl
  obtain ⟨H, hH⟩ : ∃ z : Heap, z = s.heap := ⟨_, rfl⟩
  obtain ⟨locs, hlo⟩ : ∃ z : List Loc, z = [] := ⟨_, rfl⟩
  have hP : va_P D vwCl (sgw 26 h (eM ca h) f L Q) H := by rw [hH]; exact hP
  have hS : va_S (sgA 26 h s.heap.size) s.heap H locs := by rw [hH, hlo]; exact hS
  suffices hgo : W p l e ({ frames := 0, cells := 0, slots := 0, locals := 0 }) s m ([.int x0] : List Value).toArray below meth cd H locs 0 0 Qz (F0 m 0 ls []) by rw [hH, hlo] at hgo; exact hgo
  clear hH hlo
  obtain ⟨sp, hsp⟩ : ∃ z : Int32, z = sX12_bitsOf x0 f L := ⟨_, rfl⟩
  have hs : sp = sX12_bitsOf x0 f L := hsp
  have loop_4 : ∀ (n_4 : Nat) (y1_4 : Int32) (y2_4 : Int32) (H : Heap) (locs : List Loc) (ls : Array Slot), sp = sX12_bitsOf_l4 x0 n_4 y1_4 y2_4 f L → y2_4.toInt < (n_4 : Int) → 0 ≤ y2_4.toInt ∧ y2_4.toInt ≤ 255 → va_P D vwCl (sgw 26 h (eM ca h) f L Q) H → va_S (sgA 26 h s.heap.size) s.heap H locs → lv_has ls 3 [(1, .int y1_4), (2, .int y2_4)] → W p l e ({ frames := 0, cells := 0, slots := 0, locals := 0 }) s m ([.int x0] : List Value).toArray below meth cd H locs 0 0 Qz (F0 m 4 ls []) := by
    intro n_4
    induction n_4 with
    | zero => intro y1_4 y2_4 H locs ls hs hm_4 hy0_4 hP hS hl; exact absurd hm_4 (by omega)
    | succ n_4 ih_4 =>
      intro y1_4 y2_4 H locs ls hs hm_4 hy0_4 hP hS hl
      have hs : sp = sX12_bitsOf_h4 x0 (sX12_bitsOf_l4 x0 n_4) y1_4 y2_4 f L := hs
      refine lv_iload_n hx hb dX12_bitsOf_4 rfl (lv_at hl 1 rfl) ?_
      refine lv_if_eq (tgt := 20) hx hb dX12_bitsOf_5 (by decide) (fun c => ?_) (fun c => ?_)
      · skip
        have c_1 : y2_4.toInt = 0 := (by first | exact (cm_eq1 ti_0 c) | (have z := Int32.toInt_inj.mpr c; have k1 : (0 : Int32).toInt = 0 := ti_0; omega))
        refine lv_iload_n hx hb dX12_bitsOf_20 rfl (lv_at hl 0 rfl) ?_
        exact hret _ _ _ _ (y1_4) f L Q dX12_bitsOf_21 hP hS ⟨⟨rfl, rfl, rfl⟩, trivial, (Eq.trans (Eq.symm (hs.trans (((if_pos c_1).trans rfl)))) hsp)⟩
      · skip
        have c_2 : y2_4.toInt ≠ 0 := (by first | exact (cm_ne1 ti_0 c) | (have z := bn_ne c; have k1 : (0 : Int32).toInt = 0 := ti_0; omega))
        obtain ⟨v_3, ev_3⟩ : ∃ z : Int32, z = y1_4 + 1 := ⟨_, rfl⟩
        refine lv_iinc (v := v_3) (lv' := [(1, .int v_3), (2, .int y2_4)]) hx hb dX12_bitsOf_8 hl (k := 0) rfl (by rw [ev_3]; rfl) (by decide) rfl (fun ls hl => ?_)
        refine lv_iload_n hx hb dX12_bitsOf_11 rfl (lv_at hl 1 rfl) ?_
        refine lv_iload_n hx hb dX12_bitsOf_12 rfl (lv_at hl 1 rfl) ?_
        refine lv_iconst (v := 1) hx hb dX12_bitsOf_13 ic_1 ?_
        refine lv_isub hx hb dX12_bitsOf_14 ?_
        refine lv_topi (fun v_4 ev_4 => ?_)
        have q_5 : v_4.toInt = y2_4.toInt - 1 := by rw [ev_4]; first | exact cm_sub ti_1 (by omega) (by omega) | (have k1 : (1 : Int32).toInt = 1 := ti_1; exact (bn_subI (by omega) (by omega)).trans (by omega))
        refine lv_iand hx hb dX12_bitsOf_15 ?_
        refine lv_topi (fun v_6 ev_6 => ?_)
        have q_7 : 0 ≤ v_6.toInt ∧ v_6.toInt ≤ 255 ∧ (y2_4.toInt ≠ 0 → v_6.toInt < y2_4.toInt) := by rw [ev_6]; exact bn_andm (by omega) (by omega) (by omega)
        refine lv_istore_n (lv' := [(2, .int v_6), (1, .int v_3)]) hx hb dX12_bitsOf_16 rfl hl (by decide) rfl (fun ls hl => ?_)
        refine lv_goto (tgt := 4) hx hb dX12_bitsOf_17 (by decide) ?_
        exact ih_4 v_3 v_6 _ _ _ (hs.trans (((if_neg c_2).trans (spl_e ev_3 (spl_e ev_4 (spl_e ev_6 rfl)))))) (by omega) ⟨by omega, by omega⟩ hP hS (lv_sub hl [1, 0] rfl)
  refine lv_iconst (v := 0) hx hb dX12_bitsOf_0 ic_0 ?_
  refine lv_istore_n (lv' := [(1, .int 0), (0, .int x0)]) hx hb dX12_bitsOf_1 rfl hl (by decide) rfl (fun ls hl => ?_)
  refine lv_iload_n hx hb dX12_bitsOf_2 rfl (lv_at hl 1 rfl) ?_
  refine lv_istore_n (lv' := [(2, .int x0), (1, .int 0), (0, .int x0)]) hx hb dX12_bitsOf_3 rfl hl (by decide) rfl (fun ls hl => ?_)
  exact loop_4 300 0 x0 _ _ _ hs (by have kc0 : (0 : Int32).toInt = 0 := ti_0; omega) b0 hP hS (lv_sub hl [1, 0] rfl)

abbrev WkX12_memories : List (Nat × Nat × Option Nat) := [(0, 0, some 12), (0, 0, some 13), (0, 0, some 14), (0, 0, some 15), (0, 0, some 16), (0, 0, some 22), (0, 0, some 29), (0, 0, some 30), (0, 0, some 31), (8, 8, none), (12, 12, none), (13, 13, none)]
set_option maxHeartbeats 4000000 in
set_option maxRecDepth 100000 in
theorem kX12_memories (l : Launch) (D : va_G) (ca : Nat → ClassId) (za h : Nat → Nat) (hh : sgH 26 h) (f : sg_F) (L : sg_L) (Q : sg_Q) (hI : sgI loM hiM f) (x0 : Int32) (x1 : Int32) (x2 : Int32) (sz : Nat) : Met l yX12_memories gwX12_memories { frames := 47, cells := 0, slots := 0, locals := 1079 } (sgP D vwCl (tyX ca) 26 h (eM ca h) zcM za f L Q sz [.ref (h 0), .int x0, .int x1, .int x2]) (sgQi D vwCl 26 h (eM ca h) sz (fun r f1 L1 Q1 => ((sgI loM hiM f1 ∧ sgK WkX12_memories f f1 ∧ L1 = L ∧ Q1 = Q) ∧ True ∧ (r, f1) = sX12_memories x0 x1 x2 f L))) 0 0 (sgA 26 h sz) := by
  refine sg_ofWi (cc := cX12_memories) (maxL := 8) RX12 (by decide) rfl rfl (Nat.le_of_ble_eq_true rfl) ?_
  intro p e s m below meth cd Qz ls hx hb hml hown hts hK hZ hP hS hl hret
  have hA := sgY.self (n := 26) (h := h) (sz := s.heap.size)
  have hl : lv_has ls 8 [(0, .ref (h 0)), (1, .int x0), (2, .int x1), (3, .int x2)] := hl
  obtain ⟨H, hH⟩ : ∃ z : Heap, z = s.heap := ⟨_, rfl⟩
  obtain ⟨locs, hlo⟩ : ∃ z : List Loc, z = [] := ⟨_, rfl⟩
  have hP : va_P D vwCl (sgw 26 h (eM ca h) f L Q) H := by rw [hH]; exact hP
  have hS : va_S (sgA 26 h s.heap.size) s.heap H locs := by rw [hH, hlo]; exact hS
  suffices hgo : W p l e ({ frames := 47, cells := 0, slots := 0, locals := 1079 }) s m ([.ref (h 0), .int x0, .int x1, .int x2] : List Value).toArray below meth cd H locs 0 0 Qz (F0 m 0 ls []) by rw [hH, hlo] at hgo; exact hgo
  clear hH hlo
  obtain ⟨sp, hsp⟩ : ∃ z : Int32 × sg_F, z = sX12_memories x0 x1 x2 f L := ⟨_, rfl⟩
  have hs : sp = sX12_memories x0 x1 x2 f L := hsp
  have hF : sgK WkX12_memories f f := sgK.rf
  have loop_56 : ∀ (n_56 : Nat) (y4_56 : Int32) (y5_56 : Int32) (y6_56 : Int32) (fp_56 : sg_F) (H : Heap) (locs : List Loc) (ls : Array Slot), sp = sX12_memories_l56 x0 x1 x2 n_56 y4_56 y5_56 y6_56 fp_56 L → 4 - y6_56.toInt < (n_56 : Int) → 0 ≤ x0.toInt ∧ x0.toInt ≤ 5 → 0 ≤ x1.toInt ∧ x1.toInt ≤ 3 → 0 ≤ x2.toInt ∧ x2.toInt ≤ 1 → 0 ≤ y4_56.toInt ∧ y4_56.toInt ≤ 255 → 0 ≤ y6_56.toInt ∧ y6_56.toInt ≤ 4 → sgI loM hiM fp_56 → sgK WkX12_memories f fp_56 → va_P D vwCl (sgw 26 h (eM ca h) fp_56 L Q) H → va_S (sgA 26 h s.heap.size) s.heap H locs → lv_has ls 8 [(0, .ref (h 0)), (1, .int x0), (2, .int x1), (3, .int x2), (4, .int y4_56), (5, .int y5_56), (6, .int y6_56)] → W p l e ({ frames := 47, cells := 0, slots := 0, locals := 1079 }) s m ([.ref (h 0), .int x0, .int x1, .int x2] : List Value).toArray below meth cd H locs 0 0 Qz (F0 m 56 ls []) := by
    intro n_56
    induction n_56 with
    | zero => intro y4_56 y5_56 y6_56 fp_56 H locs ls hs hm_56 hy0_56 hy1_56 hy2_56 hy3_56 hy4_56 hI hF hP hS hl; exact absurd hm_56 (by omega)
    | succ n_56 ih_56 =>
      have loop_67 : ∀ (n_67 : Nat) (y4_67 : Int32) (y5_67 : Int32) (y6_67 : Int32) (fp_67 : sg_F) (H : Heap) (locs : List Loc) (ls : Array Slot), sp = sX12_memories_l67 (sX12_memories_l56 x0 x1 x2 n_56) x0 x1 x2 n_67 y4_67 y5_67 y6_67 fp_67 L → 487 - (fp_67 0 22).toInt < (n_67 : Int) → 4 - y6_67.toInt < ((n_56 + 1 : Nat) : Int) → 0 ≤ (fp_67 0 22).toInt ∧ (fp_67 0 22).toInt ≤ 256 → 0 ≤ x0.toInt ∧ x0.toInt ≤ 5 → 0 ≤ x1.toInt ∧ x1.toInt ≤ 3 → 0 ≤ x2.toInt ∧ x2.toInt ≤ 1 → 0 ≤ y4_67.toInt ∧ y4_67.toInt ≤ 255 → 0 ≤ y6_67.toInt ∧ y6_67.toInt ≤ 3 → sgI loM hiM fp_67 → sgK WkX12_memories f fp_67 → va_P D vwCl (sgw 26 h (eM ca h) fp_67 L Q) H → va_S (sgA 26 h s.heap.size) s.heap H locs → lv_has ls 8 [(0, .ref (h 0)), (1, .int x0), (2, .int x1), (3, .int x2), (4, .int y4_67), (5, .int y5_67), (6, .int y6_67)] → W p l e ({ frames := 47, cells := 0, slots := 0, locals := 1079 }) s m ([.ref (h 0), .int x0, .int x1, .int x2] : List Value).toArray below meth cd H locs 0 0 Qz (F0 m 67 ls []) := by
        intro n_67
        induction n_67 with
        | zero => intro y4_67 y5_67 y6_67 fp_67 H locs ls hs hm_67 hm_56 hy0_67 hy1_67 hy2_67 hy3_67 hy4_67 hy5_67 hI hF hP hS hl; have zb := (show 0 ≤ (fp_67 0 22).toInt ∧ (fp_67 0 22).toInt ≤ 487 from hI 0 22); exact absurd hm_67 (by omega)
        | succ n_67 ih_67 =>
          have blk_143 : ∀ (y4_143 : Int32) (y5_143 : Int32) (y6_143 : Int32) (fp_143 : sg_F) (H : Heap) (locs : List Loc) (ls : Array Slot), sp = sX12_memories_b143 (sX12_memories_l56 x0 x1 x2 n_56) (sX12_memories_l67 (sX12_memories_l56 x0 x1 x2 n_56) x0 x1 x2 n_67) x0 x1 x2 y4_143 y5_143 y6_143 fp_143 L → 4 - y6_143.toInt < ((n_56 + 1 : Nat) : Int) → 487 - (fp_143 0 22).toInt < ((n_67 + 1 : Nat) : Int) → 0 ≤ (fp_143 0 22).toInt ∧ (fp_143 0 22).toInt ≤ 255 → 0 ≤ x0.toInt ∧ x0.toInt ≤ 5 → 0 ≤ x1.toInt ∧ x1.toInt ≤ 3 → 0 ≤ x2.toInt ∧ x2.toInt ≤ 1 → 0 ≤ y4_143.toInt ∧ y4_143.toInt ≤ 255 → 0 ≤ y6_143.toInt ∧ y6_143.toInt ≤ 3 → sgI loM hiM fp_143 → sgK WkX12_memories f fp_143 → va_P D vwCl (sgw 26 h (eM ca h) fp_143 L Q) H → va_S (sgA 26 h s.heap.size) s.heap H locs → lv_has ls 8 [(0, .ref (h 0)), (1, .int x0), (2, .int x1), (3, .int x2), (4, .int y4_143), (5, .int y5_143), (6, .int y6_143)] → W p l e ({ frames := 47, cells := 0, slots := 0, locals := 1079 }) s m ([.ref (h 0), .int x0, .int x1, .int x2] : List Value).toArray below meth cd H locs 0 0 Qz (F0 m 143 ls []) := by
            intro y4_143 y5_143 y6_143 fp_143 H locs ls hs hm_56 hm_67 hy0_143 hy1_143 hy2_143 hy3_143 hy4_143 hy5_143 hI hF hP hS hl
            obtain ⟨v_1, ev_1⟩ : ∃ z : Int32, z = fp_143 0 22 := ⟨_, rfl⟩
            have q_2 : 0 ≤ v_1.toInt ∧ v_1.toInt ≤ 487 := by rw [ev_1]; exact hI 0 22
            have q_3 : (fp_143 0 22).toInt = v_1.toInt := by rw [ev_1]
            refine lv_aload_n hx hb dX12_memories_143 rfl (lv_at hl 0 rfl) ?_
            refine lv_dup hx hb dX12_memories_144 rfl ?_
            refine sl_gM_0_22_12 (v := v_1) hx hb hts hown hK hP (show fp_143 0 22 = v_1 from ev_1.symm) dX12_memories_145 ?_
            refine lv_iconst (v := 1) hx hb dX12_memories_148 ic_1 ?_
            refine lv_iadd hx hb dX12_memories_149 ?_
            refine lv_topi (fun v_4 ev_4 => ?_)
            have q_5 : v_4.toInt = v_1.toInt + 1 := by rw [ev_4]; first | exact cm_add ti_1 (by omega) (by omega) | (have k1 : (1 : Int32).toInt = 1 := ti_1; exact (bn_addI (by omega) (by omega)).trans (by omega))
            refine sl_pM_0_22_12 (x := v_4) hx hb hts hown hh hA hK hP hS dX12_memories_150 (fun f_6 H locs ef_6 hP hS => ?_)
            have hI : sgI loM hiM f_6 := by rw [ef_6]; exact sgI.put hI 0 22 (show 0 ≤ (v_4 : Int32).toInt ∧ (v_4 : Int32).toInt ≤ 487 from ⟨by omega, by omega⟩)
            have hF : sgK WkX12_memories f f_6 := sgK.put hF ef_6 (by rfl)
            refine lv_goto (tgt := 67) hx hb dX12_memories_153 (by decide) ?_
            exact ih_67 y4_143 y5_143 y6_143 f_6 _ _ _ (hs.trans ((spl_e ev_1 (spl_e ev_4 (spl_e ef_6 rfl))))) (by have zz0_22 : (f_6 0 22).toInt = v_4.toInt := (congrArg Int32.toInt (show f_6 0 22 = v_4 from (by rw [ef_6, sg_up_s, sgu_s]))); omega) hm_56 (by have zz0_22 : (f_6 0 22).toInt = v_4.toInt := (congrArg Int32.toInt (show f_6 0 22 = v_4 from (by rw [ef_6, sg_up_s, sgu_s]))); exact ⟨by omega, by omega⟩) hy1_143 hy2_143 hy3_143 hy4_143 hy5_143 hI hF hP hS (lv_sub hl [0, 1, 2, 3, 4, 5, 6] rfl)
          have blk_134 : ∀ (y4_134 : Int32) (y6_134 : Int32) (y7_134 : Int32) (fp_134 : sg_F) (H : Heap) (locs : List Loc) (ls : Array Slot), sp = sX12_memories_b134 (sX12_memories_l56 x0 x1 x2 n_56) (sX12_memories_l67 (sX12_memories_l56 x0 x1 x2 n_56) x0 x1 x2 n_67) x0 x1 x2 y4_134 y6_134 y7_134 fp_134 L → 4 - y6_134.toInt < ((n_56 + 1 : Nat) : Int) → 487 - (fp_134 0 22).toInt < ((n_67 + 1 : Nat) : Int) → 0 ≤ (fp_134 0 22).toInt ∧ (fp_134 0 22).toInt ≤ 255 → 0 ≤ x0.toInt ∧ x0.toInt ≤ 5 → 0 ≤ x1.toInt ∧ x1.toInt ≤ 3 → 0 ≤ x2.toInt ∧ x2.toInt ≤ 1 → 0 ≤ y4_134.toInt ∧ y4_134.toInt ≤ 255 → 0 ≤ y6_134.toInt ∧ y6_134.toInt ≤ 3 → sgI loM hiM fp_134 → sgK WkX12_memories f fp_134 → va_P D vwCl (sgw 26 h (eM ca h) fp_134 L Q) H → va_S (sgA 26 h s.heap.size) s.heap H locs → lv_has ls 8 [(0, .ref (h 0)), (1, .int x0), (2, .int x1), (3, .int x2), (4, .int y4_134), (6, .int y6_134), (7, .int y7_134)] → W p l e ({ frames := 47, cells := 0, slots := 0, locals := 1079 }) s m ([.ref (h 0), .int x0, .int x1, .int x2] : List Value).toArray below meth cd H locs 0 0 Qz (F0 m 134 ls []) := by
            intro y4_134 y6_134 y7_134 fp_134 H locs ls hs hm_56 hm_67 hy0_134 hy1_134 hy2_134 hy3_134 hy4_134 hy5_134 hI hF hP hS hl
            obtain ⟨v_7, ev_7⟩ : ∃ z : Int32, z = fp_134 0 22 := ⟨_, rfl⟩
            have q_8 : 0 ≤ v_7.toInt ∧ v_7.toInt ≤ 487 := by rw [ev_7]; exact hI 0 22
            have q_9 : (fp_134 0 22).toInt = v_7.toInt := by rw [ev_7]
            refine lv_iload hx hb dX12_memories_134 (lv_at hl 6 rfl) ?_
            refine lv_goto (tgt := 141) hx hb dX12_memories_136 (by decide) ?_
            refine lv_istore (lv' := [(5, .int y7_134), (0, .ref (h 0)), (1, .int x0), (2, .int x1), (3, .int x2), (4, .int y4_134), (6, .int y6_134), (7, .int y7_134)]) hx hb dX12_memories_141 hl (by decide) rfl (fun ls hl => ?_)
            exact blk_143 y4_134 y7_134 y6_134 fp_134 _ _ _ (hs.trans ((spl_e ev_7 rfl))) hm_56 (by have zz0_22 : (fp_134 0 22).toInt = v_7.toInt := (congrArg Int32.toInt (show fp_134 0 22 = v_7 from ev_7.symm)); omega) (by have zz0_22 : (fp_134 0 22).toInt = v_7.toInt := (congrArg Int32.toInt (show fp_134 0 22 = v_7 from ev_7.symm)); exact ⟨by omega, by omega⟩) hy1_134 hy2_134 hy3_134 hy4_134 hy5_134 hI hF hP hS (lv_sub hl [1, 2, 3, 4, 5, 0, 6] rfl)
          have blk_111 : ∀ (y5_111 : Int32) (y6_111 : Int32) (y7_111 : Int32) (fp_111 : sg_F) (H : Heap) (locs : List Loc) (ls : Array Slot), sp = sX12_memories_b111 (sX12_memories_l56 x0 x1 x2 n_56) (sX12_memories_l67 (sX12_memories_l56 x0 x1 x2 n_56) x0 x1 x2 n_67) x0 x1 x2 y5_111 y6_111 y7_111 fp_111 L → 4 - y6_111.toInt < ((n_56 + 1 : Nat) : Int) → 487 - (fp_111 0 22).toInt < ((n_67 + 1 : Nat) : Int) → 0 ≤ (fp_111 0 22).toInt ∧ (fp_111 0 22).toInt ≤ 255 → 0 ≤ x0.toInt ∧ x0.toInt ≤ 5 → 0 ≤ x1.toInt ∧ x1.toInt ≤ 3 → 0 ≤ x2.toInt ∧ x2.toInt ≤ 1 → 0 ≤ y6_111.toInt ∧ y6_111.toInt ≤ 3 → sgI loM hiM fp_111 → sgK WkX12_memories f fp_111 → va_P D vwCl (sgw 26 h (eM ca h) fp_111 L Q) H → va_S (sgA 26 h s.heap.size) s.heap H locs → lv_has ls 8 [(0, .ref (h 0)), (1, .int x0), (2, .int x1), (3, .int x2), (5, .int y5_111), (6, .int y6_111), (7, .int y7_111)] → W p l e ({ frames := 47, cells := 0, slots := 0, locals := 1079 }) s m ([.ref (h 0), .int x0, .int x1, .int x2] : List Value).toArray below meth cd H locs 0 0 Qz (F0 m 111 ls []) := by
            intro y5_111 y6_111 y7_111 fp_111 H locs ls hs hm_56 hm_67 hy0_111 hy1_111 hy2_111 hy3_111 hy4_111 hI hF hP hS hl
            obtain ⟨v_10, ev_10⟩ : ∃ z : Int32, z = fp_111 0 22 := ⟨_, rfl⟩
            replace hs := hs.trans (spl_e ev_10 rfl)
            have q_11 : 0 ≤ v_10.toInt ∧ v_10.toInt ≤ 487 := by rw [ev_10]; exact hI 0 22
            have q_12 : (fp_111 0 22).toInt = v_10.toInt := by rw [ev_10]
            refine lv_aload_n hx hb dX12_memories_111 rfl (lv_at hl 0 rfl) ?_
            refine sl_gM_0_22_12 (v := v_10) hx hb hts hown hK hP (show fp_111 0 22 = v_10 from ev_10.symm) dX12_memories_112 ?_
            refine lv_goto (tgt := 120) hx hb dX12_memories_115 (by decide) ?_
            refine lv_istore (lv' := [(4, .int v_10), (0, .ref (h 0)), (1, .int x0), (2, .int x1), (3, .int x2), (5, .int y5_111), (6, .int y6_111), (7, .int y7_111)]) hx hb dX12_memories_120 hl (by decide) rfl (fun ls hl => ?_)
            refine lv_iload hx hb dX12_memories_122 (lv_at hl 5 rfl) ?_
            refine lv_if_lt (tgt := 134) hx hb dX12_memories_124 (by decide) (fun c => ?_) (fun c => ?_)
            · skip
              have c_13 : y5_111.toInt < 0 := (by first | exact (cm_lt1 ti_0 c) | (have z := bn_lt c; have k1 : (0 : Int32).toInt = 0 := ti_0; omega))
              exact blk_134 v_10 y6_111 y7_111 fp_111 _ _ _ (hs.trans ((if_pos c_13).trans rfl)) hm_56 (by have zz0_22 : (fp_111 0 22).toInt = v_10.toInt := (congrArg Int32.toInt (show fp_111 0 22 = v_10 from ev_10.symm)); omega) (by have zz0_22 : (fp_111 0 22).toInt = v_10.toInt := (congrArg Int32.toInt (show fp_111 0 22 = v_10 from ev_10.symm)); exact ⟨by omega, by omega⟩) hy1_111 hy2_111 hy3_111 ⟨by omega, by omega⟩ hy4_111 hI hF hP hS (lv_sub hl [1, 2, 3, 4, 0, 6, 7] rfl)
            · skip
              have c_14 : 0 ≤ y5_111.toInt := (by first | exact (cm_nlt1 ti_0 c) | (have z := bn_nlt c; have k1 : (0 : Int32).toInt = 0 := ti_0; omega))
              replace hs := hs.trans ((if_neg (Int.not_lt.mpr c_14)).trans rfl)
              refine lv_iload hx hb dX12_memories_127 (lv_at hl 7 rfl) ?_
              refine lv_iload hx hb dX12_memories_129 (lv_at hl 5 rfl) ?_
              refine lv_icmp_ge (tgt := 139) hx hb dX12_memories_131 (by decide) (fun c => ?_) (fun c => ?_)
              · skip
                have c_15 : y5_111.toInt ≤ y7_111.toInt := (by first | exact (bn_le c) | (have z := bn_le c; omega))
                refine lv_iload hx hb dX12_memories_139 (lv_at hl 5 rfl) ?_
                refine lv_istore (lv' := [(5, .int y5_111), (4, .int v_10), (0, .ref (h 0)), (1, .int x0), (2, .int x1), (3, .int x2), (6, .int y6_111), (7, .int y7_111)]) hx hb dX12_memories_141 hl (by decide) rfl (fun ls hl => ?_)
                exact blk_143 v_10 y5_111 y6_111 fp_111 _ _ _ (hs.trans ((if_neg (Int.not_lt.mpr c_15)).trans rfl)) hm_56 (by have zz0_22 : (fp_111 0 22).toInt = v_10.toInt := (congrArg Int32.toInt (show fp_111 0 22 = v_10 from ev_10.symm)); omega) (by have zz0_22 : (fp_111 0 22).toInt = v_10.toInt := (congrArg Int32.toInt (show fp_111 0 22 = v_10 from ev_10.symm)); exact ⟨by omega, by omega⟩) hy1_111 hy2_111 hy3_111 ⟨by omega, by omega⟩ hy4_111 hI hF hP hS (lv_sub hl [2, 3, 4, 5, 1, 0, 6] rfl)
              · skip
                have c_16 : y7_111.toInt < y5_111.toInt := (by first | exact (bn_nle c) | (have z := bn_nle c; omega))
                exact blk_134 v_10 y6_111 y7_111 fp_111 _ _ _ (hs.trans ((if_pos c_16).trans rfl)) hm_56 (by have zz0_22 : (fp_111 0 22).toInt = v_10.toInt := (congrArg Int32.toInt (show fp_111 0 22 = v_10 from ev_10.symm)); omega) (by have zz0_22 : (fp_111 0 22).toInt = v_10.toInt := (congrArg Int32.toInt (show fp_111 0 22 = v_10 from ev_10.symm)); exact ⟨by omega, by omega⟩) hy1_111 hy2_111 hy3_111 ⟨by omega, by omega⟩ hy4_111 hI hF hP hS (lv_sub hl [1, 2, 3, 4, 0, 6, 7] rfl)
          intro y4_67 y5_67 y6_67 fp_67 H locs ls hs hm_67 hm_56 hy0_67 hy1_67 hy2_67 hy3_67 hy4_67 hy5_67 hI hF hP hS hl
          have hs : sp = sX12_memories_h67 (sX12_memories_l56 x0 x1 x2 n_56) x0 x1 x2 (sX12_memories_l67 (sX12_memories_l56 x0 x1 x2 n_56) x0 x1 x2 n_67) y4_67 y5_67 y6_67 fp_67 L := hs
          obtain ⟨v_17, ev_17⟩ : ∃ z : Int32, z = fp_67 0 22 := ⟨_, rfl⟩
          have q_18 : 0 ≤ v_17.toInt ∧ v_17.toInt ≤ 487 := by rw [ev_17]; exact hI 0 22
          have q_19 : (fp_67 0 22).toInt = v_17.toInt := by rw [ev_17]
          refine lv_aload_n hx hb dX12_memories_67 rfl (lv_at hl 0 rfl) ?_
          refine sl_gM_0_22_12 (v := v_17) hx hb hts hown hK hP (show fp_67 0 22 = v_17 from ev_17.symm) dX12_memories_68 ?_
          refine lv_iconst (v := 1) hx hb dX12_memories_71 ic_1 ?_
          refine lv_aload_n hx hb dX12_memories_72 rfl (lv_at hl 0 rfl) ?_
          refine sl_gM_0_6_12 (v := (fp_67 0 6)) hx hb hts hown hK hP rfl dX12_memories_73 ?_
          refine lv_topi (fun v_20 ev_20 => ?_)
          have q_21 : 0 ≤ v_20.toInt ∧ v_20.toInt ≤ 8 := by rw [ev_20]; exact hI 0 6
          refine lv_ishl hx hb dX12_memories_76 ?_
          refine lv_topi (fun v_22 ev_22 => ?_)
          replace hs := hs.trans (spl_e ev_17 (spl_e ev_20 (spl_e ev_22 rfl)))
          have q_23 : 1 ≤ v_22.toInt ∧ v_22.toInt ≤ 256 := by rw [ev_22]; have z := bn_shl1 (y := v_20) (by omega) (by omega); omega
          refine lv_icmp_ge (tgt := 156) hx hb dX12_memories_77 (by decide) (fun c => ?_) (fun c => ?_)
          · skip
            have c_24 : v_22.toInt ≤ v_17.toInt := (by first | exact (bn_le c) | (have z := bn_le c; omega))
            obtain ⟨v_26, ev_26⟩ : ∃ z : Int32, z = y6_67 + 1 := ⟨_, rfl⟩
            have q_27 : v_26.toInt = y6_67.toInt + 1 := by rw [ev_26]; exact (bn_addc y6_67 1 (by decide) (by omega) (by omega))
            refine lv_iinc (v := v_26) (lv' := [(6, .int v_26), (0, .ref (h 0)), (1, .int x0), (2, .int x1), (3, .int x2), (4, .int y4_67), (5, .int y5_67)]) hx hb dX12_memories_156 hl (k := 6) rfl (by rw [ev_26]; rfl) (by decide) rfl (fun ls hl => ?_)
            refine lv_goto (tgt := 56) hx hb dX12_memories_159 (by decide) ?_
            exact ih_56 y4_67 y5_67 v_26 fp_67 _ _ _ (hs.trans ((if_neg (Int.not_lt.mpr c_24)).trans (spl_e ev_26 rfl))) (by omega) hy1_67 hy2_67 hy3_67 hy4_67 ⟨by omega, by omega⟩ hI hF hP hS (lv_sub hl [1, 2, 3, 4, 5, 6, 0] rfl)
          · skip
            have c_25 : v_17.toInt < v_22.toInt := (by first | exact (bn_nle c) | (have z := bn_nle c; omega))
            refine lv_aload_n hx hb dX12_memories_80 rfl (lv_at hl 0 rfl) ?_
            refine sl_gM_0_22_12 (v := v_17) hx hb hts hown hK hP (show fp_67 0 22 = v_17 from ev_17.symm) dX12_memories_81 ?_
            refine sg_calli (va_runS (As := [.int v_17]) (rest := []) ⟨hx, hb, hml, hown, hts⟩ (kX12_bitsOf l D ca za h hh fp_67 L Q hI v_17 ⟨by omega, by omega⟩ H.size) (va_cwS 1 hts (gw_S (fun _ h => List.mem_cons_of_mem _ h) mw_764 mw_765 mw_619 mw_763) rfl rfl rfl hd_yX12_bitsOf.2 ⟨Nat.le_of_ble_eq_true rfl, Nat.le_of_ble_eq_true rfl⟩) (sg_preS hA hK hP hS hZ) rfl rfl hl.1 rfl (lv_room (Nat.le_of_ble_eq_true rfl)) dX12_memories_84 ⟨Nat.le_refl _, Nat.le_refl _⟩) hA hS (fun r_31 f_28 L_29 Q_30 H locs hq hP hS => ?_)
            obtain ⟨⟨ef9, eL9, eQ9⟩, hq, u_32⟩ := hq
            replace hs := hs.trans ((if_pos c_25).trans (spl_e u_32 rfl))
            rw [ef9, eL9, eQ9] at hP; clear ef9 eL9 eQ9
            refine lv_iload hx hb dX12_memories_87 (lv_at hl 6 rfl) ?_
            refine lv_icmp_ne (tgt := 143) hx hb dX12_memories_89 (by decide) (fun c => ?_) (fun c => ?_)
            · skip
              have c_33 : r_31.toInt ≠ y6_67.toInt := (by first | exact (bn_ne c) | (have z := bn_ne c; omega))
              exact blk_143 y4_67 y5_67 y6_67 fp_67 _ _ _ (hs.trans ((if_neg c_33).trans rfl)) hm_56 (by have zz0_22 : (fp_67 0 22).toInt = v_17.toInt := (congrArg Int32.toInt (show fp_67 0 22 = v_17 from ev_17.symm)); omega) (by have zz0_22 : (fp_67 0 22).toInt = v_17.toInt := (congrArg Int32.toInt (show fp_67 0 22 = v_17 from ev_17.symm)); exact ⟨by omega, by omega⟩) hy1_67 hy2_67 hy3_67 hy4_67 hy5_67 hI hF hP hS (lv_sub hl [0, 1, 2, 3, 4, 5, 6] rfl)
            · skip
              have c_34 : r_31.toInt = y6_67.toInt := (by first | exact (Int32.toInt_inj.mpr c) | (have z := Int32.toInt_inj.mpr c; omega))
              refine lv_aload_n hx hb dX12_memories_92 rfl (lv_at hl 0 rfl) ?_
              refine lv_iload_n hx hb dX12_memories_93 rfl (lv_at hl 1 rfl) ?_
              refine sg_calli (va_runV (As := [.int x0]) (rest := []) ⟨hx, hb, hml, hown, hts⟩ (kX12_weekOf l D ca za h hh fp_67 L Q hI x0 hy1_67 H.size) (sl_c12_weekOf_46_0_0_1055_12 hts ⟨Nat.le_of_ble_eq_true rfl, Nat.le_of_ble_eq_true rfl⟩) (sl_vM_0 hA hK hP hS hZ) rfl rfl hl.1 rfl (lv_room (Nat.le_of_ble_eq_true rfl)) dX12_memories_94 ⟨Nat.le_refl _, Nat.le_refl _⟩) hA hS (fun r_38 f_35 L_36 Q_37 H locs hq hP hS => ?_)
              obtain ⟨⟨hI, hk_f_35, eL9, eQ9⟩, hq, u_39⟩ := hq
              replace hs := hs.trans ((if_pos c_34).trans (spl2_e u_39 rfl))
              rw [eL9, eQ9] at hP; clear eL9 eQ9
              have hF : sgK WkX12_memories f f_35 := sgK.tr hF hk_f_35 (by decide +kernel)
              refine lv_istore (lv' := [(7, .int r_38), (0, .ref (h 0)), (1, .int x0), (2, .int x1), (3, .int x2), (4, .int y4_67), (5, .int y5_67), (6, .int y6_67)]) hx hb dX12_memories_97 hl (by decide) rfl (fun ls hl => ?_)
              refine lv_iload hx hb dX12_memories_99 (lv_at hl 6 rfl) ?_
              refine lv_if_lt (tgt := 111) hx hb dX12_memories_101 (by decide) (fun c => ?_) (fun c => ?_)
              · skip
                have c_40 : y5_67.toInt < 0 := (by first | exact (cm_lt1 ti_0 c) | (have z := bn_lt c; have k1 : (0 : Int32).toInt = 0 := ti_0; omega))
                exact blk_111 y5_67 y6_67 r_38 f_35 _ _ _ (hs.trans ((if_pos c_40).trans rfl)) hm_56 (by have zz0_22 : (f_35 0 22).toInt = v_17.toInt := (congrArg Int32.toInt (show f_35 0 22 = v_17 from ((hk_f_35 0 22 (by decide)).trans ev_17.symm))); omega) (by have zz0_22 : (f_35 0 22).toInt = v_17.toInt := (congrArg Int32.toInt (show f_35 0 22 = v_17 from ((hk_f_35 0 22 (by decide)).trans ev_17.symm))); exact ⟨by omega, by omega⟩) hy1_67 hy2_67 hy3_67 hy5_67 hI hF hP hS (lv_sub hl [1, 2, 3, 4, 6, 7, 0] rfl)
              · skip
                have c_41 : 0 ≤ y5_67.toInt := (by first | exact (cm_nlt1 ti_0 c) | (have z := bn_nlt c; have k1 : (0 : Int32).toInt = 0 := ti_0; omega))
                replace hs := hs.trans ((if_neg (Int.not_lt.mpr c_41)).trans rfl)
                refine lv_iload hx hb dX12_memories_104 (lv_at hl 0 rfl) ?_
                refine lv_iload hx hb dX12_memories_106 (lv_at hl 6 rfl) ?_
                refine lv_icmp_ge (tgt := 118) hx hb dX12_memories_108 (by decide) (fun c => ?_) (fun c => ?_)
                · skip
                  have c_42 : y5_67.toInt ≤ r_38.toInt := (by first | exact (bn_le c) | (have z := bn_le c; omega))
                  replace hs := hs.trans ((if_neg (Int.not_lt.mpr c_42)).trans rfl)
                  refine lv_iload hx hb dX12_memories_118 (lv_at hl 5 rfl) ?_
                  refine lv_istore (lv' := [(4, .int y4_67), (7, .int r_38), (0, .ref (h 0)), (1, .int x0), (2, .int x1), (3, .int x2), (5, .int y5_67), (6, .int y6_67)]) hx hb dX12_memories_120 hl (by decide) rfl (fun ls hl => ?_)
                  refine lv_iload hx hb dX12_memories_122 (lv_at hl 6 rfl) ?_
                  refine lv_if_lt (tgt := 134) hx hb dX12_memories_124 (by decide) (fun c => ?_) (fun c => ?_)
                  · skip
                    exfalso; have c_44 : y5_67.toInt < 0 := (by first | exact (cm_lt1 ti_0 c) | (have z := bn_lt c; have k1 : (0 : Int32).toInt = 0 := ti_0; omega)); omega
                  · skip
                    have c_45 : 0 ≤ y5_67.toInt := (by first | exact (cm_nlt1 ti_0 c) | (have z := bn_nlt c; have k1 : (0 : Int32).toInt = 0 := ti_0; omega))
                    refine lv_iload hx hb dX12_memories_127 (lv_at hl 1 rfl) ?_
                    refine lv_iload hx hb dX12_memories_129 (lv_at hl 6 rfl) ?_
                    refine lv_icmp_ge (tgt := 139) hx hb dX12_memories_131 (by decide) (fun c => ?_) (fun c => ?_)
                    · skip
                      have c_46 : y5_67.toInt ≤ r_38.toInt := (by first | exact (bn_le c) | (have z := bn_le c; omega))
                      refine lv_iload hx hb dX12_memories_139 (lv_at hl 6 rfl) ?_
                      refine lv_istore (lv' := [(5, .int y5_67), (4, .int y4_67), (7, .int r_38), (0, .ref (h 0)), (1, .int x0), (2, .int x1), (3, .int x2), (6, .int y6_67)]) hx hb dX12_memories_141 hl (by decide) rfl (fun ls hl => ?_)
                      exact blk_143 y4_67 y5_67 y6_67 f_35 _ _ _ (hs.trans ((if_neg (Int.not_lt.mpr c_46)).trans rfl)) hm_56 (by have zz0_22 : (f_35 0 22).toInt = v_17.toInt := (congrArg Int32.toInt (show f_35 0 22 = v_17 from ((hk_f_35 0 22 (by decide)).trans ev_17.symm))); omega) (by have zz0_22 : (f_35 0 22).toInt = v_17.toInt := (congrArg Int32.toInt (show f_35 0 22 = v_17 from ((hk_f_35 0 22 (by decide)).trans ev_17.symm))); exact ⟨by omega, by omega⟩) hy1_67 hy2_67 hy3_67 hy4_67 hy5_67 hI hF hP hS (lv_sub hl [3, 4, 5, 6, 1, 0, 7] rfl)
                    · skip
                      have c_47 : r_38.toInt < y5_67.toInt := (by first | exact (bn_nle c) | (have z := bn_nle c; omega))
                      exact blk_134 y4_67 y6_67 r_38 f_35 _ _ _ (hs.trans ((if_pos c_47).trans rfl)) hm_56 (by have zz0_22 : (f_35 0 22).toInt = v_17.toInt := (congrArg Int32.toInt (show f_35 0 22 = v_17 from ((hk_f_35 0 22 (by decide)).trans ev_17.symm))); omega) (by have zz0_22 : (f_35 0 22).toInt = v_17.toInt := (congrArg Int32.toInt (show f_35 0 22 = v_17 from ((hk_f_35 0 22 (by decide)).trans ev_17.symm))); exact ⟨by omega, by omega⟩) hy1_67 hy2_67 hy3_67 hy4_67 hy5_67 hI hF hP hS (lv_sub hl [2, 3, 4, 5, 0, 7, 1] rfl)
                · skip
                  have c_43 : r_38.toInt < y5_67.toInt := (by first | exact (bn_nle c) | (have z := bn_nle c; omega))
                  exact blk_111 y5_67 y6_67 r_38 f_35 _ _ _ (hs.trans ((if_pos c_43).trans rfl)) hm_56 (by have zz0_22 : (f_35 0 22).toInt = v_17.toInt := (congrArg Int32.toInt (show f_35 0 22 = v_17 from ((hk_f_35 0 22 (by decide)).trans ev_17.symm))); omega) (by have zz0_22 : (f_35 0 22).toInt = v_17.toInt := (congrArg Int32.toInt (show f_35 0 22 = v_17 from ((hk_f_35 0 22 (by decide)).trans ev_17.symm))); exact ⟨by omega, by omega⟩) hy1_67 hy2_67 hy3_67 hy5_67 hI hF hP hS (lv_sub hl [1, 2, 3, 4, 6, 7, 0] rfl)
      intro y4_56 y5_56 y6_56 fp_56 H locs ls hs hm_56 hy0_56 hy1_56 hy2_56 hy3_56 hy4_56 hI hF hP hS hl
      have hs : sp = sX12_memories_h56 x0 x1 x2 (sX12_memories_l56 x0 x1 x2 n_56) y4_56 y5_56 y6_56 fp_56 L := hs
      refine lv_iload hx hb dX12_memories_56 (lv_at hl 6 rfl) ?_
      refine lv_iload_n hx hb dX12_memories_58 rfl (lv_at hl 2 rfl) ?_
      refine lv_icmp_gt (tgt := 162) hx hb dX12_memories_59 (by decide) (fun c => ?_) (fun c => ?_)
      · skip
        have c_48 : x1.toInt < y6_56.toInt := (by first | exact (bn_lt c) | (have z := bn_lt c; omega))
        refine lv_aload_n hx hb dX12_memories_162 rfl (lv_at hl 0 rfl) ?_
        refine lv_iconst (v := 0) hx hb dX12_memories_163 ic_0 ?_
        refine sl_pM_0_22_12 (x := 0) hx hb hts hown hh hA hK hP hS dX12_memories_164 (fun f_50 H locs ef_50 hP hS => ?_)
        replace hs := hs.trans ((if_pos c_48).trans (spl_e ef_50 rfl))
        have hI : sgI loM hiM f_50 := by rw [ef_50]; exact sgI.put hI 0 22 (show 0 ≤ (0 : Int32).toInt ∧ (0 : Int32).toInt ≤ 487 from by decide)
        have hF : sgK WkX12_memories f f_50 := sgK.put hF ef_50 (by rfl)
        refine lv_iload_n hx hb dX12_memories_167 rfl (lv_at hl 3 rfl) ?_
        refine lv_if_ne (tgt := 176) hx hb dX12_memories_168 (by decide) (fun c => ?_) (fun c => ?_)
        · skip
          have c_51 : x2.toInt ≠ 0 := (by first | exact (cm_ne1 ti_0 c) | (have z := bn_ne c; have k1 : (0 : Int32).toInt = 0 := ti_0; omega))
          refine lv_iload hx hb dX12_memories_176 (lv_at hl 5 rfl) ?_
          exact hret _ _ _ _ (y5_56) f_50 L Q dX12_memories_178 hP hS ⟨⟨hI, hF, rfl, rfl⟩, trivial, (Eq.trans (Eq.symm (hs.trans ((if_neg c_51).trans rfl))) hsp)⟩
        · skip
          have c_52 : x2.toInt = 0 := (by first | exact (cm_eq1 ti_0 c) | (have z := Int32.toInt_inj.mpr c; have k1 : (0 : Int32).toInt = 0 := ti_0; omega))
          refine lv_iload hx hb dX12_memories_171 (lv_at hl 4 rfl) ?_
          refine lv_goto (tgt := 178) hx hb dX12_memories_173 (by decide) ?_
          exact hret _ _ _ _ (y4_56) f_50 L Q dX12_memories_178 hP hS ⟨⟨hI, hF, rfl, rfl⟩, trivial, (Eq.trans (Eq.symm (hs.trans ((if_pos c_52).trans rfl))) hsp)⟩
      · skip
        have c_49 : y6_56.toInt ≤ x1.toInt := (by first | exact (bn_nlt c) | (have z := bn_nlt c; omega))
        refine lv_aload_n hx hb dX12_memories_62 rfl (lv_at hl 0 rfl) ?_
        refine lv_iconst (v := 0) hx hb dX12_memories_63 ic_0 ?_
        refine sl_pM_0_22_12 (x := 0) hx hb hts hown hh hA hK hP hS dX12_memories_64 (fun f_53 H locs ef_53 hP hS => ?_)
        have hI : sgI loM hiM f_53 := by rw [ef_53]; exact sgI.put hI 0 22 (show 0 ≤ (0 : Int32).toInt ∧ (0 : Int32).toInt ≤ 487 from by decide)
        have hF : sgK WkX12_memories f f_53 := sgK.put hF ef_53 (by rfl)
        exact loop_67 488 y4_56 y5_56 y6_56 f_53 _ _ _ (hs.trans (((if_neg (Int.not_lt.mpr c_49)).trans (spl_e ef_53 rfl)))) (by have zz0_22 : (f_53 0 22).toInt = 0 := (congrArg Int32.toInt (show f_53 0 22 = 0 from (by rw [ef_53, sg_up_s, sgu_s]))).trans (by decide); omega) (by omega) (by have zz0_22 : (f_53 0 22).toInt = 0 := (congrArg Int32.toInt (show f_53 0 22 = 0 from (by rw [ef_53, sg_up_s, sgu_s]))).trans (by decide); exact ⟨by omega, by omega⟩) hy0_56 hy1_56 hy2_56 hy3_56 ⟨by omega, by omega⟩ hI hF hP hS (lv_sub hl [0, 1, 2, 3, 4, 5, 6] rfl)
  refine lv_aload_n hx hb dX12_memories_0 rfl (lv_at hl 0 rfl) ?_
  refine lv_iload_n hx hb dX12_memories_1 rfl (lv_at hl 1 rfl) ?_
  refine sg_calli (va_runV (As := [.int x0]) (rest := []) ⟨hx, hb, hml, hown, hts⟩ (kX12_bytesIs l D ca za h hh f L Q hI x0 H.size) (sl_c12_bytesIs_2_0_0_45_12 hts ⟨Nat.le_of_ble_eq_true rfl, Nat.le_of_ble_eq_true rfl⟩) (sl_vM_0 hA hK hP hS hZ) rfl rfl hl.1 rfl (lv_room (Nat.le_of_ble_eq_true rfl)) dX12_memories_2 ⟨Nat.le_refl _, Nat.le_refl _⟩) hA hS (fun r_57 f_54 L_55 Q_56 H locs hq hP hS => ?_)
  obtain ⟨⟨ef9, eL9, eQ9⟩, hq, u_58⟩ := hq
  replace hs := hs.trans (spl_e u_58 rfl)
  rw [ef9, eL9, eQ9] at hP; clear ef9 eL9 eQ9
  rcases hq with ⟨rfl, hq⟩ | hq | ⟨rfl, hq⟩
  · skip
    have hc_59 := hq
    refine lv_iconst (v := (-1)) hx hb dX12_memories_5 ic_m1 ?_
    refine lv_icmp_eq (tgt := 31) hx hb dX12_memories_6 (by decide) (fun c => absurd c (by decide)) (fun c => ?_)
    refine lv_iload_n hx hb dX12_memories_9 rfl (lv_at hl 2 rfl) ?_
    obtain ⟨w_60, ew_60⟩ : ∃ z : Int64, z = Int32.toInt64 x1 := ⟨_, rfl⟩
    have q_61 : w_60.toInt = x1.toInt := by rw [ew_60]; exact Int32.toInt_toInt64 _
    refine lv_i2l (v := w_60) hx hb dX12_memories_10 ew_60.symm ?_
    refine lv_lconst (v := 0) hx hb dX12_memories_11 (by decide) ?_
    refine lv_ldc2 (v := 3) hx hb hown (hts _ (List.mem_cons_of_mem _ mw_692)) dX12_memories_12 ?_
    refine sg_calli (va_runS (As := [.long w_60, .long 0, .long 3]) (rest := []) ⟨hx, hb, hml, hown, hts⟩ (kX12_within l D ca za h hh f L Q hI w_60 0 3 H.size) (va_cwS 3 hts (gw_S (fun _ h => List.mem_cons_of_mem _ h) mw_631 mw_632 mw_619 mw_630) rfl rfl rfl hd_yX12_within.2 ⟨Nat.le_of_ble_eq_true rfl, Nat.le_of_ble_eq_true rfl⟩) (sg_preS hA hK hP hS hZ) rfl rfl hl.1 rfl (lv_room (Nat.le_of_ble_eq_true rfl)) dX12_memories_15 ⟨Nat.le_refl _, Nat.le_refl _⟩) hA hS (fun r_65 f_62 L_63 Q_64 H locs hq hP hS => ?_)
    obtain ⟨⟨ef9, eL9, eQ9⟩, hq, u_66⟩ := hq
    replace hs := hs.trans ((if_pos rfl).trans (spl_e ew_60 (spl_e u_66 rfl)))
    rw [ef9, eL9, eQ9] at hP; clear ef9 eL9 eQ9
    have k_67 : (0 : Int64).toInt = 0 := by decide
    have k_68 : (3 : Int64).toInt = 3 := by decide
    rcases hq with ⟨rfl, hq⟩ | ⟨rfl, hq⟩
    · skip
      have hc_69 := hq
      refine lv_if_eq (tgt := 31) hx hb dX12_memories_18 (by decide) (fun c => absurd c (by decide)) (fun c => ?_)
      refine lv_iload_n hx hb dX12_memories_21 rfl (lv_at hl 3 rfl) ?_
      obtain ⟨w_70, ew_70⟩ : ∃ z : Int64, z = Int32.toInt64 x2 := ⟨_, rfl⟩
      have q_71 : w_70.toInt = x2.toInt := by rw [ew_70]; exact Int32.toInt_toInt64 _
      refine lv_i2l (v := w_70) hx hb dX12_memories_22 ew_70.symm ?_
      refine lv_lconst (v := 0) hx hb dX12_memories_23 (by decide) ?_
      refine lv_lconst (v := 1) hx hb dX12_memories_24 (by decide) ?_
      refine sg_calli (va_runS (As := [.long w_70, .long 0, .long 1]) (rest := []) ⟨hx, hb, hml, hown, hts⟩ (kX12_within l D ca za h hh f L Q hI w_70 0 1 H.size) (va_cwS 3 hts (gw_S (fun _ h => List.mem_cons_of_mem _ h) mw_631 mw_632 mw_619 mw_630) rfl rfl rfl hd_yX12_within.2 ⟨Nat.le_of_ble_eq_true rfl, Nat.le_of_ble_eq_true rfl⟩) (sg_preS hA hK hP hS hZ) rfl rfl hl.1 rfl (lv_room (Nat.le_of_ble_eq_true rfl)) dX12_memories_25 ⟨Nat.le_refl _, Nat.le_refl _⟩) hA hS (fun r_75 f_72 L_73 Q_74 H locs hq hP hS => ?_)
      obtain ⟨⟨ef9, eL9, eQ9⟩, hq, u_76⟩ := hq
      replace hs := hs.trans ((if_pos rfl).trans (spl_e ew_70 (spl_e u_76 rfl)))
      rw [ef9, eL9, eQ9] at hP; clear ef9 eL9 eQ9
      have k_77 : (0 : Int64).toInt = 0 := by decide
      have k_78 : (1 : Int64).toInt = 1 := by decide
      rcases hq with ⟨rfl, hq⟩ | ⟨rfl, hq⟩
      · skip
        have hc_79 := hq
        refine lv_if_ne (tgt := 33) hx hb dX12_memories_28 (by decide) (fun c => ?_) (fun c => absurd c (by decide))
        refine lv_aload_n hx hb dX12_memories_33 rfl (lv_at hl 0 rfl) ?_
        refine lv_iload_n hx hb dX12_memories_34 rfl (lv_at hl 1 rfl) ?_
        refine sg_calli (va_runV (As := [.int x0]) (rest := []) ⟨hx, hb, hml, hown, hts⟩ (kX12_bytesIs l D ca za h hh f L Q hI x0 H.size) (sl_c12_bytesIs_2_0_0_45_12 hts ⟨Nat.le_of_ble_eq_true rfl, Nat.le_of_ble_eq_true rfl⟩) (sl_vM_0 hA hK hP hS hZ) rfl rfl hl.1 rfl (lv_room (Nat.le_of_ble_eq_true rfl)) dX12_memories_35 ⟨Nat.le_refl _, Nat.le_refl _⟩) hA hS (fun r_83 f_80 L_81 Q_82 H locs hq hP hS => ?_)
        obtain ⟨⟨ef9, eL9, eQ9⟩, hq, u_84⟩ := hq
        rw [ef9, eL9, eQ9] at hP; clear ef9 eL9 eQ9
        rw [show r_83 = 1 from u_84.trans u_58.symm]
        refine lv_if_ge (tgt := 47) hx hb dX12_memories_38 (by decide) (fun c => ?_) (fun c => absurd c (by decide))
        refine lv_iconst (v := 0) hx hb dX12_memories_47 ic_0 ?_
        refine lv_istore (lv' := [(4, .int 0), (0, .ref (h 0)), (1, .int x0), (2, .int x1), (3, .int x2)]) hx hb dX12_memories_48 hl (by decide) rfl (fun ls hl => ?_)
        refine lv_iconst (v := (-1)) hx hb dX12_memories_50 ic_m1 ?_
        refine lv_istore (lv' := [(5, .int (-1)), (4, .int 0), (0, .ref (h 0)), (1, .int x0), (2, .int x1), (3, .int x2)]) hx hb dX12_memories_51 hl (by decide) rfl (fun ls hl => ?_)
        refine lv_iconst (v := 0) hx hb dX12_memories_53 ic_0 ?_
        refine lv_istore (lv' := [(6, .int 0), (5, .int (-1)), (4, .int 0), (0, .ref (h 0)), (1, .int x0), (2, .int x1), (3, .int x2)]) hx hb dX12_memories_54 hl (by decide) rfl (fun ls hl => ?_)
        exact loop_56 5 0 (-1) 0 f _ _ _ (hs.trans ((if_pos rfl).trans rfl)) (by have kc0 : (0 : Int32).toInt = 0 := ti_0; have kc1 : ((-1) : Int32).toInt = (-1) := ti_m1; have kc2 : (0 : Int32).toInt = 0 := ti_0; omega) ⟨by omega, by omega⟩ ⟨by omega, by omega⟩ ⟨by omega, by omega⟩ (by decide) (by decide) hI hF hP hS (lv_sub hl [3, 4, 5, 6, 2, 1, 0] rfl)
      · skip
        have hc_79 := hq
        refine lv_if_ne (tgt := 33) hx hb dX12_memories_28 (by decide) (fun c => absurd c (by decide)) (fun c => ?_)
        refine lv_iconst (v := (-1)) hx hb dX12_memories_31 ic_m1 ?_
        have k99 : ((-1) : Int32).toInt = (-1) := ti_m1
        exact hret _ _ _ _ (-1) f L Q dX12_memories_32 hP hS ⟨⟨hI, hF, rfl, rfl⟩, trivial, (Eq.trans (Eq.symm (hs.trans ((if_neg (by decide)).trans rfl))) hsp)⟩
    · skip
      have hc_69 := hq
      refine lv_if_eq (tgt := 31) hx hb dX12_memories_18 (by decide) (fun c => ?_) (fun c => absurd c (by decide))
      refine lv_iconst (v := (-1)) hx hb dX12_memories_31 ic_m1 ?_
      have k99 : ((-1) : Int32).toInt = (-1) := ti_m1
      exact hret _ _ _ _ (-1) f L Q dX12_memories_32 hP hS ⟨⟨hI, hF, rfl, rfl⟩, trivial, (Eq.trans (Eq.symm (hs.trans ((if_neg (by decide)).trans rfl))) hsp)⟩
  · skip
    have hc_59 := hq
    refine lv_iconst (v := (-1)) hx hb dX12_memories_5 ic_m1 ?_
    refine lv_icmp_eq (tgt := 31) hx hb dX12_memories_6 (by decide) (fun c => ?_) (fun c => ?_)
    · skip
      exfalso; have c_85 : r_57.toInt = (-1) := (by first | exact (cm_eq1 ti_m1 c) | (have z := Int32.toInt_inj.mpr c; have k1 : ((-1) : Int32).toInt = (-1) := ti_m1; omega)); first | exact absurd c_85 (by assumption) | omega
    · skip
      have c_86 : r_57.toInt ≠ (-1) := (by first | exact (cm_ne1 ti_m1 c) | (have z := bn_ne c; have k1 : ((-1) : Int32).toInt = (-1) := ti_m1; omega))
      refine lv_iload_n hx hb dX12_memories_9 rfl (lv_at hl 2 rfl) ?_
      obtain ⟨w_87, ew_87⟩ : ∃ z : Int64, z = Int32.toInt64 x1 := ⟨_, rfl⟩
      have q_88 : w_87.toInt = x1.toInt := by rw [ew_87]; exact Int32.toInt_toInt64 _
      refine lv_i2l (v := w_87) hx hb dX12_memories_10 ew_87.symm ?_
      refine lv_lconst (v := 0) hx hb dX12_memories_11 (by decide) ?_
      refine lv_ldc2 (v := 3) hx hb hown (hts _ (List.mem_cons_of_mem _ mw_692)) dX12_memories_12 ?_
      refine sg_calli (va_runS (As := [.long w_87, .long 0, .long 3]) (rest := []) ⟨hx, hb, hml, hown, hts⟩ (kX12_within l D ca za h hh f L Q hI w_87 0 3 H.size) (va_cwS 3 hts (gw_S (fun _ h => List.mem_cons_of_mem _ h) mw_631 mw_632 mw_619 mw_630) rfl rfl rfl hd_yX12_within.2 ⟨Nat.le_of_ble_eq_true rfl, Nat.le_of_ble_eq_true rfl⟩) (sg_preS hA hK hP hS hZ) rfl rfl hl.1 rfl (lv_room (Nat.le_of_ble_eq_true rfl)) dX12_memories_15 ⟨Nat.le_refl _, Nat.le_refl _⟩) hA hS (fun r_92 f_89 L_90 Q_91 H locs hq hP hS => ?_)
      obtain ⟨⟨ef9, eL9, eQ9⟩, hq, u_93⟩ := hq
      rw [ef9, eL9, eQ9] at hP; clear ef9 eL9 eQ9
      have k_94 : (0 : Int64).toInt = 0 := by decide
      have k_95 : (3 : Int64).toInt = 3 := by decide
      rcases hq with ⟨rfl, hq⟩ | ⟨rfl, hq⟩
      · skip
        have hc_96 := hq
        refine lv_if_eq (tgt := 31) hx hb dX12_memories_18 (by decide) (fun c => absurd c (by decide)) (fun c => ?_)
        refine lv_iload_n hx hb dX12_memories_21 rfl (lv_at hl 3 rfl) ?_
        obtain ⟨w_97, ew_97⟩ : ∃ z : Int64, z = Int32.toInt64 x2 := ⟨_, rfl⟩
        have q_98 : w_97.toInt = x2.toInt := by rw [ew_97]; exact Int32.toInt_toInt64 _
        refine lv_i2l (v := w_97) hx hb dX12_memories_22 ew_97.symm ?_
        refine lv_lconst (v := 0) hx hb dX12_memories_23 (by decide) ?_
        refine lv_lconst (v := 1) hx hb dX12_memories_24 (by decide) ?_
        refine sg_calli (va_runS (As := [.long w_97, .long 0, .long 1]) (rest := []) ⟨hx, hb, hml, hown, hts⟩ (kX12_within l D ca za h hh f L Q hI w_97 0 1 H.size) (va_cwS 3 hts (gw_S (fun _ h => List.mem_cons_of_mem _ h) mw_631 mw_632 mw_619 mw_630) rfl rfl rfl hd_yX12_within.2 ⟨Nat.le_of_ble_eq_true rfl, Nat.le_of_ble_eq_true rfl⟩) (sg_preS hA hK hP hS hZ) rfl rfl hl.1 rfl (lv_room (Nat.le_of_ble_eq_true rfl)) dX12_memories_25 ⟨Nat.le_refl _, Nat.le_refl _⟩) hA hS (fun r_102 f_99 L_100 Q_101 H locs hq hP hS => ?_)
        obtain ⟨⟨ef9, eL9, eQ9⟩, hq, u_103⟩ := hq
        rw [ef9, eL9, eQ9] at hP; clear ef9 eL9 eQ9
        have k_104 : (0 : Int64).toInt = 0 := by decide
        have k_105 : (1 : Int64).toInt = 1 := by decide
        rcases hq with ⟨rfl, hq⟩ | ⟨rfl, hq⟩
        · skip
          have hc_106 := hq
          refine lv_if_ne (tgt := 33) hx hb dX12_memories_28 (by decide) (fun c => ?_) (fun c => absurd c (by decide))
          refine lv_aload_n hx hb dX12_memories_33 rfl (lv_at hl 0 rfl) ?_
          refine lv_iload_n hx hb dX12_memories_34 rfl (lv_at hl 1 rfl) ?_
          refine sg_calli (va_runV (As := [.int x0]) (rest := []) ⟨hx, hb, hml, hown, hts⟩ (kX12_bytesIs l D ca za h hh f L Q hI x0 H.size) (sl_c12_bytesIs_2_0_0_45_12 hts ⟨Nat.le_of_ble_eq_true rfl, Nat.le_of_ble_eq_true rfl⟩) (sl_vM_0 hA hK hP hS hZ) rfl rfl hl.1 rfl (lv_room (Nat.le_of_ble_eq_true rfl)) dX12_memories_35 ⟨Nat.le_refl _, Nat.le_refl _⟩) hA hS (fun r_110 f_107 L_108 Q_109 H locs hq hP hS => ?_)
          obtain ⟨⟨ef9, eL9, eQ9⟩, hq, u_111⟩ := hq
          rw [ef9, eL9, eQ9] at hP; clear ef9 eL9 eQ9
          rw [show r_110 = r_57 from u_111.trans u_58.symm]
          refine lv_if_ge (tgt := 47) hx hb dX12_memories_38 (by decide) (fun c => ?_) (fun c => ?_)
          · skip
            exfalso; have c_112 : 0 ≤ r_57.toInt := (by first | exact (cm_le0 ti_0 c) | (have z := bn_le c; have k1 : (0 : Int32).toInt = 0 := ti_0; omega)); omega
          · skip
            have c_113 : r_57.toInt < 0 := (by first | exact (cm_nle0 ti_0 c) | (have z := bn_nle c; have k1 : (0 : Int32).toInt = 0 := ti_0; omega))
            refine lv_aload_n hx hb dX12_memories_41 rfl (lv_at hl 0 rfl) ?_
            refine lv_iload_n hx hb dX12_memories_42 rfl (lv_at hl 1 rfl) ?_
            refine sg_calli (va_runV (As := [.int x0]) (rest := []) ⟨hx, hb, hml, hown, hts⟩ (kX12_bytesIs l D ca za h hh f L Q hI x0 H.size) (sl_c12_bytesIs_2_0_0_45_12 hts ⟨Nat.le_of_ble_eq_true rfl, Nat.le_of_ble_eq_true rfl⟩) (sl_vM_0 hA hK hP hS hZ) rfl rfl hl.1 rfl (lv_room (Nat.le_of_ble_eq_true rfl)) dX12_memories_43 ⟨Nat.le_refl _, Nat.le_refl _⟩) hA hS (fun r_117 f_114 L_115 Q_116 H locs hq hP hS => ?_)
            obtain ⟨⟨ef9, eL9, eQ9⟩, hq, u_118⟩ := hq
            rw [ef9, eL9, eQ9] at hP; clear ef9 eL9 eQ9
            rw [show r_117 = r_57 from u_118.trans u_58.symm]
            exact hret _ _ _ _ (r_57) f L Q dX12_memories_46 hP hS ⟨⟨hI, hF, rfl, rfl⟩, trivial, (Eq.trans (Eq.symm (hs.trans ((if_neg (fun z9 => by have k9 : (1 : Int32).toInt = 1 := ti_1; have h9 := hc_59; rw [z9] at h9; omega)).trans ((if_neg (fun z9 => by have k9 : ((-1) : Int32).toInt = (-1) := ti_m1; have h9 := hc_59; rw [z9] at h9; omega)).trans (spl_e ew_87 (spl_e u_93 ((if_pos rfl).trans (spl_e ew_97 (spl_e u_103 ((if_pos rfl).trans rfl)))))))))) hsp)⟩
        · skip
          have hc_106 := hq
          refine lv_if_ne (tgt := 33) hx hb dX12_memories_28 (by decide) (fun c => absurd c (by decide)) (fun c => ?_)
          refine lv_iconst (v := (-1)) hx hb dX12_memories_31 ic_m1 ?_
          have k99 : ((-1) : Int32).toInt = (-1) := ti_m1
          exact hret _ _ _ _ (-1) f L Q dX12_memories_32 hP hS ⟨⟨hI, hF, rfl, rfl⟩, trivial, (Eq.trans (Eq.symm (hs.trans ((if_neg (fun z9 => by have k9 : (1 : Int32).toInt = 1 := ti_1; have h9 := hc_59; rw [z9] at h9; omega)).trans ((if_neg (fun z9 => by have k9 : ((-1) : Int32).toInt = (-1) := ti_m1; have h9 := hc_59; rw [z9] at h9; omega)).trans (spl_e ew_87 (spl_e u_93 ((if_pos rfl).trans (spl_e ew_97 (spl_e u_103 ((if_neg (by decide)).trans rfl)))))))))) hsp)⟩
      · skip
        have hc_96 := hq
        refine lv_if_eq (tgt := 31) hx hb dX12_memories_18 (by decide) (fun c => ?_) (fun c => absurd c (by decide))
        refine lv_iconst (v := (-1)) hx hb dX12_memories_31 ic_m1 ?_
        have k99 : ((-1) : Int32).toInt = (-1) := ti_m1
        exact hret _ _ _ _ (-1) f L Q dX12_memories_32 hP hS ⟨⟨hI, hF, rfl, rfl⟩, trivial, (Eq.trans (Eq.symm (hs.trans ((if_neg (fun z9 => by have k9 : (1 : Int32).toInt = 1 := ti_1; have h9 := hc_59; rw [z9] at h9; omega)).trans ((if_neg (fun z9 => by have k9 : ((-1) : Int32).toInt = (-1) := ti_m1; have h9 := hc_59; rw [z9] at h9; omega)).trans (spl_e ew_87 (spl_e u_93 ((if_neg (by decide)).trans rfl))))))) hsp)⟩
  · skip
    have hc_59 := hq
    refine lv_iconst (v := (-1)) hx hb dX12_memories_5 ic_m1 ?_
    refine lv_icmp_eq (tgt := 31) hx hb dX12_memories_6 (by decide) (fun c => ?_) (fun c => absurd c (by decide))
    refine lv_iconst (v := (-1)) hx hb dX12_memories_31 ic_m1 ?_
    have k99 : ((-1) : Int32).toInt = (-1) := ti_m1
    exact hret _ _ _ _ (-1) f L Q dX12_memories_32 hP hS ⟨⟨hI, hF, rfl, rfl⟩, trivial, (Eq.trans (Eq.symm (hs.trans ((if_neg (by decide)).trans ((if_pos rfl).trans rfl)))) hsp)⟩
