/-! contracts of any state. Laid by a program (wip/tool) -/
abbrev WkX12_product_0 : List (Nat × Nat × Option Nat) := [(0, 0, some 13), (0, 0, some 15), (0, 0, some 16)]
set_option maxHeartbeats 4000000 in
set_option maxRecDepth 100000 in
theorem kX12_product_0 (l : Launch) (D : va_G) (ca : Nat → ClassId) (za h : Nat → Nat) (hh : sgH 26 h) (f : sg_F) (L : sg_L) (Q : sg_Q) (hI : sgI loM hiM f) (p0 : 0 ≤ (f 0 16).toInt) (p1 : 0 ≤ (f 0 15).toInt ∨ (f 0 16).toInt = 0) (sz : Nat) : Met l yX12_product gwX12_product { frames := 38, cells := 0, slots := 0, locals := 866 } (sgP D vwCl (tyX ca) 26 h (eM ca h) zcM za f L Q sz [.ref (h 0)]) (sgQi D vwCl 26 h (eM ca h) sz (fun r f1 L1 Q1 => ((sgI loM hiM f1 ∧ sgK WkX12_product_0 f f1 ∧ L1 = L ∧ Q1 = Q) ∧ True ∧ ((f 0 13).toInt ≤ (f1 0 13).toInt) ∧ (0 ≤ (f1 0 16).toInt) ∧ (0 ≤ (f1 0 15).toInt ∨ (f1 0 16).toInt = 0)))) 0 0 (sgA 26 h sz) := by
  refine sg_ofWi (cc := cX12_product) (maxL := 4) RX12 (by decide) rfl rfl (Nat.le_of_ble_eq_true rfl) ?_
  intro p e s m below meth cd Qz ls hx hb hml hown hts hK hZ hP hS hl hret
  have hA := sgY.self (n := 26) (h := h) (sz := s.heap.size)
  have hl : lv_has ls 4 [(0, .ref (h 0))] := hl
  obtain ⟨H, hH⟩ : ∃ z : Heap, z = s.heap := ⟨_, rfl⟩
  obtain ⟨locs, hlo⟩ : ∃ z : List Loc, z = [] := ⟨_, rfl⟩
  have hP : va_P D vwCl (sgw 26 h (eM ca h) f L Q) H := by rw [hH]; exact hP
  have hS : va_S (sgA 26 h s.heap.size) s.heap H locs := by rw [hH, hlo]; exact hS
  suffices hgo : W p l e ({ frames := 38, cells := 0, slots := 0, locals := 866 }) s m ([.ref (h 0)] : List Value).toArray below meth cd H locs 0 0 Qz (F0 m 0 ls []) by rw [hH, hlo] at hgo; exact hgo
  clear hH hlo
  obtain ⟨v_1, ev_1⟩ : ∃ z : Int32, z = f 0 16 := ⟨_, rfl⟩
  have q_2 : 0 ≤ v_1.toInt ∧ v_1.toInt ≤ 6 := by rw [ev_1]; exact hI 0 16
  obtain ⟨v_3, ev_3⟩ : ∃ z : Int32, z = f 0 15 := ⟨_, rfl⟩
  have q_4 : (-1) ≤ v_3.toInt ∧ v_3.toInt ≤ 120 := by rw [ev_3]; exact hI 0 15
  obtain ⟨v_5, ev_5⟩ : ∃ z : Int32, z = f 0 13 := ⟨_, rfl⟩
  have q_6 : 0 ≤ v_5.toInt ∧ v_5.toInt ≤ 120 := by rw [ev_5]; exact hI 0 13
  obtain ⟨v_7, ev_7⟩ : ∃ z : Int32, z = f 0 14 := ⟨_, rfl⟩
  have q_8 : 0 ≤ v_7.toInt ∧ v_7.toInt ≤ 120 := by rw [ev_7]; exact hI 0 14
  have o_9 : (f 0 16).toInt = v_1.toInt := (congrArg Int32.toInt (show f 0 16 = v_1 from ev_1.symm))
  have o_10 : (f 0 15).toInt = v_3.toInt := (congrArg Int32.toInt (show f 0 15 = v_3 from ev_3.symm))
  have o_11 : (f 0 13).toInt = v_5.toInt := (congrArg Int32.toInt (show f 0 13 = v_5 from ev_5.symm))
  have o_12 : (f 0 14).toInt = v_7.toInt := (congrArg Int32.toInt (show f 0 14 = v_7 from ev_7.symm))
  have hF : sgK WkX12_product_0 f f := sgK.rf
  have loop_10 : ∀ (n_10 : Nat) (y1_10 : Int32) (y2_10 : Int32) (fp_10 : sg_F) (H : Heap) (locs : List Loc) (ls : Array Slot), 120 - (fp_10 0 13).toInt < (n_10 : Int) → 0 ≤ y2_10.toInt ∧ y2_10.toInt ≤ 255 → (f 0 13).toInt ≤ (fp_10 0 13).toInt → 0 ≤ (fp_10 0 16).toInt → 0 ≤ (fp_10 0 15).toInt ∨ (fp_10 0 16).toInt = 0 → y2_10.toInt = 0 ∨ (fp_10 0 13).toInt < (fp_10 0 14).toInt → sgI loM hiM fp_10 → sgK WkX12_product_0 f fp_10 → va_P D vwCl (sgw 26 h (eM ca h) fp_10 L Q) H → va_S (sgA 26 h s.heap.size) s.heap H locs → lv_has ls 4 [(0, .ref (h 0)), (1, .int y1_10), (2, .int y2_10)] → W p l e ({ frames := 38, cells := 0, slots := 0, locals := 866 }) s m ([.ref (h 0)] : List Value).toArray below meth cd H locs 0 0 Qz (F0 m 10 ls []) := by
    intro n_10
    induction n_10 with
    | zero => intro y1_10 y2_10 fp_10 H locs ls hm_10 hy0_10 hg0_10 hg1_10 hg2_10 hg3_10 hI hF hP hS hl; have zb := (show 0 ≤ (fp_10 0 13).toInt ∧ (fp_10 0 13).toInt ≤ 120 from hI 0 13); exact absurd hm_10 (by omega)
    | succ n_10 ih_10 =>
      intro y1_10 y2_10 fp_10 H locs ls hm_10 hy0_10 hg0_10 hg1_10 hg2_10 hg3_10 hI hF hP hS hl
      obtain ⟨v_13, ev_13⟩ : ∃ z : Int32, z = fp_10 0 13 := ⟨_, rfl⟩
      have q_14 : 0 ≤ v_13.toInt ∧ v_13.toInt ≤ 120 := by rw [ev_13]; exact hI 0 13
      have q_15 : (fp_10 0 13).toInt = v_13.toInt := by rw [ev_13]
      obtain ⟨v_16, ev_16⟩ : ∃ z : Int32, z = fp_10 0 16 := ⟨_, rfl⟩
      have q_17 : 0 ≤ v_16.toInt ∧ v_16.toInt ≤ 6 := by rw [ev_16]; exact hI 0 16
      have q_18 : (fp_10 0 16).toInt = v_16.toInt := by rw [ev_16]
      obtain ⟨v_19, ev_19⟩ : ∃ z : Int32, z = fp_10 0 15 := ⟨_, rfl⟩
      have q_20 : (-1) ≤ v_19.toInt ∧ v_19.toInt ≤ 120 := by rw [ev_19]; exact hI 0 15
      have q_21 : (fp_10 0 15).toInt = v_19.toInt := by rw [ev_19]
      obtain ⟨v_22, ev_22⟩ : ∃ z : Int32, z = fp_10 0 14 := ⟨_, rfl⟩
      have q_23 : 0 ≤ v_22.toInt ∧ v_22.toInt ≤ 120 := by rw [ev_22]; exact hI 0 14
      have q_24 : (fp_10 0 14).toInt = v_22.toInt := by rw [ev_22]
      refine lv_aload_n hx hb dX12_product_10 rfl (lv_at hl 0 rfl) ?_
      refine sg_get (ci := 12) (v := .int v_19) (C := RX12) (T := TX12) (N := 55) hx hb hts (fun w h => List.mem_cons_of_mem _ (gx_12 w h)) hown hK hP 0 (by decide) rfl rfl 15 (by decide) (hts _ (List.mem_cons_of_mem _ mw_627)) (fun _ h9 => h9) (congrArg (fun z => some (Value.int z)) (show fp_10 0 15 = v_19 from ev_19.symm)) dX12_product_11 ?_
      refine lv_if_ge (tgt := 94) hx hb dX12_product_14 (by decide) (fun c => ?_) (fun c => ?_)
      · skip
        have c_25 : 0 ≤ v_19.toInt := (by have z := bn_le c; have k1 : (0 : Int32).toInt = 0 := (by decide); omega)
        refine lv_iload_n hx hb dX12_product_94 rfl (lv_at hl 1 rfl) ?_
        have q_27 : (fp_10 0 13).toInt = v_13.toInt := (congrArg Int32.toInt (show fp_10 0 13 = v_13 from ev_13.symm))
        have q_28 : (fp_10 0 16).toInt = v_16.toInt := (congrArg Int32.toInt (show fp_10 0 16 = v_16 from ev_16.symm))
        have q_29 : (fp_10 0 15).toInt = v_19.toInt := (congrArg Int32.toInt (show fp_10 0 15 = v_19 from ev_19.symm))
        have q_30 : (fp_10 0 16).toInt = v_16.toInt := (congrArg Int32.toInt (show fp_10 0 16 = v_16 from ev_16.symm))
        exact hret _ _ _ _ (y1_10) fp_10 L Q dX12_product_95 hP hS ⟨⟨hI, hF, rfl, rfl⟩, trivial, (by omega), (by omega), (by omega)⟩
      · skip
        have c_26 : v_19.toInt < 0 := (by have z := bn_nle c; have k1 : (0 : Int32).toInt = 0 := (by decide); omega)
        refine lv_iload_n hx hb dX12_product_17 rfl (lv_at hl 2 rfl) ?_
        refine lv_bipush (v := 42) hx hb dX12_product_18 (by decide) ?_
        refine lv_icmp_eq (tgt := 35) hx hb dX12_product_20 (by decide) (fun c => ?_) (fun c => ?_)
        · skip
          have c_31 : y2_10.toInt = 42 := (by have z := Int32.toInt_inj.mpr c; have k1 : (42 : Int32).toInt = 42 := (by decide); omega)
          refine lv_aload_n hx hb dX12_product_35 rfl (lv_at hl 0 rfl) ?_
          refine lv_dup hx hb dX12_product_36 rfl ?_
          refine sg_get (ci := 12) (v := .int v_13) (C := RX12) (T := TX12) (N := 55) hx hb hts (fun w h => List.mem_cons_of_mem _ (gx_12 w h)) hown hK hP 0 (by decide) rfl rfl 13 (by decide) (hts _ (List.mem_cons_of_mem _ mw_625)) (fun _ h9 => h9) (congrArg (fun z => some (Value.int z)) (show fp_10 0 13 = v_13 from ev_13.symm)) dX12_product_37 ?_
          refine lv_iconst (v := 1) hx hb dX12_product_40 (by decide) ?_
          refine lv_iadd hx hb dX12_product_41 ?_
          refine lv_topi (fun v_33 ev_33 => ?_)
          have q_34 : v_33.toInt = v_13.toInt + 1 := by rw [ev_33]; have k1 : (1 : Int32).toInt = 1 := (by decide); exact (bn_addI (by omega) (by omega)).trans (by omega)
          refine sg_put (ci := 12) (x := v_33) (ty := .int) (C := RX12) (T := TX12) (N := 55) hx hb hts (fun w h => List.mem_cons_of_mem _ (gx_12 w h)) tyX12 tyX12_ok nmX12 hown hh hA hK hP hS 0 (by decide) rfl rfl 13 (by decide) (hts _ (List.mem_cons_of_mem _ mw_625)) (fun _ h9 => h9) rfl rfl (by decide +kernel) rfl rfl (Nat.le_of_ble_eq_true rfl) dX12_product_42 (fun f_35 H locs ef_35 hP hS => ?_)
          have hI : sgI loM hiM f_35 := by rw [ef_35]; exact sgI.put hI 0 13 (show 0 ≤ (v_33 : Int32).toInt ∧ (v_33 : Int32).toInt ≤ 120 from by omega)
          have hF : sgK WkX12_product_0 f f_35 := sgK.put hF ef_35 (by rfl)
          refine lv_aload_n hx hb dX12_product_45 rfl (lv_at hl 0 rfl) ?_
          have q_36 : (f_35 0 16).toInt = v_16.toInt := (congrArg Int32.toInt (show f_35 0 16 = v_16 from (by rw [ef_35, sg_up_s, sgu_n (by decide)]; exact ev_16.symm)))
          have q_37 : (f_35 0 15).toInt = v_19.toInt := (congrArg Int32.toInt (show f_35 0 15 = v_19 from (by rw [ef_35, sg_up_s, sgu_n (by decide)]; exact ev_19.symm)))
          have q_38 : (f_35 0 16).toInt = v_16.toInt := (congrArg Int32.toInt (show f_35 0 16 = v_16 from (by rw [ef_35, sg_up_s, sgu_n (by decide)]; exact ev_16.symm)))
          have q_39 : (f_35 0 13).toInt = v_33.toInt := (congrArg Int32.toInt (show f_35 0 13 = v_33 from (by rw [ef_35, sg_up_s, sgu_s])))
          refine sg_calli (va_runV (As := []) (rest := []) ⟨hx, hb, hml, hown, hts⟩ (kX12_one_0 l D ca za h hh f_35 L Q hI (by omega) (by omega) H.size) (cwV 0 hts (gw_V (fun _ h => List.mem_cons_of_mem _ h) mw_789 mw_790 mw_791 mw_619 mw_788) rfl rfl rfl (by decide +kernel) ⟨Nat.le_of_ble_eq_true rfl, Nat.le_of_ble_eq_true rfl⟩) (sg_preV (ci := 12) (C := RX12) (T := TX12) (N := 55) hA hK hP hS hZ 0 (by decide) rfl rfl) rfl rfl hl.1 rfl (lv_room (Nat.le_of_ble_eq_true rfl)) dX12_product_46 ⟨Nat.le_refl _, Nat.le_refl _⟩) hA hS (fun r_43 f_40 L_41 Q_42 H locs hq hP hS => ?_)
          obtain ⟨⟨hI, hk_f_40, eL9, eQ9⟩, hq, p_44, p_45, p_46⟩ := hq
          rw [eL9, eQ9] at hP; clear eL9 eQ9
          have hF : sgK WkX12_product_0 f f_40 := sgK.tr hF hk_f_40 (by decide)
          obtain ⟨v_47, ev_47⟩ : ∃ z : Int32, z = f_40 0 13 := ⟨_, rfl⟩
          have q_48 : 0 ≤ v_47.toInt ∧ v_47.toInt ≤ 120 := by rw [ev_47]; exact hI 0 13
          have q_49 : (f_40 0 13).toInt = v_47.toInt := (congrArg Int32.toInt (show f_40 0 13 = v_47 from ev_47.symm))
          obtain ⟨v_50, ev_50⟩ : ∃ z : Int32, z = f_40 0 16 := ⟨_, rfl⟩
          have q_51 : 0 ≤ v_50.toInt ∧ v_50.toInt ≤ 6 := by rw [ev_50]; exact hI 0 16
          have q_52 : (f_40 0 16).toInt = v_50.toInt := (congrArg Int32.toInt (show f_40 0 16 = v_50 from ev_50.symm))
          obtain ⟨v_53, ev_53⟩ : ∃ z : Int32, z = f_40 0 15 := ⟨_, rfl⟩
          have q_54 : (-1) ≤ v_53.toInt ∧ v_53.toInt ≤ 120 := by rw [ev_53]; exact hI 0 15
          have q_55 : (f_40 0 15).toInt = v_53.toInt := (congrArg Int32.toInt (show f_40 0 15 = v_53 from ev_53.symm))
          have q_56 : (f_40 0 16).toInt = v_50.toInt := (congrArg Int32.toInt (show f_40 0 16 = v_50 from ev_50.symm))
          refine lv_istore_n (lv' := [(3, .int r_43), (0, .ref (h 0)), (1, .int y1_10), (2, .int y2_10)]) hx hb dX12_product_49 rfl hl (by decide) rfl (fun ls hl => ?_)
          refine lv_iload_n hx hb dX12_product_50 rfl (lv_at hl 3 rfl) ?_
          refine lv_bipush (v := 42) hx hb dX12_product_51 (by decide) ?_
          refine lv_icmp_ne (tgt := 62) hx hb dX12_product_53 (by decide) (fun c => ?_) (fun c => ?_)
          · skip
            exfalso; have c_57 : y2_10.toInt ≠ 42 := (by have z := bn_ne c; have k1 : (42 : Int32).toInt = 42 := (by decide); omega); omega
          · skip
            have c_58 : y2_10.toInt = 42 := (by have z := Int32.toInt_inj.mpr c; have k1 : (42 : Int32).toInt = 42 := (by decide); omega)
            refine lv_iload_n hx hb dX12_product_56 rfl (lv_at hl 2 rfl) ?_
            refine lv_iload_n hx hb dX12_product_57 rfl (lv_at hl 0 rfl) ?_
            refine lv_imul hx hb dX12_product_58 ?_
            refine lv_topi (fun v_59 ev_59 => ?_)
            refine lv_goto (tgt := 85) hx hb dX12_product_59 (by decide) ?_
            refine lv_istore_n (lv' := [(1, .int v_59), (3, .int r_43), (0, .ref (h 0)), (2, .int y2_10)]) hx hb dX12_product_85 rfl hl (by decide) rfl (fun ls hl => ?_)
            refine lv_aload_n hx hb dX12_product_86 rfl (lv_at hl 2 rfl) ?_
            have q_60 : (f_40 0 13).toInt = v_47.toInt := (congrArg Int32.toInt (show f_40 0 13 = v_47 from ev_47.symm))
            have q_61 : (f_40 0 14).toInt = v_22.toInt := (congrArg Int32.toInt (show f_40 0 14 = v_22 from ((hk_f_40 0 14 (by decide)).trans (by rw [ef_35, sg_up_s, sgu_n (by decide)]; exact ev_22.symm))))
            refine sg_calli (va_runV (As := []) (rest := []) ⟨hx, hb, hml, hown, hts⟩ (kX12_byteAt l D ca za h hh f_40 L Q hI H.size) (cwV 0 hts (gw_V (fun _ h => List.mem_cons_of_mem _ h) mw_840 mw_841 mw_842 mw_619 mw_839) rfl rfl rfl (by decide +kernel) ⟨Nat.le_of_ble_eq_true rfl, Nat.le_of_ble_eq_true rfl⟩) (sg_preV (ci := 12) (C := RX12) (T := TX12) (N := 55) hA hK hP hS hZ 0 (by decide) rfl rfl) rfl rfl hl.1 rfl (lv_room (Nat.le_of_ble_eq_true rfl)) dX12_product_87 ⟨Nat.le_refl _, Nat.le_refl _⟩) hA hS (fun r_65 f_62 L_63 Q_64 H locs hq hP hS => ?_)
            obtain ⟨⟨ef9, eL9, eQ9⟩, hq, p_66⟩ := hq
            rw [ef9, eL9, eQ9] at hP; clear ef9 eL9 eQ9
            refine lv_istore_n (lv' := [(2, .int r_65), (1, .int v_59), (3, .int r_43), (0, .ref (h 0))]) hx hb dX12_product_90 rfl hl (by decide) rfl (fun ls hl => ?_)
            refine lv_goto (tgt := 10) hx hb dX12_product_91 (by decide) ?_
            exact ih_10 v_59 r_65 f_40 _ _ _ (by have zz0_13 : (f_40 0 13).toInt = v_47.toInt := (congrArg Int32.toInt (show f_40 0 13 = v_47 from ev_47.symm)); omega) (by omega) (by have zz0_13 : (f_40 0 13).toInt = v_47.toInt := (congrArg Int32.toInt (show f_40 0 13 = v_47 from ev_47.symm)); omega) (by have zz0_16 : (f_40 0 16).toInt = v_50.toInt := (congrArg Int32.toInt (show f_40 0 16 = v_50 from ev_50.symm)); omega) (by have zz0_15 : (f_40 0 15).toInt = v_53.toInt := (congrArg Int32.toInt (show f_40 0 15 = v_53 from ev_53.symm)); have zz0_16 : (f_40 0 16).toInt = v_50.toInt := (congrArg Int32.toInt (show f_40 0 16 = v_50 from ev_50.symm)); omega) (by have zz0_13 : (f_40 0 13).toInt = v_47.toInt := (congrArg Int32.toInt (show f_40 0 13 = v_47 from ev_47.symm)); have zz0_14 : (f_40 0 14).toInt = v_22.toInt := (congrArg Int32.toInt (show f_40 0 14 = v_22 from ((hk_f_40 0 14 (by decide)).trans (by rw [ef_35, sg_up_s, sgu_n (by decide)]; exact ev_22.symm)))); omega) hI hF hP hS (lv_sub hl [3, 1, 0] rfl)
        · skip
          have c_32 : y2_10.toInt ≠ 42 := (by have z := bn_ne c; have k1 : (42 : Int32).toInt = 42 := (by decide); omega)
          refine lv_iload_n hx hb dX12_product_23 rfl (lv_at hl 2 rfl) ?_
          refine lv_bipush (v := 47) hx hb dX12_product_24 (by decide) ?_
          refine lv_icmp_eq (tgt := 35) hx hb dX12_product_26 (by decide) (fun c => ?_) (fun c => ?_)
          · skip
            have c_67 : y2_10.toInt = 47 := (by have z := Int32.toInt_inj.mpr c; have k1 : (47 : Int32).toInt = 47 := (by decide); omega)
            refine lv_aload_n hx hb dX12_product_35 rfl (lv_at hl 0 rfl) ?_
            refine lv_dup hx hb dX12_product_36 rfl ?_
            refine sg_get (ci := 12) (v := .int v_13) (C := RX12) (T := TX12) (N := 55) hx hb hts (fun w h => List.mem_cons_of_mem _ (gx_12 w h)) hown hK hP 0 (by decide) rfl rfl 13 (by decide) (hts _ (List.mem_cons_of_mem _ mw_625)) (fun _ h9 => h9) (congrArg (fun z => some (Value.int z)) (show fp_10 0 13 = v_13 from ev_13.symm)) dX12_product_37 ?_
            refine lv_iconst (v := 1) hx hb dX12_product_40 (by decide) ?_
            refine lv_iadd hx hb dX12_product_41 ?_
            refine lv_topi (fun v_69 ev_69 => ?_)
            have q_70 : v_69.toInt = v_13.toInt + 1 := by rw [ev_69]; have k1 : (1 : Int32).toInt = 1 := (by decide); exact (bn_addI (by omega) (by omega)).trans (by omega)
            refine sg_put (ci := 12) (x := v_69) (ty := .int) (C := RX12) (T := TX12) (N := 55) hx hb hts (fun w h => List.mem_cons_of_mem _ (gx_12 w h)) tyX12 tyX12_ok nmX12 hown hh hA hK hP hS 0 (by decide) rfl rfl 13 (by decide) (hts _ (List.mem_cons_of_mem _ mw_625)) (fun _ h9 => h9) rfl rfl (by decide +kernel) rfl rfl (Nat.le_of_ble_eq_true rfl) dX12_product_42 (fun f_71 H locs ef_71 hP hS => ?_)
            have hI : sgI loM hiM f_71 := by rw [ef_71]; exact sgI.put hI 0 13 (show 0 ≤ (v_69 : Int32).toInt ∧ (v_69 : Int32).toInt ≤ 120 from by omega)
            have hF : sgK WkX12_product_0 f f_71 := sgK.put hF ef_71 (by rfl)
            refine lv_aload_n hx hb dX12_product_45 rfl (lv_at hl 0 rfl) ?_
            have q_72 : (f_71 0 16).toInt = v_16.toInt := (congrArg Int32.toInt (show f_71 0 16 = v_16 from (by rw [ef_71, sg_up_s, sgu_n (by decide)]; exact ev_16.symm)))
            have q_73 : (f_71 0 15).toInt = v_19.toInt := (congrArg Int32.toInt (show f_71 0 15 = v_19 from (by rw [ef_71, sg_up_s, sgu_n (by decide)]; exact ev_19.symm)))
            have q_74 : (f_71 0 16).toInt = v_16.toInt := (congrArg Int32.toInt (show f_71 0 16 = v_16 from (by rw [ef_71, sg_up_s, sgu_n (by decide)]; exact ev_16.symm)))
            have q_75 : (f_71 0 13).toInt = v_69.toInt := (congrArg Int32.toInt (show f_71 0 13 = v_69 from (by rw [ef_71, sg_up_s, sgu_s])))
            refine sg_calli (va_runV (As := []) (rest := []) ⟨hx, hb, hml, hown, hts⟩ (kX12_one_0 l D ca za h hh f_71 L Q hI (by omega) (by omega) H.size) (cwV 0 hts (gw_V (fun _ h => List.mem_cons_of_mem _ h) mw_789 mw_790 mw_791 mw_619 mw_788) rfl rfl rfl (by decide +kernel) ⟨Nat.le_of_ble_eq_true rfl, Nat.le_of_ble_eq_true rfl⟩) (sg_preV (ci := 12) (C := RX12) (T := TX12) (N := 55) hA hK hP hS hZ 0 (by decide) rfl rfl) rfl rfl hl.1 rfl (lv_room (Nat.le_of_ble_eq_true rfl)) dX12_product_46 ⟨Nat.le_refl _, Nat.le_refl _⟩) hA hS (fun r_79 f_76 L_77 Q_78 H locs hq hP hS => ?_)
            obtain ⟨⟨hI, hk_f_76, eL9, eQ9⟩, hq, p_80, p_81, p_82⟩ := hq
            rw [eL9, eQ9] at hP; clear eL9 eQ9
            have hF : sgK WkX12_product_0 f f_76 := sgK.tr hF hk_f_76 (by decide)
            obtain ⟨v_83, ev_83⟩ : ∃ z : Int32, z = f_76 0 13 := ⟨_, rfl⟩
            have q_84 : 0 ≤ v_83.toInt ∧ v_83.toInt ≤ 120 := by rw [ev_83]; exact hI 0 13
            have q_85 : (f_76 0 13).toInt = v_83.toInt := (congrArg Int32.toInt (show f_76 0 13 = v_83 from ev_83.symm))
            obtain ⟨v_86, ev_86⟩ : ∃ z : Int32, z = f_76 0 16 := ⟨_, rfl⟩
            have q_87 : 0 ≤ v_86.toInt ∧ v_86.toInt ≤ 6 := by rw [ev_86]; exact hI 0 16
            have q_88 : (f_76 0 16).toInt = v_86.toInt := (congrArg Int32.toInt (show f_76 0 16 = v_86 from ev_86.symm))
            obtain ⟨v_89, ev_89⟩ : ∃ z : Int32, z = f_76 0 15 := ⟨_, rfl⟩
            have q_90 : (-1) ≤ v_89.toInt ∧ v_89.toInt ≤ 120 := by rw [ev_89]; exact hI 0 15
            have q_91 : (f_76 0 15).toInt = v_89.toInt := (congrArg Int32.toInt (show f_76 0 15 = v_89 from ev_89.symm))
            have q_92 : (f_76 0 16).toInt = v_86.toInt := (congrArg Int32.toInt (show f_76 0 16 = v_86 from ev_86.symm))
            refine lv_istore_n (lv' := [(3, .int r_79), (0, .ref (h 0)), (1, .int y1_10), (2, .int y2_10)]) hx hb dX12_product_49 rfl hl (by decide) rfl (fun ls hl => ?_)
            refine lv_iload_n hx hb dX12_product_50 rfl (lv_at hl 3 rfl) ?_
            refine lv_bipush (v := 42) hx hb dX12_product_51 (by decide) ?_
            refine lv_icmp_ne (tgt := 62) hx hb dX12_product_53 (by decide) (fun c => ?_) (fun c => ?_)
            · skip
              have c_93 : y2_10.toInt ≠ 42 := (by have z := bn_ne c; have k1 : (42 : Int32).toInt = 42 := (by decide); omega)
              refine lv_iload_n hx hb dX12_product_62 rfl (lv_at hl 0 rfl) ?_
              refine lv_if_ne (tgt := 70) hx hb dX12_product_63 (by decide) (fun c => ?_) (fun c => ?_)
              · skip
                have c_95 : r_79.toInt ≠ 0 := (by have z := bn_ne c; have k1 : (0 : Int32).toInt = 0 := (by decide); omega)
                refine lv_iload_n hx hb dX12_product_70 rfl (lv_at hl 3 rfl) ?_
                refine lv_bipush (v := 47) hx hb dX12_product_71 (by decide) ?_
                refine lv_icmp_ne (tgt := 82) hx hb dX12_product_73 (by decide) (fun c => ?_) (fun c => ?_)
                · skip
                  exfalso; have c_97 : y2_10.toInt ≠ 47 := (by have z := bn_ne c; have k1 : (47 : Int32).toInt = 47 := (by decide); omega); omega
                · skip
                  have c_98 : y2_10.toInt = 47 := (by have z := Int32.toInt_inj.mpr c; have k1 : (47 : Int32).toInt = 47 := (by decide); omega)
                  refine lv_iload_n hx hb dX12_product_76 rfl (lv_at hl 2 rfl) ?_
                  refine lv_iload_n hx hb dX12_product_77 rfl (lv_at hl 0 rfl) ?_
                  refine lv_idiv hx hb dX12_product_78 (bn_nz (by omega)) ?_
                  refine lv_topi (fun v_99 ev_99 => ?_)
                  refine lv_goto (tgt := 85) hx hb dX12_product_79 (by decide) ?_
                  refine lv_istore_n (lv' := [(1, .int v_99), (3, .int r_79), (0, .ref (h 0)), (2, .int y2_10)]) hx hb dX12_product_85 rfl hl (by decide) rfl (fun ls hl => ?_)
                  refine lv_aload_n hx hb dX12_product_86 rfl (lv_at hl 2 rfl) ?_
                  have q_100 : (f_76 0 13).toInt = v_83.toInt := (congrArg Int32.toInt (show f_76 0 13 = v_83 from ev_83.symm))
                  have q_101 : (f_76 0 14).toInt = v_22.toInt := (congrArg Int32.toInt (show f_76 0 14 = v_22 from ((hk_f_76 0 14 (by decide)).trans (by rw [ef_71, sg_up_s, sgu_n (by decide)]; exact ev_22.symm))))
                  refine sg_calli (va_runV (As := []) (rest := []) ⟨hx, hb, hml, hown, hts⟩ (kX12_byteAt l D ca za h hh f_76 L Q hI H.size) (cwV 0 hts (gw_V (fun _ h => List.mem_cons_of_mem _ h) mw_840 mw_841 mw_842 mw_619 mw_839) rfl rfl rfl (by decide +kernel) ⟨Nat.le_of_ble_eq_true rfl, Nat.le_of_ble_eq_true rfl⟩) (sg_preV (ci := 12) (C := RX12) (T := TX12) (N := 55) hA hK hP hS hZ 0 (by decide) rfl rfl) rfl rfl hl.1 rfl (lv_room (Nat.le_of_ble_eq_true rfl)) dX12_product_87 ⟨Nat.le_refl _, Nat.le_refl _⟩) hA hS (fun r_105 f_102 L_103 Q_104 H locs hq hP hS => ?_)
                  obtain ⟨⟨ef9, eL9, eQ9⟩, hq, p_106⟩ := hq
                  rw [ef9, eL9, eQ9] at hP; clear ef9 eL9 eQ9
                  refine lv_istore_n (lv' := [(2, .int r_105), (1, .int v_99), (3, .int r_79), (0, .ref (h 0))]) hx hb dX12_product_90 rfl hl (by decide) rfl (fun ls hl => ?_)
                  refine lv_goto (tgt := 10) hx hb dX12_product_91 (by decide) ?_
                  exact ih_10 v_99 r_105 f_76 _ _ _ (by have zz0_13 : (f_76 0 13).toInt = v_83.toInt := (congrArg Int32.toInt (show f_76 0 13 = v_83 from ev_83.symm)); omega) (by omega) (by have zz0_13 : (f_76 0 13).toInt = v_83.toInt := (congrArg Int32.toInt (show f_76 0 13 = v_83 from ev_83.symm)); omega) (by have zz0_16 : (f_76 0 16).toInt = v_86.toInt := (congrArg Int32.toInt (show f_76 0 16 = v_86 from ev_86.symm)); omega) (by have zz0_15 : (f_76 0 15).toInt = v_89.toInt := (congrArg Int32.toInt (show f_76 0 15 = v_89 from ev_89.symm)); have zz0_16 : (f_76 0 16).toInt = v_86.toInt := (congrArg Int32.toInt (show f_76 0 16 = v_86 from ev_86.symm)); omega) (by have zz0_13 : (f_76 0 13).toInt = v_83.toInt := (congrArg Int32.toInt (show f_76 0 13 = v_83 from ev_83.symm)); have zz0_14 : (f_76 0 14).toInt = v_22.toInt := (congrArg Int32.toInt (show f_76 0 14 = v_22 from ((hk_f_76 0 14 (by decide)).trans (by rw [ef_71, sg_up_s, sgu_n (by decide)]; exact ev_22.symm)))); omega) hI hF hP hS (lv_sub hl [3, 1, 0] rfl)
              · skip
                have c_96 : r_79.toInt = 0 := (by have z := Int32.toInt_inj.mpr c; have k1 : (0 : Int32).toInt = 0 := (by decide); omega)
                refine lv_iconst (v := 0) hx hb dX12_product_66 (by decide) ?_
                refine lv_goto (tgt := 85) hx hb dX12_product_67 (by decide) ?_
                refine lv_istore_n (lv' := [(1, .int 0), (3, .int r_79), (0, .ref (h 0)), (2, .int y2_10)]) hx hb dX12_product_85 rfl hl (by decide) rfl (fun ls hl => ?_)
                refine lv_aload_n hx hb dX12_product_86 rfl (lv_at hl 2 rfl) ?_
                have q_107 : (f_76 0 13).toInt = v_83.toInt := (congrArg Int32.toInt (show f_76 0 13 = v_83 from ev_83.symm))
                have q_108 : (f_76 0 14).toInt = v_22.toInt := (congrArg Int32.toInt (show f_76 0 14 = v_22 from ((hk_f_76 0 14 (by decide)).trans (by rw [ef_71, sg_up_s, sgu_n (by decide)]; exact ev_22.symm))))
                refine sg_calli (va_runV (As := []) (rest := []) ⟨hx, hb, hml, hown, hts⟩ (kX12_byteAt l D ca za h hh f_76 L Q hI H.size) (cwV 0 hts (gw_V (fun _ h => List.mem_cons_of_mem _ h) mw_840 mw_841 mw_842 mw_619 mw_839) rfl rfl rfl (by decide +kernel) ⟨Nat.le_of_ble_eq_true rfl, Nat.le_of_ble_eq_true rfl⟩) (sg_preV (ci := 12) (C := RX12) (T := TX12) (N := 55) hA hK hP hS hZ 0 (by decide) rfl rfl) rfl rfl hl.1 rfl (lv_room (Nat.le_of_ble_eq_true rfl)) dX12_product_87 ⟨Nat.le_refl _, Nat.le_refl _⟩) hA hS (fun r_112 f_109 L_110 Q_111 H locs hq hP hS => ?_)
                obtain ⟨⟨ef9, eL9, eQ9⟩, hq, p_113⟩ := hq
                rw [ef9, eL9, eQ9] at hP; clear ef9 eL9 eQ9
                refine lv_istore_n (lv' := [(2, .int r_112), (1, .int 0), (3, .int r_79), (0, .ref (h 0))]) hx hb dX12_product_90 rfl hl (by decide) rfl (fun ls hl => ?_)
                refine lv_goto (tgt := 10) hx hb dX12_product_91 (by decide) ?_
                exact ih_10 0 r_112 f_76 _ _ _ (by have kc0 : (0 : Int32).toInt = 0 := (by decide); have zz0_13 : (f_76 0 13).toInt = v_83.toInt := (congrArg Int32.toInt (show f_76 0 13 = v_83 from ev_83.symm)); omega) (by omega) (by have kc0 : (0 : Int32).toInt = 0 := (by decide); have zz0_13 : (f_76 0 13).toInt = v_83.toInt := (congrArg Int32.toInt (show f_76 0 13 = v_83 from ev_83.symm)); omega) (by have kc0 : (0 : Int32).toInt = 0 := (by decide); have zz0_16 : (f_76 0 16).toInt = v_86.toInt := (congrArg Int32.toInt (show f_76 0 16 = v_86 from ev_86.symm)); omega) (by have kc0 : (0 : Int32).toInt = 0 := (by decide); have zz0_15 : (f_76 0 15).toInt = v_89.toInt := (congrArg Int32.toInt (show f_76 0 15 = v_89 from ev_89.symm)); have zz0_16 : (f_76 0 16).toInt = v_86.toInt := (congrArg Int32.toInt (show f_76 0 16 = v_86 from ev_86.symm)); omega) (by have kc0 : (0 : Int32).toInt = 0 := (by decide); have zz0_13 : (f_76 0 13).toInt = v_83.toInt := (congrArg Int32.toInt (show f_76 0 13 = v_83 from ev_83.symm)); have zz0_14 : (f_76 0 14).toInt = v_22.toInt := (congrArg Int32.toInt (show f_76 0 14 = v_22 from ((hk_f_76 0 14 (by decide)).trans (by rw [ef_71, sg_up_s, sgu_n (by decide)]; exact ev_22.symm)))); omega) hI hF hP hS (lv_sub hl [3, 1, 0] rfl)
            · skip
              exfalso; have c_94 : y2_10.toInt = 42 := (by have z := Int32.toInt_inj.mpr c; have k1 : (42 : Int32).toInt = 42 := (by decide); omega); omega
          · skip
            have c_68 : y2_10.toInt ≠ 47 := (by have z := bn_ne c; have k1 : (47 : Int32).toInt = 47 := (by decide); omega)
            refine lv_iload_n hx hb dX12_product_29 rfl (lv_at hl 2 rfl) ?_
            refine lv_bipush (v := 37) hx hb dX12_product_30 (by decide) ?_
            refine lv_icmp_ne (tgt := 94) hx hb dX12_product_32 (by decide) (fun c => ?_) (fun c => ?_)
            · skip
              have c_114 : y2_10.toInt ≠ 37 := (by have z := bn_ne c; have k1 : (37 : Int32).toInt = 37 := (by decide); omega)
              refine lv_iload_n hx hb dX12_product_94 rfl (lv_at hl 1 rfl) ?_
              have q_116 : (fp_10 0 13).toInt = v_13.toInt := (congrArg Int32.toInt (show fp_10 0 13 = v_13 from ev_13.symm))
              have q_117 : (fp_10 0 16).toInt = v_16.toInt := (congrArg Int32.toInt (show fp_10 0 16 = v_16 from ev_16.symm))
              have q_118 : (fp_10 0 15).toInt = v_19.toInt := (congrArg Int32.toInt (show fp_10 0 15 = v_19 from ev_19.symm))
              have q_119 : (fp_10 0 16).toInt = v_16.toInt := (congrArg Int32.toInt (show fp_10 0 16 = v_16 from ev_16.symm))
              exact hret _ _ _ _ (y1_10) fp_10 L Q dX12_product_95 hP hS ⟨⟨hI, hF, rfl, rfl⟩, trivial, (by omega), (by omega), (by omega)⟩
            · skip
              have c_115 : y2_10.toInt = 37 := (by have z := Int32.toInt_inj.mpr c; have k1 : (37 : Int32).toInt = 37 := (by decide); omega)
              refine lv_aload_n hx hb dX12_product_35 rfl (lv_at hl 0 rfl) ?_
              refine lv_dup hx hb dX12_product_36 rfl ?_
              refine sg_get (ci := 12) (v := .int v_13) (C := RX12) (T := TX12) (N := 55) hx hb hts (fun w h => List.mem_cons_of_mem _ (gx_12 w h)) hown hK hP 0 (by decide) rfl rfl 13 (by decide) (hts _ (List.mem_cons_of_mem _ mw_625)) (fun _ h9 => h9) (congrArg (fun z => some (Value.int z)) (show fp_10 0 13 = v_13 from ev_13.symm)) dX12_product_37 ?_
              refine lv_iconst (v := 1) hx hb dX12_product_40 (by decide) ?_
              refine lv_iadd hx hb dX12_product_41 ?_
              refine lv_topi (fun v_120 ev_120 => ?_)
              have q_121 : v_120.toInt = v_13.toInt + 1 := by rw [ev_120]; have k1 : (1 : Int32).toInt = 1 := (by decide); exact (bn_addI (by omega) (by omega)).trans (by omega)
              refine sg_put (ci := 12) (x := v_120) (ty := .int) (C := RX12) (T := TX12) (N := 55) hx hb hts (fun w h => List.mem_cons_of_mem _ (gx_12 w h)) tyX12 tyX12_ok nmX12 hown hh hA hK hP hS 0 (by decide) rfl rfl 13 (by decide) (hts _ (List.mem_cons_of_mem _ mw_625)) (fun _ h9 => h9) rfl rfl (by decide +kernel) rfl rfl (Nat.le_of_ble_eq_true rfl) dX12_product_42 (fun f_122 H locs ef_122 hP hS => ?_)
              have hI : sgI loM hiM f_122 := by rw [ef_122]; exact sgI.put hI 0 13 (show 0 ≤ (v_120 : Int32).toInt ∧ (v_120 : Int32).toInt ≤ 120 from by omega)
              have hF : sgK WkX12_product_0 f f_122 := sgK.put hF ef_122 (by rfl)
              refine lv_aload_n hx hb dX12_product_45 rfl (lv_at hl 0 rfl) ?_
              have q_123 : (f_122 0 16).toInt = v_16.toInt := (congrArg Int32.toInt (show f_122 0 16 = v_16 from (by rw [ef_122, sg_up_s, sgu_n (by decide)]; exact ev_16.symm)))
              have q_124 : (f_122 0 15).toInt = v_19.toInt := (congrArg Int32.toInt (show f_122 0 15 = v_19 from (by rw [ef_122, sg_up_s, sgu_n (by decide)]; exact ev_19.symm)))
              have q_125 : (f_122 0 16).toInt = v_16.toInt := (congrArg Int32.toInt (show f_122 0 16 = v_16 from (by rw [ef_122, sg_up_s, sgu_n (by decide)]; exact ev_16.symm)))
              have q_126 : (f_122 0 13).toInt = v_120.toInt := (congrArg Int32.toInt (show f_122 0 13 = v_120 from (by rw [ef_122, sg_up_s, sgu_s])))
              refine sg_calli (va_runV (As := []) (rest := []) ⟨hx, hb, hml, hown, hts⟩ (kX12_one_0 l D ca za h hh f_122 L Q hI (by omega) (by omega) H.size) (cwV 0 hts (gw_V (fun _ h => List.mem_cons_of_mem _ h) mw_789 mw_790 mw_791 mw_619 mw_788) rfl rfl rfl (by decide +kernel) ⟨Nat.le_of_ble_eq_true rfl, Nat.le_of_ble_eq_true rfl⟩) (sg_preV (ci := 12) (C := RX12) (T := TX12) (N := 55) hA hK hP hS hZ 0 (by decide) rfl rfl) rfl rfl hl.1 rfl (lv_room (Nat.le_of_ble_eq_true rfl)) dX12_product_46 ⟨Nat.le_refl _, Nat.le_refl _⟩) hA hS (fun r_130 f_127 L_128 Q_129 H locs hq hP hS => ?_)
              obtain ⟨⟨hI, hk_f_127, eL9, eQ9⟩, hq, p_131, p_132, p_133⟩ := hq
              rw [eL9, eQ9] at hP; clear eL9 eQ9
              have hF : sgK WkX12_product_0 f f_127 := sgK.tr hF hk_f_127 (by decide)
              obtain ⟨v_134, ev_134⟩ : ∃ z : Int32, z = f_127 0 13 := ⟨_, rfl⟩
              have q_135 : 0 ≤ v_134.toInt ∧ v_134.toInt ≤ 120 := by rw [ev_134]; exact hI 0 13
              have q_136 : (f_127 0 13).toInt = v_134.toInt := (congrArg Int32.toInt (show f_127 0 13 = v_134 from ev_134.symm))
              obtain ⟨v_137, ev_137⟩ : ∃ z : Int32, z = f_127 0 16 := ⟨_, rfl⟩
              have q_138 : 0 ≤ v_137.toInt ∧ v_137.toInt ≤ 6 := by rw [ev_137]; exact hI 0 16
              have q_139 : (f_127 0 16).toInt = v_137.toInt := (congrArg Int32.toInt (show f_127 0 16 = v_137 from ev_137.symm))
              obtain ⟨v_140, ev_140⟩ : ∃ z : Int32, z = f_127 0 15 := ⟨_, rfl⟩
              have q_141 : (-1) ≤ v_140.toInt ∧ v_140.toInt ≤ 120 := by rw [ev_140]; exact hI 0 15
              have q_142 : (f_127 0 15).toInt = v_140.toInt := (congrArg Int32.toInt (show f_127 0 15 = v_140 from ev_140.symm))
              have q_143 : (f_127 0 16).toInt = v_137.toInt := (congrArg Int32.toInt (show f_127 0 16 = v_137 from ev_137.symm))
              refine lv_istore_n (lv' := [(3, .int r_130), (0, .ref (h 0)), (1, .int y1_10), (2, .int y2_10)]) hx hb dX12_product_49 rfl hl (by decide) rfl (fun ls hl => ?_)
              refine lv_iload_n hx hb dX12_product_50 rfl (lv_at hl 3 rfl) ?_
              refine lv_bipush (v := 42) hx hb dX12_product_51 (by decide) ?_
              refine lv_icmp_ne (tgt := 62) hx hb dX12_product_53 (by decide) (fun c => ?_) (fun c => ?_)
              · skip
                have c_144 : y2_10.toInt ≠ 42 := (by have z := bn_ne c; have k1 : (42 : Int32).toInt = 42 := (by decide); omega)
                refine lv_iload_n hx hb dX12_product_62 rfl (lv_at hl 0 rfl) ?_
                refine lv_if_ne (tgt := 70) hx hb dX12_product_63 (by decide) (fun c => ?_) (fun c => ?_)
                · skip
                  have c_146 : r_130.toInt ≠ 0 := (by have z := bn_ne c; have k1 : (0 : Int32).toInt = 0 := (by decide); omega)
                  refine lv_iload_n hx hb dX12_product_70 rfl (lv_at hl 3 rfl) ?_
                  refine lv_bipush (v := 47) hx hb dX12_product_71 (by decide) ?_
                  refine lv_icmp_ne (tgt := 82) hx hb dX12_product_73 (by decide) (fun c => ?_) (fun c => ?_)
                  · skip
                    have c_148 : y2_10.toInt ≠ 47 := (by have z := bn_ne c; have k1 : (47 : Int32).toInt = 47 := (by decide); omega)
                    refine lv_iload_n hx hb dX12_product_82 rfl (lv_at hl 2 rfl) ?_
                    refine lv_iload_n hx hb dX12_product_83 rfl (lv_at hl 0 rfl) ?_
                    refine lv_irem hx hb dX12_product_84 (bn_nz (by omega)) ?_
                    refine lv_topi (fun v_150 ev_150 => ?_)
                    refine lv_istore_n (lv' := [(1, .int v_150), (3, .int r_130), (0, .ref (h 0)), (2, .int y2_10)]) hx hb dX12_product_85 rfl hl (by decide) rfl (fun ls hl => ?_)
                    refine lv_aload_n hx hb dX12_product_86 rfl (lv_at hl 2 rfl) ?_
                    have q_151 : (f_127 0 13).toInt = v_134.toInt := (congrArg Int32.toInt (show f_127 0 13 = v_134 from ev_134.symm))
                    have q_152 : (f_127 0 14).toInt = v_22.toInt := (congrArg Int32.toInt (show f_127 0 14 = v_22 from ((hk_f_127 0 14 (by decide)).trans (by rw [ef_122, sg_up_s, sgu_n (by decide)]; exact ev_22.symm))))
                    refine sg_calli (va_runV (As := []) (rest := []) ⟨hx, hb, hml, hown, hts⟩ (kX12_byteAt l D ca za h hh f_127 L Q hI H.size) (cwV 0 hts (gw_V (fun _ h => List.mem_cons_of_mem _ h) mw_840 mw_841 mw_842 mw_619 mw_839) rfl rfl rfl (by decide +kernel) ⟨Nat.le_of_ble_eq_true rfl, Nat.le_of_ble_eq_true rfl⟩) (sg_preV (ci := 12) (C := RX12) (T := TX12) (N := 55) hA hK hP hS hZ 0 (by decide) rfl rfl) rfl rfl hl.1 rfl (lv_room (Nat.le_of_ble_eq_true rfl)) dX12_product_87 ⟨Nat.le_refl _, Nat.le_refl _⟩) hA hS (fun r_156 f_153 L_154 Q_155 H locs hq hP hS => ?_)
                    obtain ⟨⟨ef9, eL9, eQ9⟩, hq, p_157⟩ := hq
                    rw [ef9, eL9, eQ9] at hP; clear ef9 eL9 eQ9
                    refine lv_istore_n (lv' := [(2, .int r_156), (1, .int v_150), (3, .int r_130), (0, .ref (h 0))]) hx hb dX12_product_90 rfl hl (by decide) rfl (fun ls hl => ?_)
                    refine lv_goto (tgt := 10) hx hb dX12_product_91 (by decide) ?_
                    exact ih_10 v_150 r_156 f_127 _ _ _ (by have zz0_13 : (f_127 0 13).toInt = v_134.toInt := (congrArg Int32.toInt (show f_127 0 13 = v_134 from ev_134.symm)); omega) (by omega) (by have zz0_13 : (f_127 0 13).toInt = v_134.toInt := (congrArg Int32.toInt (show f_127 0 13 = v_134 from ev_134.symm)); omega) (by have zz0_16 : (f_127 0 16).toInt = v_137.toInt := (congrArg Int32.toInt (show f_127 0 16 = v_137 from ev_137.symm)); omega) (by have zz0_15 : (f_127 0 15).toInt = v_140.toInt := (congrArg Int32.toInt (show f_127 0 15 = v_140 from ev_140.symm)); have zz0_16 : (f_127 0 16).toInt = v_137.toInt := (congrArg Int32.toInt (show f_127 0 16 = v_137 from ev_137.symm)); omega) (by have zz0_13 : (f_127 0 13).toInt = v_134.toInt := (congrArg Int32.toInt (show f_127 0 13 = v_134 from ev_134.symm)); have zz0_14 : (f_127 0 14).toInt = v_22.toInt := (congrArg Int32.toInt (show f_127 0 14 = v_22 from ((hk_f_127 0 14 (by decide)).trans (by rw [ef_122, sg_up_s, sgu_n (by decide)]; exact ev_22.symm)))); omega) hI hF hP hS (lv_sub hl [3, 1, 0] rfl)
                  · skip
                    exfalso; have c_149 : y2_10.toInt = 47 := (by have z := Int32.toInt_inj.mpr c; have k1 : (47 : Int32).toInt = 47 := (by decide); omega); omega
                · skip
                  have c_147 : r_130.toInt = 0 := (by have z := Int32.toInt_inj.mpr c; have k1 : (0 : Int32).toInt = 0 := (by decide); omega)
                  refine lv_iconst (v := 0) hx hb dX12_product_66 (by decide) ?_
                  refine lv_goto (tgt := 85) hx hb dX12_product_67 (by decide) ?_
                  refine lv_istore_n (lv' := [(1, .int 0), (3, .int r_130), (0, .ref (h 0)), (2, .int y2_10)]) hx hb dX12_product_85 rfl hl (by decide) rfl (fun ls hl => ?_)
                  refine lv_aload_n hx hb dX12_product_86 rfl (lv_at hl 2 rfl) ?_
                  have q_158 : (f_127 0 13).toInt = v_134.toInt := (congrArg Int32.toInt (show f_127 0 13 = v_134 from ev_134.symm))
                  have q_159 : (f_127 0 14).toInt = v_22.toInt := (congrArg Int32.toInt (show f_127 0 14 = v_22 from ((hk_f_127 0 14 (by decide)).trans (by rw [ef_122, sg_up_s, sgu_n (by decide)]; exact ev_22.symm))))
                  refine sg_calli (va_runV (As := []) (rest := []) ⟨hx, hb, hml, hown, hts⟩ (kX12_byteAt l D ca za h hh f_127 L Q hI H.size) (cwV 0 hts (gw_V (fun _ h => List.mem_cons_of_mem _ h) mw_840 mw_841 mw_842 mw_619 mw_839) rfl rfl rfl (by decide +kernel) ⟨Nat.le_of_ble_eq_true rfl, Nat.le_of_ble_eq_true rfl⟩) (sg_preV (ci := 12) (C := RX12) (T := TX12) (N := 55) hA hK hP hS hZ 0 (by decide) rfl rfl) rfl rfl hl.1 rfl (lv_room (Nat.le_of_ble_eq_true rfl)) dX12_product_87 ⟨Nat.le_refl _, Nat.le_refl _⟩) hA hS (fun r_163 f_160 L_161 Q_162 H locs hq hP hS => ?_)
                  obtain ⟨⟨ef9, eL9, eQ9⟩, hq, p_164⟩ := hq
                  rw [ef9, eL9, eQ9] at hP; clear ef9 eL9 eQ9
                  refine lv_istore_n (lv' := [(2, .int r_163), (1, .int 0), (3, .int r_130), (0, .ref (h 0))]) hx hb dX12_product_90 rfl hl (by decide) rfl (fun ls hl => ?_)
                  refine lv_goto (tgt := 10) hx hb dX12_product_91 (by decide) ?_
                  exact ih_10 0 r_163 f_127 _ _ _ (by have kc0 : (0 : Int32).toInt = 0 := (by decide); have zz0_13 : (f_127 0 13).toInt = v_134.toInt := (congrArg Int32.toInt (show f_127 0 13 = v_134 from ev_134.symm)); omega) (by omega) (by have kc0 : (0 : Int32).toInt = 0 := (by decide); have zz0_13 : (f_127 0 13).toInt = v_134.toInt := (congrArg Int32.toInt (show f_127 0 13 = v_134 from ev_134.symm)); omega) (by have kc0 : (0 : Int32).toInt = 0 := (by decide); have zz0_16 : (f_127 0 16).toInt = v_137.toInt := (congrArg Int32.toInt (show f_127 0 16 = v_137 from ev_137.symm)); omega) (by have kc0 : (0 : Int32).toInt = 0 := (by decide); have zz0_15 : (f_127 0 15).toInt = v_140.toInt := (congrArg Int32.toInt (show f_127 0 15 = v_140 from ev_140.symm)); have zz0_16 : (f_127 0 16).toInt = v_137.toInt := (congrArg Int32.toInt (show f_127 0 16 = v_137 from ev_137.symm)); omega) (by have kc0 : (0 : Int32).toInt = 0 := (by decide); have zz0_13 : (f_127 0 13).toInt = v_134.toInt := (congrArg Int32.toInt (show f_127 0 13 = v_134 from ev_134.symm)); have zz0_14 : (f_127 0 14).toInt = v_22.toInt := (congrArg Int32.toInt (show f_127 0 14 = v_22 from ((hk_f_127 0 14 (by decide)).trans (by rw [ef_122, sg_up_s, sgu_n (by decide)]; exact ev_22.symm)))); omega) hI hF hP hS (lv_sub hl [3, 1, 0] rfl)
              · skip
                exfalso; have c_145 : y2_10.toInt = 42 := (by have z := Int32.toInt_inj.mpr c; have k1 : (42 : Int32).toInt = 42 := (by decide); omega); omega
  refine lv_aload_n hx hb dX12_product_0 rfl (lv_at hl 0 rfl) ?_
  have q_165 : (f 0 16).toInt = v_1.toInt := (congrArg Int32.toInt (show f 0 16 = v_1 from ev_1.symm))
  have q_166 : (f 0 15).toInt = v_3.toInt := (congrArg Int32.toInt (show f 0 15 = v_3 from ev_3.symm))
  have q_167 : (f 0 16).toInt = v_1.toInt := (congrArg Int32.toInt (show f 0 16 = v_1 from ev_1.symm))
  have q_168 : (f 0 13).toInt = v_5.toInt := (congrArg Int32.toInt (show f 0 13 = v_5 from ev_5.symm))
  refine sg_calli (va_runV (As := []) (rest := []) ⟨hx, hb, hml, hown, hts⟩ (kX12_one_0 l D ca za h hh f L Q hI (by omega) (by omega) H.size) (cwV 0 hts (gw_V (fun _ h => List.mem_cons_of_mem _ h) mw_789 mw_790 mw_791 mw_619 mw_788) rfl rfl rfl (by decide +kernel) ⟨Nat.le_of_ble_eq_true rfl, Nat.le_of_ble_eq_true rfl⟩) (sg_preV (ci := 12) (C := RX12) (T := TX12) (N := 55) hA hK hP hS hZ 0 (by decide) rfl rfl) rfl rfl hl.1 rfl (lv_room (Nat.le_of_ble_eq_true rfl)) dX12_product_1 ⟨Nat.le_refl _, Nat.le_refl _⟩) hA hS (fun r_172 f_169 L_170 Q_171 H locs hq hP hS => ?_)
  obtain ⟨⟨hI, hk_f_169, eL9, eQ9⟩, hq, p_173, p_174, p_175⟩ := hq
  rw [eL9, eQ9] at hP; clear eL9 eQ9
  have hF : sgK WkX12_product_0 f f_169 := sgK.tr hF hk_f_169 (by decide)
  obtain ⟨v_176, ev_176⟩ : ∃ z : Int32, z = f_169 0 13 := ⟨_, rfl⟩
  have q_177 : 0 ≤ v_176.toInt ∧ v_176.toInt ≤ 120 := by rw [ev_176]; exact hI 0 13
  have q_178 : (f_169 0 13).toInt = v_176.toInt := (congrArg Int32.toInt (show f_169 0 13 = v_176 from ev_176.symm))
  obtain ⟨v_179, ev_179⟩ : ∃ z : Int32, z = f_169 0 16 := ⟨_, rfl⟩
  have q_180 : 0 ≤ v_179.toInt ∧ v_179.toInt ≤ 6 := by rw [ev_179]; exact hI 0 16
  have q_181 : (f_169 0 16).toInt = v_179.toInt := (congrArg Int32.toInt (show f_169 0 16 = v_179 from ev_179.symm))
  obtain ⟨v_182, ev_182⟩ : ∃ z : Int32, z = f_169 0 15 := ⟨_, rfl⟩
  have q_183 : (-1) ≤ v_182.toInt ∧ v_182.toInt ≤ 120 := by rw [ev_182]; exact hI 0 15
  have q_184 : (f_169 0 15).toInt = v_182.toInt := (congrArg Int32.toInt (show f_169 0 15 = v_182 from ev_182.symm))
  have q_185 : (f_169 0 16).toInt = v_179.toInt := (congrArg Int32.toInt (show f_169 0 16 = v_179 from ev_179.symm))
  refine lv_istore_n (lv' := [(1, .int r_172), (0, .ref (h 0))]) hx hb dX12_product_4 rfl hl (by decide) rfl (fun ls hl => ?_)
  refine lv_aload_n hx hb dX12_product_5 rfl (lv_at hl 1 rfl) ?_
  have q_186 : (f_169 0 13).toInt = v_176.toInt := (congrArg Int32.toInt (show f_169 0 13 = v_176 from ev_176.symm))
  have q_187 : (f_169 0 14).toInt = v_7.toInt := (congrArg Int32.toInt (show f_169 0 14 = v_7 from ((hk_f_169 0 14 (by decide)).trans ev_7.symm)))
  refine sg_calli (va_runV (As := []) (rest := []) ⟨hx, hb, hml, hown, hts⟩ (kX12_byteAt l D ca za h hh f_169 L Q hI H.size) (cwV 0 hts (gw_V (fun _ h => List.mem_cons_of_mem _ h) mw_840 mw_841 mw_842 mw_619 mw_839) rfl rfl rfl (by decide +kernel) ⟨Nat.le_of_ble_eq_true rfl, Nat.le_of_ble_eq_true rfl⟩) (sg_preV (ci := 12) (C := RX12) (T := TX12) (N := 55) hA hK hP hS hZ 0 (by decide) rfl rfl) rfl rfl hl.1 rfl (lv_room (Nat.le_of_ble_eq_true rfl)) dX12_product_6 ⟨Nat.le_refl _, Nat.le_refl _⟩) hA hS (fun r_191 f_188 L_189 Q_190 H locs hq hP hS => ?_)
  obtain ⟨⟨ef9, eL9, eQ9⟩, hq, p_192⟩ := hq
  rw [ef9, eL9, eQ9] at hP; clear ef9 eL9 eQ9
  refine lv_istore_n (lv' := [(2, .int r_191), (1, .int r_172), (0, .ref (h 0))]) hx hb dX12_product_9 rfl hl (by decide) rfl (fun ls hl => ?_)
  exact loop_10 121 r_172 r_191 f_169 _ _ _ (by have zz0_13 : (f_169 0 13).toInt = v_176.toInt := (congrArg Int32.toInt (show f_169 0 13 = v_176 from ev_176.symm)); omega) (by omega) (by have zz0_13 : (f_169 0 13).toInt = v_176.toInt := (congrArg Int32.toInt (show f_169 0 13 = v_176 from ev_176.symm)); omega) (by have zz0_16 : (f_169 0 16).toInt = v_179.toInt := (congrArg Int32.toInt (show f_169 0 16 = v_179 from ev_179.symm)); omega) (by have zz0_15 : (f_169 0 15).toInt = v_182.toInt := (congrArg Int32.toInt (show f_169 0 15 = v_182 from ev_182.symm)); have zz0_16 : (f_169 0 16).toInt = v_179.toInt := (congrArg Int32.toInt (show f_169 0 16 = v_179 from ev_179.symm)); omega) (by have zz0_13 : (f_169 0 13).toInt = v_176.toInt := (congrArg Int32.toInt (show f_169 0 13 = v_176 from ev_176.symm)); have zz0_14 : (f_169 0 14).toInt = v_7.toInt := (congrArg Int32.toInt (show f_169 0 14 = v_7 from ((hk_f_169 0 14 (by decide)).trans ev_7.symm))); omega) hI hF hP hS (lv_sub hl [2, 1, 0] rfl)

abbrev WkX12_sums_0 : List (Nat × Nat × Option Nat) := [(0, 0, some 13), (0, 0, some 15), (0, 0, some 16)]
set_option maxHeartbeats 4000000 in
set_option maxRecDepth 100000 in
theorem kX12_sums_0 (l : Launch) (D : va_G) (ca : Nat → ClassId) (za h : Nat → Nat) (hh : sgH 26 h) (f : sg_F) (L : sg_L) (Q : sg_Q) (hI : sgI loM hiM f) (p0 : 0 ≤ (f 0 16).toInt) (p1 : 0 ≤ (f 0 15).toInt ∨ (f 0 16).toInt = 0) (sz : Nat) : Met l yX12_sums gwX12_sums { frames := 39, cells := 0, slots := 0, locals := 889 } (sgP D vwCl (tyX ca) 26 h (eM ca h) zcM za f L Q sz [.ref (h 0)]) (sgQi D vwCl 26 h (eM ca h) sz (fun r f1 L1 Q1 => ((sgI loM hiM f1 ∧ sgK WkX12_sums_0 f f1 ∧ L1 = L ∧ Q1 = Q) ∧ True ∧ ((f 0 13).toInt ≤ (f1 0 13).toInt) ∧ (0 ≤ (f1 0 16).toInt) ∧ (0 ≤ (f1 0 15).toInt ∨ (f1 0 16).toInt = 0)))) 0 0 (sgA 26 h sz) := by
  refine sg_ofWi (cc := cX12_sums) (maxL := 4) RX12 (by decide) rfl rfl (Nat.le_of_ble_eq_true rfl) ?_
  intro p e s m below meth cd Qz ls hx hb hml hown hts hK hZ hP hS hl hret
  have hA := sgY.self (n := 26) (h := h) (sz := s.heap.size)
  have hl : lv_has ls 4 [(0, .ref (h 0))] := hl
  obtain ⟨H, hH⟩ : ∃ z : Heap, z = s.heap := ⟨_, rfl⟩
  obtain ⟨locs, hlo⟩ : ∃ z : List Loc, z = [] := ⟨_, rfl⟩
  have hP : va_P D vwCl (sgw 26 h (eM ca h) f L Q) H := by rw [hH]; exact hP
  have hS : va_S (sgA 26 h s.heap.size) s.heap H locs := by rw [hH, hlo]; exact hS
  suffices hgo : W p l e ({ frames := 39, cells := 0, slots := 0, locals := 889 }) s m ([.ref (h 0)] : List Value).toArray below meth cd H locs 0 0 Qz (F0 m 0 ls []) by rw [hH, hlo] at hgo; exact hgo
  clear hH hlo
  obtain ⟨v_1, ev_1⟩ : ∃ z : Int32, z = f 0 16 := ⟨_, rfl⟩
  have q_2 : 0 ≤ v_1.toInt ∧ v_1.toInt ≤ 6 := by rw [ev_1]; exact hI 0 16
  obtain ⟨v_3, ev_3⟩ : ∃ z : Int32, z = f 0 15 := ⟨_, rfl⟩
  have q_4 : (-1) ≤ v_3.toInt ∧ v_3.toInt ≤ 120 := by rw [ev_3]; exact hI 0 15
  obtain ⟨v_5, ev_5⟩ : ∃ z : Int32, z = f 0 13 := ⟨_, rfl⟩
  have q_6 : 0 ≤ v_5.toInt ∧ v_5.toInt ≤ 120 := by rw [ev_5]; exact hI 0 13
  have o_7 : (f 0 16).toInt = v_1.toInt := (congrArg Int32.toInt (show f 0 16 = v_1 from ev_1.symm))
  have o_8 : (f 0 15).toInt = v_3.toInt := (congrArg Int32.toInt (show f 0 15 = v_3 from ev_3.symm))
  have o_9 : (f 0 13).toInt = v_5.toInt := (congrArg Int32.toInt (show f 0 13 = v_5 from ev_5.symm))
  have hF : sgK WkX12_sums_0 f f := sgK.rf
  have loop_5 : ∀ (n_5 : Nat) (y1_5 : Int32) (fp_5 : sg_F) (H : Heap) (locs : List Loc) (ls : Array Slot), 120 - (fp_5 0 13).toInt < (n_5 : Int) → (f 0 13).toInt ≤ (fp_5 0 13).toInt → 0 ≤ (fp_5 0 16).toInt → 0 ≤ (fp_5 0 15).toInt ∨ (fp_5 0 16).toInt = 0 → sgI loM hiM fp_5 → sgK WkX12_sums_0 f fp_5 → va_P D vwCl (sgw 26 h (eM ca h) fp_5 L Q) H → va_S (sgA 26 h s.heap.size) s.heap H locs → lv_has ls 4 [(0, .ref (h 0)), (1, .int y1_5)] → W p l e ({ frames := 39, cells := 0, slots := 0, locals := 889 }) s m ([.ref (h 0)] : List Value).toArray below meth cd H locs 0 0 Qz (F0 m 5 ls []) := by
    intro n_5
    induction n_5 with
    | zero => intro y1_5 fp_5 H locs ls hm_5 hg0_5 hg1_5 hg2_5 hI hF hP hS hl; have zb := (show 0 ≤ (fp_5 0 13).toInt ∧ (fp_5 0 13).toInt ≤ 120 from hI 0 13); exact absurd hm_5 (by omega)
    | succ n_5 ih_5 =>
      intro y1_5 fp_5 H locs ls hm_5 hg0_5 hg1_5 hg2_5 hI hF hP hS hl
      obtain ⟨v_10, ev_10⟩ : ∃ z : Int32, z = fp_5 0 13 := ⟨_, rfl⟩
      have q_11 : 0 ≤ v_10.toInt ∧ v_10.toInt ≤ 120 := by rw [ev_10]; exact hI 0 13
      have q_12 : (fp_5 0 13).toInt = v_10.toInt := by rw [ev_10]
      obtain ⟨v_13, ev_13⟩ : ∃ z : Int32, z = fp_5 0 16 := ⟨_, rfl⟩
      have q_14 : 0 ≤ v_13.toInt ∧ v_13.toInt ≤ 6 := by rw [ev_13]; exact hI 0 16
      have q_15 : (fp_5 0 16).toInt = v_13.toInt := by rw [ev_13]
      obtain ⟨v_16, ev_16⟩ : ∃ z : Int32, z = fp_5 0 15 := ⟨_, rfl⟩
      have q_17 : (-1) ≤ v_16.toInt ∧ v_16.toInt ≤ 120 := by rw [ev_16]; exact hI 0 15
      have q_18 : (fp_5 0 15).toInt = v_16.toInt := by rw [ev_16]
      refine lv_aload_n hx hb dX12_sums_5 rfl (lv_at hl 0 rfl) ?_
      refine sg_get (ci := 12) (v := .int v_16) (C := RX12) (T := TX12) (N := 55) hx hb hts (fun w h => List.mem_cons_of_mem _ (gx_12 w h)) hown hK hP 0 (by decide) rfl rfl 15 (by decide) (hts _ (List.mem_cons_of_mem _ mw_627)) (fun _ h9 => h9) (congrArg (fun z => some (Value.int z)) (show fp_5 0 15 = v_16 from ev_16.symm)) dX12_sums_6 ?_
      refine lv_if_ge (tgt := 77) hx hb dX12_sums_9 (by decide) (fun c => ?_) (fun c => ?_)
      · skip
        have c_19 : 0 ≤ v_16.toInt := (by have z := bn_le c; have k1 : (0 : Int32).toInt = 0 := (by decide); omega)
        refine lv_iload_n hx hb dX12_sums_77 rfl (lv_at hl 1 rfl) ?_
        have q_21 : (fp_5 0 13).toInt = v_10.toInt := (congrArg Int32.toInt (show fp_5 0 13 = v_10 from ev_10.symm))
        have q_22 : (fp_5 0 16).toInt = v_13.toInt := (congrArg Int32.toInt (show fp_5 0 16 = v_13 from ev_13.symm))
        have q_23 : (fp_5 0 15).toInt = v_16.toInt := (congrArg Int32.toInt (show fp_5 0 15 = v_16 from ev_16.symm))
        have q_24 : (fp_5 0 16).toInt = v_13.toInt := (congrArg Int32.toInt (show fp_5 0 16 = v_13 from ev_13.symm))
        exact hret _ _ _ _ (y1_5) fp_5 L Q dX12_sums_78 hP hS ⟨⟨hI, hF, rfl, rfl⟩, trivial, (by omega), (by omega), (by omega)⟩
      · skip
        have c_20 : v_16.toInt < 0 := (by have z := bn_nle c; have k1 : (0 : Int32).toInt = 0 := (by decide); omega)
        refine lv_aload_n hx hb dX12_sums_12 rfl (lv_at hl 0 rfl) ?_
        have q_25 : (fp_5 0 13).toInt = v_10.toInt := (congrArg Int32.toInt (show fp_5 0 13 = v_10 from ev_10.symm))
        obtain ⟨v_26, ev_26⟩ : ∃ z : Int32, z = fp_5 0 14 := ⟨_, rfl⟩
        have q_27 : 0 ≤ v_26.toInt ∧ v_26.toInt ≤ 120 := by rw [ev_26]; exact hI 0 14
        have q_28 : (fp_5 0 14).toInt = v_26.toInt := (congrArg Int32.toInt (show fp_5 0 14 = v_26 from ev_26.symm))
        refine sg_calli (va_runV (As := []) (rest := []) ⟨hx, hb, hml, hown, hts⟩ (kX12_byteAt l D ca za h hh fp_5 L Q hI H.size) (cwV 0 hts (gw_V (fun _ h => List.mem_cons_of_mem _ h) mw_840 mw_841 mw_842 mw_619 mw_839) rfl rfl rfl (by decide +kernel) ⟨Nat.le_of_ble_eq_true rfl, Nat.le_of_ble_eq_true rfl⟩) (sg_preV (ci := 12) (C := RX12) (T := TX12) (N := 55) hA hK hP hS hZ 0 (by decide) rfl rfl) rfl rfl hl.1 rfl (lv_room (Nat.le_of_ble_eq_true rfl)) dX12_sums_13 ⟨Nat.le_refl _, Nat.le_refl _⟩) hA hS (fun r_32 f_29 L_30 Q_31 H locs hq hP hS => ?_)
        obtain ⟨⟨ef9, eL9, eQ9⟩, hq, p_33⟩ := hq
        rw [ef9, eL9, eQ9] at hP; clear ef9 eL9 eQ9
        refine lv_bipush (v := 43) hx hb dX12_sums_16 (by decide) ?_
        refine lv_icmp_eq (tgt := 30) hx hb dX12_sums_18 (by decide) (fun c => ?_) (fun c => ?_)
        · skip
          have c_34 : r_32.toInt = 43 := (by have z := Int32.toInt_inj.mpr c; have k1 : (43 : Int32).toInt = 43 := (by decide); omega)
          refine lv_aload_n hx hb dX12_sums_30 rfl (lv_at hl 0 rfl) ?_
          have q_36 : (fp_5 0 13).toInt = v_10.toInt := (congrArg Int32.toInt (show fp_5 0 13 = v_10 from ev_10.symm))
          have q_37 : (fp_5 0 14).toInt = v_26.toInt := (congrArg Int32.toInt (show fp_5 0 14 = v_26 from ev_26.symm))
          refine sg_calli (va_runV (As := []) (rest := []) ⟨hx, hb, hml, hown, hts⟩ (kX12_byteAt l D ca za h hh fp_5 L Q hI H.size) (cwV 0 hts (gw_V (fun _ h => List.mem_cons_of_mem _ h) mw_840 mw_841 mw_842 mw_619 mw_839) rfl rfl rfl (by decide +kernel) ⟨Nat.le_of_ble_eq_true rfl, Nat.le_of_ble_eq_true rfl⟩) (sg_preV (ci := 12) (C := RX12) (T := TX12) (N := 55) hA hK hP hS hZ 0 (by decide) rfl rfl) rfl rfl hl.1 rfl (lv_room (Nat.le_of_ble_eq_true rfl)) dX12_sums_31 ⟨Nat.le_refl _, Nat.le_refl _⟩) hA hS (fun r_41 f_38 L_39 Q_40 H locs hq hP hS => ?_)
          obtain ⟨⟨ef9, eL9, eQ9⟩, hq, p_42⟩ := hq
          rw [ef9, eL9, eQ9] at hP; clear ef9 eL9 eQ9
          refine lv_bipush (v := 43) hx hb dX12_sums_34 (by decide) ?_
          refine lv_icmp_ne (tgt := 43) hx hb dX12_sums_36 (by decide) (fun c => ?_) (fun c => ?_)
          · skip
            have c_43 : r_41.toInt ≠ 43 := (by have z := bn_ne c; have k1 : (43 : Int32).toInt = 43 := (by decide); omega)
            refine lv_iconst (v := 0) hx hb dX12_sums_43 (by decide) ?_
            refine lv_istore_n (lv' := [(2, .int 0), (0, .ref (h 0)), (1, .int y1_5)]) hx hb dX12_sums_44 rfl hl (by decide) rfl (fun ls hl => ?_)
            refine lv_aload_n hx hb dX12_sums_45 rfl (lv_at hl 1 rfl) ?_
            refine lv_dup hx hb dX12_sums_46 rfl ?_
            refine sg_get (ci := 12) (v := .int v_10) (C := RX12) (T := TX12) (N := 55) hx hb hts (fun w h => List.mem_cons_of_mem _ (gx_12 w h)) hown hK hP 0 (by decide) rfl rfl 13 (by decide) (hts _ (List.mem_cons_of_mem _ mw_625)) (fun _ h9 => h9) (congrArg (fun z => some (Value.int z)) (show fp_5 0 13 = v_10 from ev_10.symm)) dX12_sums_47 ?_
            refine lv_iconst (v := 1) hx hb dX12_sums_50 (by decide) ?_
            refine lv_iadd hx hb dX12_sums_51 ?_
            refine lv_topi (fun v_45 ev_45 => ?_)
            have q_46 : v_45.toInt = v_10.toInt + 1 := by rw [ev_45]; have k1 : (1 : Int32).toInt = 1 := (by decide); exact (bn_addI (by omega) (by omega)).trans (by omega)
            refine sg_put (ci := 12) (x := v_45) (ty := .int) (C := RX12) (T := TX12) (N := 55) hx hb hts (fun w h => List.mem_cons_of_mem _ (gx_12 w h)) tyX12 tyX12_ok nmX12 hown hh hA hK hP hS 0 (by decide) rfl rfl 13 (by decide) (hts _ (List.mem_cons_of_mem _ mw_625)) (fun _ h9 => h9) rfl rfl (by decide +kernel) rfl rfl (Nat.le_of_ble_eq_true rfl) dX12_sums_52 (fun f_47 H locs ef_47 hP hS => ?_)
            have hI : sgI loM hiM f_47 := by rw [ef_47]; exact sgI.put hI 0 13 (show 0 ≤ (v_45 : Int32).toInt ∧ (v_45 : Int32).toInt ≤ 120 from by omega)
            have hF : sgK WkX12_sums_0 f f_47 := sgK.put hF ef_47 (by rfl)
            refine lv_aload_n hx hb dX12_sums_55 rfl (lv_at hl 1 rfl) ?_
            have q_48 : (f_47 0 16).toInt = v_13.toInt := (congrArg Int32.toInt (show f_47 0 16 = v_13 from (by rw [ef_47, sg_up_s, sgu_n (by decide)]; exact ev_13.symm)))
            have q_49 : (f_47 0 15).toInt = v_16.toInt := (congrArg Int32.toInt (show f_47 0 15 = v_16 from (by rw [ef_47, sg_up_s, sgu_n (by decide)]; exact ev_16.symm)))
            have q_50 : (f_47 0 16).toInt = v_13.toInt := (congrArg Int32.toInt (show f_47 0 16 = v_13 from (by rw [ef_47, sg_up_s, sgu_n (by decide)]; exact ev_13.symm)))
            have q_51 : (f_47 0 13).toInt = v_45.toInt := (congrArg Int32.toInt (show f_47 0 13 = v_45 from (by rw [ef_47, sg_up_s, sgu_s])))
            refine sg_calli (va_runV (As := []) (rest := []) ⟨hx, hb, hml, hown, hts⟩ (kX12_product_0 l D ca za h hh f_47 L Q hI (by omega) (by omega) H.size) (cwV 0 hts (gw_V (fun _ h => List.mem_cons_of_mem _ h) mw_848 mw_849 mw_850 mw_619 mw_847) rfl rfl rfl (by decide +kernel) ⟨Nat.le_of_ble_eq_true rfl, Nat.le_of_ble_eq_true rfl⟩) (sg_preV (ci := 12) (C := RX12) (T := TX12) (N := 55) hA hK hP hS hZ 0 (by decide) rfl rfl) rfl rfl hl.1 rfl (lv_room (Nat.le_of_ble_eq_true rfl)) dX12_sums_56 ⟨Nat.le_refl _, Nat.le_refl _⟩) hA hS (fun r_55 f_52 L_53 Q_54 H locs hq hP hS => ?_)
            obtain ⟨⟨hI, hk_f_52, eL9, eQ9⟩, hq, p_56, p_57, p_58⟩ := hq
            rw [eL9, eQ9] at hP; clear eL9 eQ9
            have hF : sgK WkX12_sums_0 f f_52 := sgK.tr hF hk_f_52 (by decide)
            obtain ⟨v_59, ev_59⟩ : ∃ z : Int32, z = f_52 0 13 := ⟨_, rfl⟩
            have q_60 : 0 ≤ v_59.toInt ∧ v_59.toInt ≤ 120 := by rw [ev_59]; exact hI 0 13
            have q_61 : (f_52 0 13).toInt = v_59.toInt := (congrArg Int32.toInt (show f_52 0 13 = v_59 from ev_59.symm))
            obtain ⟨v_62, ev_62⟩ : ∃ z : Int32, z = f_52 0 16 := ⟨_, rfl⟩
            have q_63 : 0 ≤ v_62.toInt ∧ v_62.toInt ≤ 6 := by rw [ev_62]; exact hI 0 16
            have q_64 : (f_52 0 16).toInt = v_62.toInt := (congrArg Int32.toInt (show f_52 0 16 = v_62 from ev_62.symm))
            obtain ⟨v_65, ev_65⟩ : ∃ z : Int32, z = f_52 0 15 := ⟨_, rfl⟩
            have q_66 : (-1) ≤ v_65.toInt ∧ v_65.toInt ≤ 120 := by rw [ev_65]; exact hI 0 15
            have q_67 : (f_52 0 15).toInt = v_65.toInt := (congrArg Int32.toInt (show f_52 0 15 = v_65 from ev_65.symm))
            have q_68 : (f_52 0 16).toInt = v_62.toInt := (congrArg Int32.toInt (show f_52 0 16 = v_62 from ev_62.symm))
            refine lv_istore_n (lv' := [(3, .int r_55), (2, .int 0), (0, .ref (h 0)), (1, .int y1_5)]) hx hb dX12_sums_59 rfl hl (by decide) rfl (fun ls hl => ?_)
            refine lv_iload_n hx hb dX12_sums_60 rfl (lv_at hl 1 rfl) ?_
            refine lv_if_eq (tgt := 70) hx hb dX12_sums_61 (by decide) (fun c => ?_) (fun c => absurd c (by decide))
            refine lv_iload_n hx hb dX12_sums_70 rfl (lv_at hl 3 rfl) ?_
            refine lv_iload_n hx hb dX12_sums_71 rfl (lv_at hl 0 rfl) ?_
            refine lv_isub hx hb dX12_sums_72 ?_
            refine lv_topi (fun v_69 ev_69 => ?_)
            refine lv_istore_n (lv' := [(1, .int v_69), (3, .int r_55), (2, .int 0), (0, .ref (h 0))]) hx hb dX12_sums_73 rfl hl (by decide) rfl (fun ls hl => ?_)
            refine lv_goto (tgt := 5) hx hb dX12_sums_74 (by decide) ?_
            exact ih_5 v_69 f_52 _ _ _ (by have zz0_13 : (f_52 0 13).toInt = v_59.toInt := (congrArg Int32.toInt (show f_52 0 13 = v_59 from ev_59.symm)); omega) (by have zz0_13 : (f_52 0 13).toInt = v_59.toInt := (congrArg Int32.toInt (show f_52 0 13 = v_59 from ev_59.symm)); omega) (by have zz0_16 : (f_52 0 16).toInt = v_62.toInt := (congrArg Int32.toInt (show f_52 0 16 = v_62 from ev_62.symm)); omega) (by have zz0_15 : (f_52 0 15).toInt = v_65.toInt := (congrArg Int32.toInt (show f_52 0 15 = v_65 from ev_65.symm)); have zz0_16 : (f_52 0 16).toInt = v_62.toInt := (congrArg Int32.toInt (show f_52 0 16 = v_62 from ev_62.symm)); omega) hI hF hP hS (lv_sub hl [3, 0] rfl)
          · skip
            have c_44 : r_41.toInt = 43 := (by have z := Int32.toInt_inj.mpr c; have k1 : (43 : Int32).toInt = 43 := (by decide); omega)
            refine lv_iconst (v := 1) hx hb dX12_sums_39 (by decide) ?_
            refine lv_goto (tgt := 44) hx hb dX12_sums_40 (by decide) ?_
            refine lv_istore_n (lv' := [(2, .int 1), (0, .ref (h 0)), (1, .int y1_5)]) hx hb dX12_sums_44 rfl hl (by decide) rfl (fun ls hl => ?_)
            refine lv_aload_n hx hb dX12_sums_45 rfl (lv_at hl 1 rfl) ?_
            refine lv_dup hx hb dX12_sums_46 rfl ?_
            refine sg_get (ci := 12) (v := .int v_10) (C := RX12) (T := TX12) (N := 55) hx hb hts (fun w h => List.mem_cons_of_mem _ (gx_12 w h)) hown hK hP 0 (by decide) rfl rfl 13 (by decide) (hts _ (List.mem_cons_of_mem _ mw_625)) (fun _ h9 => h9) (congrArg (fun z => some (Value.int z)) (show fp_5 0 13 = v_10 from ev_10.symm)) dX12_sums_47 ?_
            refine lv_iconst (v := 1) hx hb dX12_sums_50 (by decide) ?_
            refine lv_iadd hx hb dX12_sums_51 ?_
            refine lv_topi (fun v_70 ev_70 => ?_)
            have q_71 : v_70.toInt = v_10.toInt + 1 := by rw [ev_70]; have k1 : (1 : Int32).toInt = 1 := (by decide); exact (bn_addI (by omega) (by omega)).trans (by omega)
            refine sg_put (ci := 12) (x := v_70) (ty := .int) (C := RX12) (T := TX12) (N := 55) hx hb hts (fun w h => List.mem_cons_of_mem _ (gx_12 w h)) tyX12 tyX12_ok nmX12 hown hh hA hK hP hS 0 (by decide) rfl rfl 13 (by decide) (hts _ (List.mem_cons_of_mem _ mw_625)) (fun _ h9 => h9) rfl rfl (by decide +kernel) rfl rfl (Nat.le_of_ble_eq_true rfl) dX12_sums_52 (fun f_72 H locs ef_72 hP hS => ?_)
            have hI : sgI loM hiM f_72 := by rw [ef_72]; exact sgI.put hI 0 13 (show 0 ≤ (v_70 : Int32).toInt ∧ (v_70 : Int32).toInt ≤ 120 from by omega)
            have hF : sgK WkX12_sums_0 f f_72 := sgK.put hF ef_72 (by rfl)
            refine lv_aload_n hx hb dX12_sums_55 rfl (lv_at hl 1 rfl) ?_
            have q_73 : (f_72 0 16).toInt = v_13.toInt := (congrArg Int32.toInt (show f_72 0 16 = v_13 from (by rw [ef_72, sg_up_s, sgu_n (by decide)]; exact ev_13.symm)))
            have q_74 : (f_72 0 15).toInt = v_16.toInt := (congrArg Int32.toInt (show f_72 0 15 = v_16 from (by rw [ef_72, sg_up_s, sgu_n (by decide)]; exact ev_16.symm)))
            have q_75 : (f_72 0 16).toInt = v_13.toInt := (congrArg Int32.toInt (show f_72 0 16 = v_13 from (by rw [ef_72, sg_up_s, sgu_n (by decide)]; exact ev_13.symm)))
            have q_76 : (f_72 0 13).toInt = v_70.toInt := (congrArg Int32.toInt (show f_72 0 13 = v_70 from (by rw [ef_72, sg_up_s, sgu_s])))
            refine sg_calli (va_runV (As := []) (rest := []) ⟨hx, hb, hml, hown, hts⟩ (kX12_product_0 l D ca za h hh f_72 L Q hI (by omega) (by omega) H.size) (cwV 0 hts (gw_V (fun _ h => List.mem_cons_of_mem _ h) mw_848 mw_849 mw_850 mw_619 mw_847) rfl rfl rfl (by decide +kernel) ⟨Nat.le_of_ble_eq_true rfl, Nat.le_of_ble_eq_true rfl⟩) (sg_preV (ci := 12) (C := RX12) (T := TX12) (N := 55) hA hK hP hS hZ 0 (by decide) rfl rfl) rfl rfl hl.1 rfl (lv_room (Nat.le_of_ble_eq_true rfl)) dX12_sums_56 ⟨Nat.le_refl _, Nat.le_refl _⟩) hA hS (fun r_80 f_77 L_78 Q_79 H locs hq hP hS => ?_)
            obtain ⟨⟨hI, hk_f_77, eL9, eQ9⟩, hq, p_81, p_82, p_83⟩ := hq
            rw [eL9, eQ9] at hP; clear eL9 eQ9
            have hF : sgK WkX12_sums_0 f f_77 := sgK.tr hF hk_f_77 (by decide)
            obtain ⟨v_84, ev_84⟩ : ∃ z : Int32, z = f_77 0 13 := ⟨_, rfl⟩
            have q_85 : 0 ≤ v_84.toInt ∧ v_84.toInt ≤ 120 := by rw [ev_84]; exact hI 0 13
            have q_86 : (f_77 0 13).toInt = v_84.toInt := (congrArg Int32.toInt (show f_77 0 13 = v_84 from ev_84.symm))
            obtain ⟨v_87, ev_87⟩ : ∃ z : Int32, z = f_77 0 16 := ⟨_, rfl⟩
            have q_88 : 0 ≤ v_87.toInt ∧ v_87.toInt ≤ 6 := by rw [ev_87]; exact hI 0 16
            have q_89 : (f_77 0 16).toInt = v_87.toInt := (congrArg Int32.toInt (show f_77 0 16 = v_87 from ev_87.symm))
            obtain ⟨v_90, ev_90⟩ : ∃ z : Int32, z = f_77 0 15 := ⟨_, rfl⟩
            have q_91 : (-1) ≤ v_90.toInt ∧ v_90.toInt ≤ 120 := by rw [ev_90]; exact hI 0 15
            have q_92 : (f_77 0 15).toInt = v_90.toInt := (congrArg Int32.toInt (show f_77 0 15 = v_90 from ev_90.symm))
            have q_93 : (f_77 0 16).toInt = v_87.toInt := (congrArg Int32.toInt (show f_77 0 16 = v_87 from ev_87.symm))
            refine lv_istore_n (lv' := [(3, .int r_80), (2, .int 1), (0, .ref (h 0)), (1, .int y1_5)]) hx hb dX12_sums_59 rfl hl (by decide) rfl (fun ls hl => ?_)
            refine lv_iload_n hx hb dX12_sums_60 rfl (lv_at hl 1 rfl) ?_
            refine lv_if_eq (tgt := 70) hx hb dX12_sums_61 (by decide) (fun c => absurd c (by decide)) (fun c => ?_)
            refine lv_iload_n hx hb dX12_sums_64 rfl (lv_at hl 3 rfl) ?_
            refine lv_iload_n hx hb dX12_sums_65 rfl (lv_at hl 0 rfl) ?_
            refine lv_iadd hx hb dX12_sums_66 ?_
            refine lv_topi (fun v_94 ev_94 => ?_)
            refine lv_goto (tgt := 73) hx hb dX12_sums_67 (by decide) ?_
            refine lv_istore_n (lv' := [(1, .int v_94), (3, .int r_80), (2, .int 1), (0, .ref (h 0))]) hx hb dX12_sums_73 rfl hl (by decide) rfl (fun ls hl => ?_)
            refine lv_goto (tgt := 5) hx hb dX12_sums_74 (by decide) ?_
            exact ih_5 v_94 f_77 _ _ _ (by have zz0_13 : (f_77 0 13).toInt = v_84.toInt := (congrArg Int32.toInt (show f_77 0 13 = v_84 from ev_84.symm)); omega) (by have zz0_13 : (f_77 0 13).toInt = v_84.toInt := (congrArg Int32.toInt (show f_77 0 13 = v_84 from ev_84.symm)); omega) (by have zz0_16 : (f_77 0 16).toInt = v_87.toInt := (congrArg Int32.toInt (show f_77 0 16 = v_87 from ev_87.symm)); omega) (by have zz0_15 : (f_77 0 15).toInt = v_90.toInt := (congrArg Int32.toInt (show f_77 0 15 = v_90 from ev_90.symm)); have zz0_16 : (f_77 0 16).toInt = v_87.toInt := (congrArg Int32.toInt (show f_77 0 16 = v_87 from ev_87.symm)); omega) hI hF hP hS (lv_sub hl [3, 0] rfl)
        · skip
          have c_35 : r_32.toInt ≠ 43 := (by have z := bn_ne c; have k1 : (43 : Int32).toInt = 43 := (by decide); omega)
          refine lv_aload_n hx hb dX12_sums_21 rfl (lv_at hl 0 rfl) ?_
          have q_95 : (fp_5 0 13).toInt = v_10.toInt := (congrArg Int32.toInt (show fp_5 0 13 = v_10 from ev_10.symm))
          have q_96 : (fp_5 0 14).toInt = v_26.toInt := (congrArg Int32.toInt (show fp_5 0 14 = v_26 from ev_26.symm))
          refine sg_calli (va_runV (As := []) (rest := []) ⟨hx, hb, hml, hown, hts⟩ (kX12_byteAt l D ca za h hh fp_5 L Q hI H.size) (cwV 0 hts (gw_V (fun _ h => List.mem_cons_of_mem _ h) mw_840 mw_841 mw_842 mw_619 mw_839) rfl rfl rfl (by decide +kernel) ⟨Nat.le_of_ble_eq_true rfl, Nat.le_of_ble_eq_true rfl⟩) (sg_preV (ci := 12) (C := RX12) (T := TX12) (N := 55) hA hK hP hS hZ 0 (by decide) rfl rfl) rfl rfl hl.1 rfl (lv_room (Nat.le_of_ble_eq_true rfl)) dX12_sums_22 ⟨Nat.le_refl _, Nat.le_refl _⟩) hA hS (fun r_100 f_97 L_98 Q_99 H locs hq hP hS => ?_)
          obtain ⟨⟨ef9, eL9, eQ9⟩, hq, p_101⟩ := hq
          rw [ef9, eL9, eQ9] at hP; clear ef9 eL9 eQ9
          refine lv_bipush (v := 45) hx hb dX12_sums_25 (by decide) ?_
          refine lv_icmp_ne (tgt := 77) hx hb dX12_sums_27 (by decide) (fun c => ?_) (fun c => ?_)
          · skip
            have c_102 : r_100.toInt ≠ 45 := (by have z := bn_ne c; have k1 : (45 : Int32).toInt = 45 := (by decide); omega)
            refine lv_iload_n hx hb dX12_sums_77 rfl (lv_at hl 1 rfl) ?_
            have q_104 : (fp_5 0 13).toInt = v_10.toInt := (congrArg Int32.toInt (show fp_5 0 13 = v_10 from ev_10.symm))
            have q_105 : (fp_5 0 16).toInt = v_13.toInt := (congrArg Int32.toInt (show fp_5 0 16 = v_13 from ev_13.symm))
            have q_106 : (fp_5 0 15).toInt = v_16.toInt := (congrArg Int32.toInt (show fp_5 0 15 = v_16 from ev_16.symm))
            have q_107 : (fp_5 0 16).toInt = v_13.toInt := (congrArg Int32.toInt (show fp_5 0 16 = v_13 from ev_13.symm))
            exact hret _ _ _ _ (y1_5) fp_5 L Q dX12_sums_78 hP hS ⟨⟨hI, hF, rfl, rfl⟩, trivial, (by omega), (by omega), (by omega)⟩
          · skip
            have c_103 : r_100.toInt = 45 := (by have z := Int32.toInt_inj.mpr c; have k1 : (45 : Int32).toInt = 45 := (by decide); omega)
            refine lv_aload_n hx hb dX12_sums_30 rfl (lv_at hl 0 rfl) ?_
            have q_108 : (fp_5 0 13).toInt = v_10.toInt := (congrArg Int32.toInt (show fp_5 0 13 = v_10 from ev_10.symm))
            have q_109 : (fp_5 0 14).toInt = v_26.toInt := (congrArg Int32.toInt (show fp_5 0 14 = v_26 from ev_26.symm))
            refine sg_calli (va_runV (As := []) (rest := []) ⟨hx, hb, hml, hown, hts⟩ (kX12_byteAt l D ca za h hh fp_5 L Q hI H.size) (cwV 0 hts (gw_V (fun _ h => List.mem_cons_of_mem _ h) mw_840 mw_841 mw_842 mw_619 mw_839) rfl rfl rfl (by decide +kernel) ⟨Nat.le_of_ble_eq_true rfl, Nat.le_of_ble_eq_true rfl⟩) (sg_preV (ci := 12) (C := RX12) (T := TX12) (N := 55) hA hK hP hS hZ 0 (by decide) rfl rfl) rfl rfl hl.1 rfl (lv_room (Nat.le_of_ble_eq_true rfl)) dX12_sums_31 ⟨Nat.le_refl _, Nat.le_refl _⟩) hA hS (fun r_113 f_110 L_111 Q_112 H locs hq hP hS => ?_)
            obtain ⟨⟨ef9, eL9, eQ9⟩, hq, p_114⟩ := hq
            rw [ef9, eL9, eQ9] at hP; clear ef9 eL9 eQ9
            refine lv_bipush (v := 43) hx hb dX12_sums_34 (by decide) ?_
            refine lv_icmp_ne (tgt := 43) hx hb dX12_sums_36 (by decide) (fun c => ?_) (fun c => ?_)
            · skip
              have c_115 : r_113.toInt ≠ 43 := (by have z := bn_ne c; have k1 : (43 : Int32).toInt = 43 := (by decide); omega)
              refine lv_iconst (v := 0) hx hb dX12_sums_43 (by decide) ?_
              refine lv_istore_n (lv' := [(2, .int 0), (0, .ref (h 0)), (1, .int y1_5)]) hx hb dX12_sums_44 rfl hl (by decide) rfl (fun ls hl => ?_)
              refine lv_aload_n hx hb dX12_sums_45 rfl (lv_at hl 1 rfl) ?_
              refine lv_dup hx hb dX12_sums_46 rfl ?_
              refine sg_get (ci := 12) (v := .int v_10) (C := RX12) (T := TX12) (N := 55) hx hb hts (fun w h => List.mem_cons_of_mem _ (gx_12 w h)) hown hK hP 0 (by decide) rfl rfl 13 (by decide) (hts _ (List.mem_cons_of_mem _ mw_625)) (fun _ h9 => h9) (congrArg (fun z => some (Value.int z)) (show fp_5 0 13 = v_10 from ev_10.symm)) dX12_sums_47 ?_
              refine lv_iconst (v := 1) hx hb dX12_sums_50 (by decide) ?_
              refine lv_iadd hx hb dX12_sums_51 ?_
              refine lv_topi (fun v_117 ev_117 => ?_)
              have q_118 : v_117.toInt = v_10.toInt + 1 := by rw [ev_117]; have k1 : (1 : Int32).toInt = 1 := (by decide); exact (bn_addI (by omega) (by omega)).trans (by omega)
              refine sg_put (ci := 12) (x := v_117) (ty := .int) (C := RX12) (T := TX12) (N := 55) hx hb hts (fun w h => List.mem_cons_of_mem _ (gx_12 w h)) tyX12 tyX12_ok nmX12 hown hh hA hK hP hS 0 (by decide) rfl rfl 13 (by decide) (hts _ (List.mem_cons_of_mem _ mw_625)) (fun _ h9 => h9) rfl rfl (by decide +kernel) rfl rfl (Nat.le_of_ble_eq_true rfl) dX12_sums_52 (fun f_119 H locs ef_119 hP hS => ?_)
              have hI : sgI loM hiM f_119 := by rw [ef_119]; exact sgI.put hI 0 13 (show 0 ≤ (v_117 : Int32).toInt ∧ (v_117 : Int32).toInt ≤ 120 from by omega)
              have hF : sgK WkX12_sums_0 f f_119 := sgK.put hF ef_119 (by rfl)
              refine lv_aload_n hx hb dX12_sums_55 rfl (lv_at hl 1 rfl) ?_
              have q_120 : (f_119 0 16).toInt = v_13.toInt := (congrArg Int32.toInt (show f_119 0 16 = v_13 from (by rw [ef_119, sg_up_s, sgu_n (by decide)]; exact ev_13.symm)))
              have q_121 : (f_119 0 15).toInt = v_16.toInt := (congrArg Int32.toInt (show f_119 0 15 = v_16 from (by rw [ef_119, sg_up_s, sgu_n (by decide)]; exact ev_16.symm)))
              have q_122 : (f_119 0 16).toInt = v_13.toInt := (congrArg Int32.toInt (show f_119 0 16 = v_13 from (by rw [ef_119, sg_up_s, sgu_n (by decide)]; exact ev_13.symm)))
              have q_123 : (f_119 0 13).toInt = v_117.toInt := (congrArg Int32.toInt (show f_119 0 13 = v_117 from (by rw [ef_119, sg_up_s, sgu_s])))
              refine sg_calli (va_runV (As := []) (rest := []) ⟨hx, hb, hml, hown, hts⟩ (kX12_product_0 l D ca za h hh f_119 L Q hI (by omega) (by omega) H.size) (cwV 0 hts (gw_V (fun _ h => List.mem_cons_of_mem _ h) mw_848 mw_849 mw_850 mw_619 mw_847) rfl rfl rfl (by decide +kernel) ⟨Nat.le_of_ble_eq_true rfl, Nat.le_of_ble_eq_true rfl⟩) (sg_preV (ci := 12) (C := RX12) (T := TX12) (N := 55) hA hK hP hS hZ 0 (by decide) rfl rfl) rfl rfl hl.1 rfl (lv_room (Nat.le_of_ble_eq_true rfl)) dX12_sums_56 ⟨Nat.le_refl _, Nat.le_refl _⟩) hA hS (fun r_127 f_124 L_125 Q_126 H locs hq hP hS => ?_)
              obtain ⟨⟨hI, hk_f_124, eL9, eQ9⟩, hq, p_128, p_129, p_130⟩ := hq
              rw [eL9, eQ9] at hP; clear eL9 eQ9
              have hF : sgK WkX12_sums_0 f f_124 := sgK.tr hF hk_f_124 (by decide)
              obtain ⟨v_131, ev_131⟩ : ∃ z : Int32, z = f_124 0 13 := ⟨_, rfl⟩
              have q_132 : 0 ≤ v_131.toInt ∧ v_131.toInt ≤ 120 := by rw [ev_131]; exact hI 0 13
              have q_133 : (f_124 0 13).toInt = v_131.toInt := (congrArg Int32.toInt (show f_124 0 13 = v_131 from ev_131.symm))
              obtain ⟨v_134, ev_134⟩ : ∃ z : Int32, z = f_124 0 16 := ⟨_, rfl⟩
              have q_135 : 0 ≤ v_134.toInt ∧ v_134.toInt ≤ 6 := by rw [ev_134]; exact hI 0 16
              have q_136 : (f_124 0 16).toInt = v_134.toInt := (congrArg Int32.toInt (show f_124 0 16 = v_134 from ev_134.symm))
              obtain ⟨v_137, ev_137⟩ : ∃ z : Int32, z = f_124 0 15 := ⟨_, rfl⟩
              have q_138 : (-1) ≤ v_137.toInt ∧ v_137.toInt ≤ 120 := by rw [ev_137]; exact hI 0 15
              have q_139 : (f_124 0 15).toInt = v_137.toInt := (congrArg Int32.toInt (show f_124 0 15 = v_137 from ev_137.symm))
              have q_140 : (f_124 0 16).toInt = v_134.toInt := (congrArg Int32.toInt (show f_124 0 16 = v_134 from ev_134.symm))
              refine lv_istore_n (lv' := [(3, .int r_127), (2, .int 0), (0, .ref (h 0)), (1, .int y1_5)]) hx hb dX12_sums_59 rfl hl (by decide) rfl (fun ls hl => ?_)
              refine lv_iload_n hx hb dX12_sums_60 rfl (lv_at hl 1 rfl) ?_
              refine lv_if_eq (tgt := 70) hx hb dX12_sums_61 (by decide) (fun c => ?_) (fun c => absurd c (by decide))
              refine lv_iload_n hx hb dX12_sums_70 rfl (lv_at hl 3 rfl) ?_
              refine lv_iload_n hx hb dX12_sums_71 rfl (lv_at hl 0 rfl) ?_
              refine lv_isub hx hb dX12_sums_72 ?_
              refine lv_topi (fun v_141 ev_141 => ?_)
              refine lv_istore_n (lv' := [(1, .int v_141), (3, .int r_127), (2, .int 0), (0, .ref (h 0))]) hx hb dX12_sums_73 rfl hl (by decide) rfl (fun ls hl => ?_)
              refine lv_goto (tgt := 5) hx hb dX12_sums_74 (by decide) ?_
              exact ih_5 v_141 f_124 _ _ _ (by have zz0_13 : (f_124 0 13).toInt = v_131.toInt := (congrArg Int32.toInt (show f_124 0 13 = v_131 from ev_131.symm)); omega) (by have zz0_13 : (f_124 0 13).toInt = v_131.toInt := (congrArg Int32.toInt (show f_124 0 13 = v_131 from ev_131.symm)); omega) (by have zz0_16 : (f_124 0 16).toInt = v_134.toInt := (congrArg Int32.toInt (show f_124 0 16 = v_134 from ev_134.symm)); omega) (by have zz0_15 : (f_124 0 15).toInt = v_137.toInt := (congrArg Int32.toInt (show f_124 0 15 = v_137 from ev_137.symm)); have zz0_16 : (f_124 0 16).toInt = v_134.toInt := (congrArg Int32.toInt (show f_124 0 16 = v_134 from ev_134.symm)); omega) hI hF hP hS (lv_sub hl [3, 0] rfl)
            · skip
              have c_116 : r_113.toInt = 43 := (by have z := Int32.toInt_inj.mpr c; have k1 : (43 : Int32).toInt = 43 := (by decide); omega)
              refine lv_iconst (v := 1) hx hb dX12_sums_39 (by decide) ?_
              refine lv_goto (tgt := 44) hx hb dX12_sums_40 (by decide) ?_
              refine lv_istore_n (lv' := [(2, .int 1), (0, .ref (h 0)), (1, .int y1_5)]) hx hb dX12_sums_44 rfl hl (by decide) rfl (fun ls hl => ?_)
              refine lv_aload_n hx hb dX12_sums_45 rfl (lv_at hl 1 rfl) ?_
              refine lv_dup hx hb dX12_sums_46 rfl ?_
              refine sg_get (ci := 12) (v := .int v_10) (C := RX12) (T := TX12) (N := 55) hx hb hts (fun w h => List.mem_cons_of_mem _ (gx_12 w h)) hown hK hP 0 (by decide) rfl rfl 13 (by decide) (hts _ (List.mem_cons_of_mem _ mw_625)) (fun _ h9 => h9) (congrArg (fun z => some (Value.int z)) (show fp_5 0 13 = v_10 from ev_10.symm)) dX12_sums_47 ?_
              refine lv_iconst (v := 1) hx hb dX12_sums_50 (by decide) ?_
              refine lv_iadd hx hb dX12_sums_51 ?_
              refine lv_topi (fun v_142 ev_142 => ?_)
              have q_143 : v_142.toInt = v_10.toInt + 1 := by rw [ev_142]; have k1 : (1 : Int32).toInt = 1 := (by decide); exact (bn_addI (by omega) (by omega)).trans (by omega)
              refine sg_put (ci := 12) (x := v_142) (ty := .int) (C := RX12) (T := TX12) (N := 55) hx hb hts (fun w h => List.mem_cons_of_mem _ (gx_12 w h)) tyX12 tyX12_ok nmX12 hown hh hA hK hP hS 0 (by decide) rfl rfl 13 (by decide) (hts _ (List.mem_cons_of_mem _ mw_625)) (fun _ h9 => h9) rfl rfl (by decide +kernel) rfl rfl (Nat.le_of_ble_eq_true rfl) dX12_sums_52 (fun f_144 H locs ef_144 hP hS => ?_)
              have hI : sgI loM hiM f_144 := by rw [ef_144]; exact sgI.put hI 0 13 (show 0 ≤ (v_142 : Int32).toInt ∧ (v_142 : Int32).toInt ≤ 120 from by omega)
              have hF : sgK WkX12_sums_0 f f_144 := sgK.put hF ef_144 (by rfl)
              refine lv_aload_n hx hb dX12_sums_55 rfl (lv_at hl 1 rfl) ?_
              have q_145 : (f_144 0 16).toInt = v_13.toInt := (congrArg Int32.toInt (show f_144 0 16 = v_13 from (by rw [ef_144, sg_up_s, sgu_n (by decide)]; exact ev_13.symm)))
              have q_146 : (f_144 0 15).toInt = v_16.toInt := (congrArg Int32.toInt (show f_144 0 15 = v_16 from (by rw [ef_144, sg_up_s, sgu_n (by decide)]; exact ev_16.symm)))
              have q_147 : (f_144 0 16).toInt = v_13.toInt := (congrArg Int32.toInt (show f_144 0 16 = v_13 from (by rw [ef_144, sg_up_s, sgu_n (by decide)]; exact ev_13.symm)))
              have q_148 : (f_144 0 13).toInt = v_142.toInt := (congrArg Int32.toInt (show f_144 0 13 = v_142 from (by rw [ef_144, sg_up_s, sgu_s])))
              refine sg_calli (va_runV (As := []) (rest := []) ⟨hx, hb, hml, hown, hts⟩ (kX12_product_0 l D ca za h hh f_144 L Q hI (by omega) (by omega) H.size) (cwV 0 hts (gw_V (fun _ h => List.mem_cons_of_mem _ h) mw_848 mw_849 mw_850 mw_619 mw_847) rfl rfl rfl (by decide +kernel) ⟨Nat.le_of_ble_eq_true rfl, Nat.le_of_ble_eq_true rfl⟩) (sg_preV (ci := 12) (C := RX12) (T := TX12) (N := 55) hA hK hP hS hZ 0 (by decide) rfl rfl) rfl rfl hl.1 rfl (lv_room (Nat.le_of_ble_eq_true rfl)) dX12_sums_56 ⟨Nat.le_refl _, Nat.le_refl _⟩) hA hS (fun r_152 f_149 L_150 Q_151 H locs hq hP hS => ?_)
              obtain ⟨⟨hI, hk_f_149, eL9, eQ9⟩, hq, p_153, p_154, p_155⟩ := hq
              rw [eL9, eQ9] at hP; clear eL9 eQ9
              have hF : sgK WkX12_sums_0 f f_149 := sgK.tr hF hk_f_149 (by decide)
              obtain ⟨v_156, ev_156⟩ : ∃ z : Int32, z = f_149 0 13 := ⟨_, rfl⟩
              have q_157 : 0 ≤ v_156.toInt ∧ v_156.toInt ≤ 120 := by rw [ev_156]; exact hI 0 13
              have q_158 : (f_149 0 13).toInt = v_156.toInt := (congrArg Int32.toInt (show f_149 0 13 = v_156 from ev_156.symm))
              obtain ⟨v_159, ev_159⟩ : ∃ z : Int32, z = f_149 0 16 := ⟨_, rfl⟩
              have q_160 : 0 ≤ v_159.toInt ∧ v_159.toInt ≤ 6 := by rw [ev_159]; exact hI 0 16
              have q_161 : (f_149 0 16).toInt = v_159.toInt := (congrArg Int32.toInt (show f_149 0 16 = v_159 from ev_159.symm))
              obtain ⟨v_162, ev_162⟩ : ∃ z : Int32, z = f_149 0 15 := ⟨_, rfl⟩
              have q_163 : (-1) ≤ v_162.toInt ∧ v_162.toInt ≤ 120 := by rw [ev_162]; exact hI 0 15
              have q_164 : (f_149 0 15).toInt = v_162.toInt := (congrArg Int32.toInt (show f_149 0 15 = v_162 from ev_162.symm))
              have q_165 : (f_149 0 16).toInt = v_159.toInt := (congrArg Int32.toInt (show f_149 0 16 = v_159 from ev_159.symm))
              refine lv_istore_n (lv' := [(3, .int r_152), (2, .int 1), (0, .ref (h 0)), (1, .int y1_5)]) hx hb dX12_sums_59 rfl hl (by decide) rfl (fun ls hl => ?_)
              refine lv_iload_n hx hb dX12_sums_60 rfl (lv_at hl 1 rfl) ?_
              refine lv_if_eq (tgt := 70) hx hb dX12_sums_61 (by decide) (fun c => absurd c (by decide)) (fun c => ?_)
              refine lv_iload_n hx hb dX12_sums_64 rfl (lv_at hl 3 rfl) ?_
              refine lv_iload_n hx hb dX12_sums_65 rfl (lv_at hl 0 rfl) ?_
              refine lv_iadd hx hb dX12_sums_66 ?_
              refine lv_topi (fun v_166 ev_166 => ?_)
              refine lv_goto (tgt := 73) hx hb dX12_sums_67 (by decide) ?_
              refine lv_istore_n (lv' := [(1, .int v_166), (3, .int r_152), (2, .int 1), (0, .ref (h 0))]) hx hb dX12_sums_73 rfl hl (by decide) rfl (fun ls hl => ?_)
              refine lv_goto (tgt := 5) hx hb dX12_sums_74 (by decide) ?_
              exact ih_5 v_166 f_149 _ _ _ (by have zz0_13 : (f_149 0 13).toInt = v_156.toInt := (congrArg Int32.toInt (show f_149 0 13 = v_156 from ev_156.symm)); omega) (by have zz0_13 : (f_149 0 13).toInt = v_156.toInt := (congrArg Int32.toInt (show f_149 0 13 = v_156 from ev_156.symm)); omega) (by have zz0_16 : (f_149 0 16).toInt = v_159.toInt := (congrArg Int32.toInt (show f_149 0 16 = v_159 from ev_159.symm)); omega) (by have zz0_15 : (f_149 0 15).toInt = v_162.toInt := (congrArg Int32.toInt (show f_149 0 15 = v_162 from ev_162.symm)); have zz0_16 : (f_149 0 16).toInt = v_159.toInt := (congrArg Int32.toInt (show f_149 0 16 = v_159 from ev_159.symm)); omega) hI hF hP hS (lv_sub hl [3, 0] rfl)
  refine lv_aload_n hx hb dX12_sums_0 rfl (lv_at hl 0 rfl) ?_
  have q_167 : (f 0 16).toInt = v_1.toInt := (congrArg Int32.toInt (show f 0 16 = v_1 from ev_1.symm))
  have q_168 : (f 0 15).toInt = v_3.toInt := (congrArg Int32.toInt (show f 0 15 = v_3 from ev_3.symm))
  have q_169 : (f 0 16).toInt = v_1.toInt := (congrArg Int32.toInt (show f 0 16 = v_1 from ev_1.symm))
  have q_170 : (f 0 13).toInt = v_5.toInt := (congrArg Int32.toInt (show f 0 13 = v_5 from ev_5.symm))
  refine sg_calli (va_runV (As := []) (rest := []) ⟨hx, hb, hml, hown, hts⟩ (kX12_product_0 l D ca za h hh f L Q hI (by omega) (by omega) H.size) (cwV 0 hts (gw_V (fun _ h => List.mem_cons_of_mem _ h) mw_848 mw_849 mw_850 mw_619 mw_847) rfl rfl rfl (by decide +kernel) ⟨Nat.le_of_ble_eq_true rfl, Nat.le_of_ble_eq_true rfl⟩) (sg_preV (ci := 12) (C := RX12) (T := TX12) (N := 55) hA hK hP hS hZ 0 (by decide) rfl rfl) rfl rfl hl.1 rfl (lv_room (Nat.le_of_ble_eq_true rfl)) dX12_sums_1 ⟨Nat.le_refl _, Nat.le_refl _⟩) hA hS (fun r_174 f_171 L_172 Q_173 H locs hq hP hS => ?_)
  obtain ⟨⟨hI, hk_f_171, eL9, eQ9⟩, hq, p_175, p_176, p_177⟩ := hq
  rw [eL9, eQ9] at hP; clear eL9 eQ9
  have hF : sgK WkX12_sums_0 f f_171 := sgK.tr hF hk_f_171 (by decide)
  obtain ⟨v_178, ev_178⟩ : ∃ z : Int32, z = f_171 0 13 := ⟨_, rfl⟩
  have q_179 : 0 ≤ v_178.toInt ∧ v_178.toInt ≤ 120 := by rw [ev_178]; exact hI 0 13
  have q_180 : (f_171 0 13).toInt = v_178.toInt := (congrArg Int32.toInt (show f_171 0 13 = v_178 from ev_178.symm))
  obtain ⟨v_181, ev_181⟩ : ∃ z : Int32, z = f_171 0 16 := ⟨_, rfl⟩
  have q_182 : 0 ≤ v_181.toInt ∧ v_181.toInt ≤ 6 := by rw [ev_181]; exact hI 0 16
  have q_183 : (f_171 0 16).toInt = v_181.toInt := (congrArg Int32.toInt (show f_171 0 16 = v_181 from ev_181.symm))
  obtain ⟨v_184, ev_184⟩ : ∃ z : Int32, z = f_171 0 15 := ⟨_, rfl⟩
  have q_185 : (-1) ≤ v_184.toInt ∧ v_184.toInt ≤ 120 := by rw [ev_184]; exact hI 0 15
  have q_186 : (f_171 0 15).toInt = v_184.toInt := (congrArg Int32.toInt (show f_171 0 15 = v_184 from ev_184.symm))
  have q_187 : (f_171 0 16).toInt = v_181.toInt := (congrArg Int32.toInt (show f_171 0 16 = v_181 from ev_181.symm))
  refine lv_istore_n (lv' := [(1, .int r_174), (0, .ref (h 0))]) hx hb dX12_sums_4 rfl hl (by decide) rfl (fun ls hl => ?_)
  exact loop_5 121 r_174 f_171 _ _ _ (by have zz0_13 : (f_171 0 13).toInt = v_178.toInt := (congrArg Int32.toInt (show f_171 0 13 = v_178 from ev_178.symm)); omega) (by have zz0_13 : (f_171 0 13).toInt = v_178.toInt := (congrArg Int32.toInt (show f_171 0 13 = v_178 from ev_178.symm)); omega) (by have zz0_16 : (f_171 0 16).toInt = v_181.toInt := (congrArg Int32.toInt (show f_171 0 16 = v_181 from ev_181.symm)); omega) (by have zz0_15 : (f_171 0 15).toInt = v_184.toInt := (congrArg Int32.toInt (show f_171 0 15 = v_184 from ev_184.symm)); have zz0_16 : (f_171 0 16).toInt = v_181.toInt := (congrArg Int32.toInt (show f_171 0 16 = v_181 from ev_181.symm)); omega) hI hF hP hS (lv_sub hl [1, 0] rfl)

abbrev WkX12_compared_0 : List (Nat × Nat × Option Nat) := [(0, 0, some 13), (0, 0, some 15), (0, 0, some 16)]
set_option maxHeartbeats 4000000 in
set_option maxRecDepth 100000 in
theorem kX12_compared_0 (l : Launch) (D : va_G) (ca : Nat → ClassId) (za h : Nat → Nat) (hh : sgH 26 h) (f : sg_F) (L : sg_L) (Q : sg_Q) (hI : sgI loM hiM f) (p0 : 0 ≤ (f 0 16).toInt) (p1 : 0 ≤ (f 0 15).toInt ∨ (f 0 16).toInt = 0) (sz : Nat) : Met l yX12_compared gwX12_compared { frames := 40, cells := 0, slots := 0, locals := 912 } (sgP D vwCl (tyX ca) 26 h (eM ca h) zcM za f L Q sz [.ref (h 0)]) (sgQi D vwCl 26 h (eM ca h) sz (fun r f1 L1 Q1 => ((sgI loM hiM f1 ∧ sgK WkX12_compared_0 f f1 ∧ L1 = L ∧ Q1 = Q) ∧ True ∧ ((f 0 13).toInt ≤ (f1 0 13).toInt) ∧ (0 ≤ (f1 0 16).toInt) ∧ (0 ≤ (f1 0 15).toInt ∨ (f1 0 16).toInt = 0)))) 0 0 (sgA 26 h sz) := by
  refine sg_ofWi (cc := cX12_compared) (maxL := 4) RX12 (by decide) rfl rfl (Nat.le_of_ble_eq_true rfl) ?_
  intro p e s m below meth cd Qz ls hx hb hml hown hts hK hZ hP hS hl hret
  have hA := sgY.self (n := 26) (h := h) (sz := s.heap.size)
  have hl : lv_has ls 4 [(0, .ref (h 0))] := hl
  obtain ⟨H, hH⟩ : ∃ z : Heap, z = s.heap := ⟨_, rfl⟩
  obtain ⟨locs, hlo⟩ : ∃ z : List Loc, z = [] := ⟨_, rfl⟩
  have hP : va_P D vwCl (sgw 26 h (eM ca h) f L Q) H := by rw [hH]; exact hP
  have hS : va_S (sgA 26 h s.heap.size) s.heap H locs := by rw [hH, hlo]; exact hS
  suffices hgo : W p l e ({ frames := 40, cells := 0, slots := 0, locals := 912 }) s m ([.ref (h 0)] : List Value).toArray below meth cd H locs 0 0 Qz (F0 m 0 ls []) by rw [hH, hlo] at hgo; exact hgo
  clear hH hlo
  obtain ⟨v_1, ev_1⟩ : ∃ z : Int32, z = f 0 16 := ⟨_, rfl⟩
  have q_2 : 0 ≤ v_1.toInt ∧ v_1.toInt ≤ 6 := by rw [ev_1]; exact hI 0 16
  obtain ⟨v_3, ev_3⟩ : ∃ z : Int32, z = f 0 15 := ⟨_, rfl⟩
  have q_4 : (-1) ≤ v_3.toInt ∧ v_3.toInt ≤ 120 := by rw [ev_3]; exact hI 0 15
  obtain ⟨v_5, ev_5⟩ : ∃ z : Int32, z = f 0 13 := ⟨_, rfl⟩
  have q_6 : 0 ≤ v_5.toInt ∧ v_5.toInt ≤ 120 := by rw [ev_5]; exact hI 0 13
  have o_7 : (f 0 16).toInt = v_1.toInt := (congrArg Int32.toInt (show f 0 16 = v_1 from ev_1.symm))
  have o_8 : (f 0 15).toInt = v_3.toInt := (congrArg Int32.toInt (show f 0 15 = v_3 from ev_3.symm))
  have o_9 : (f 0 13).toInt = v_5.toInt := (congrArg Int32.toInt (show f 0 13 = v_5 from ev_5.symm))
  have hF : sgK WkX12_compared_0 f f := sgK.rf
  refine lv_aload_n hx hb dX12_compared_0 rfl (lv_at hl 0 rfl) ?_
  have q_10 : (f 0 16).toInt = v_1.toInt := (congrArg Int32.toInt (show f 0 16 = v_1 from ev_1.symm))
  have q_11 : (f 0 15).toInt = v_3.toInt := (congrArg Int32.toInt (show f 0 15 = v_3 from ev_3.symm))
  have q_12 : (f 0 16).toInt = v_1.toInt := (congrArg Int32.toInt (show f 0 16 = v_1 from ev_1.symm))
  have q_13 : (f 0 13).toInt = v_5.toInt := (congrArg Int32.toInt (show f 0 13 = v_5 from ev_5.symm))
  refine sg_calli (va_runV (As := []) (rest := []) ⟨hx, hb, hml, hown, hts⟩ (kX12_sums_0 l D ca za h hh f L Q hI (by omega) (by omega) H.size) (cwV 0 hts (gw_V (fun _ h => List.mem_cons_of_mem _ h) mw_852 mw_853 mw_854 mw_619 mw_851) rfl rfl rfl (by decide +kernel) ⟨Nat.le_of_ble_eq_true rfl, Nat.le_of_ble_eq_true rfl⟩) (sg_preV (ci := 12) (C := RX12) (T := TX12) (N := 55) hA hK hP hS hZ 0 (by decide) rfl rfl) rfl rfl hl.1 rfl (lv_room (Nat.le_of_ble_eq_true rfl)) dX12_compared_1 ⟨Nat.le_refl _, Nat.le_refl _⟩) hA hS (fun r_17 f_14 L_15 Q_16 H locs hq hP hS => ?_)
  obtain ⟨⟨hI, hk_f_14, eL9, eQ9⟩, hq, p_18, p_19, p_20⟩ := hq
  rw [eL9, eQ9] at hP; clear eL9 eQ9
  have hF : sgK WkX12_compared_0 f f_14 := sgK.tr hF hk_f_14 (by decide)
  obtain ⟨v_21, ev_21⟩ : ∃ z : Int32, z = f_14 0 13 := ⟨_, rfl⟩
  have q_22 : 0 ≤ v_21.toInt ∧ v_21.toInt ≤ 120 := by rw [ev_21]; exact hI 0 13
  have q_23 : (f_14 0 13).toInt = v_21.toInt := (congrArg Int32.toInt (show f_14 0 13 = v_21 from ev_21.symm))
  obtain ⟨v_24, ev_24⟩ : ∃ z : Int32, z = f_14 0 16 := ⟨_, rfl⟩
  have q_25 : 0 ≤ v_24.toInt ∧ v_24.toInt ≤ 6 := by rw [ev_24]; exact hI 0 16
  have q_26 : (f_14 0 16).toInt = v_24.toInt := (congrArg Int32.toInt (show f_14 0 16 = v_24 from ev_24.symm))
  obtain ⟨v_27, ev_27⟩ : ∃ z : Int32, z = f_14 0 15 := ⟨_, rfl⟩
  have q_28 : (-1) ≤ v_27.toInt ∧ v_27.toInt ≤ 120 := by rw [ev_27]; exact hI 0 15
  have q_29 : (f_14 0 15).toInt = v_27.toInt := (congrArg Int32.toInt (show f_14 0 15 = v_27 from ev_27.symm))
  have q_30 : (f_14 0 16).toInt = v_24.toInt := (congrArg Int32.toInt (show f_14 0 16 = v_24 from ev_24.symm))
  refine lv_istore_n (lv' := [(1, .int r_17), (0, .ref (h 0))]) hx hb dX12_compared_4 rfl hl (by decide) rfl (fun ls hl => ?_)
  refine lv_aload_n hx hb dX12_compared_5 rfl (lv_at hl 1 rfl) ?_
  have q_31 : (f_14 0 13).toInt = v_21.toInt := (congrArg Int32.toInt (show f_14 0 13 = v_21 from ev_21.symm))
  obtain ⟨v_32, ev_32⟩ : ∃ z : Int32, z = f_14 0 14 := ⟨_, rfl⟩
  have q_33 : 0 ≤ v_32.toInt ∧ v_32.toInt ≤ 120 := by rw [ev_32]; exact hI 0 14
  have q_34 : (f_14 0 14).toInt = v_32.toInt := (congrArg Int32.toInt (show f_14 0 14 = v_32 from ev_32.symm))
  refine sg_calli (va_runV (As := []) (rest := []) ⟨hx, hb, hml, hown, hts⟩ (kX12_byteAt l D ca za h hh f_14 L Q hI H.size) (cwV 0 hts (gw_V (fun _ h => List.mem_cons_of_mem _ h) mw_840 mw_841 mw_842 mw_619 mw_839) rfl rfl rfl (by decide +kernel) ⟨Nat.le_of_ble_eq_true rfl, Nat.le_of_ble_eq_true rfl⟩) (sg_preV (ci := 12) (C := RX12) (T := TX12) (N := 55) hA hK hP hS hZ 0 (by decide) rfl rfl) rfl rfl hl.1 rfl (lv_room (Nat.le_of_ble_eq_true rfl)) dX12_compared_6 ⟨Nat.le_refl _, Nat.le_refl _⟩) hA hS (fun r_38 f_35 L_36 Q_37 H locs hq hP hS => ?_)
  obtain ⟨⟨ef9, eL9, eQ9⟩, hq, p_39⟩ := hq
  rw [ef9, eL9, eQ9] at hP; clear ef9 eL9 eQ9
  refine lv_istore_n (lv' := [(2, .int r_38), (1, .int r_17), (0, .ref (h 0))]) hx hb dX12_compared_9 rfl hl (by decide) rfl (fun ls hl => ?_)
  refine lv_aload_n hx hb dX12_compared_10 rfl (lv_at hl 2 rfl) ?_
  refine sg_get (ci := 12) (v := .int v_27) (C := RX12) (T := TX12) (N := 55) hx hb hts (fun w h => List.mem_cons_of_mem _ (gx_12 w h)) hown hK hP 0 (by decide) rfl rfl 15 (by decide) (hts _ (List.mem_cons_of_mem _ mw_627)) (fun _ h9 => h9) (congrArg (fun z => some (Value.int z)) (show f_14 0 15 = v_27 from ev_27.symm)) dX12_compared_11 ?_
  refine lv_if_ge (tgt := 35) hx hb dX12_compared_14 (by decide) (fun c => ?_) (fun c => ?_)
  · skip
    have c_40 : 0 ≤ v_27.toInt := (by have z := bn_le c; have k1 : (0 : Int32).toInt = 0 := (by decide); omega)
    refine lv_iload_n hx hb dX12_compared_35 rfl (lv_at hl 1 rfl) ?_
    have q_42 : (f_14 0 13).toInt = v_21.toInt := (congrArg Int32.toInt (show f_14 0 13 = v_21 from ev_21.symm))
    have q_43 : (f_14 0 16).toInt = v_24.toInt := (congrArg Int32.toInt (show f_14 0 16 = v_24 from ev_24.symm))
    have q_44 : (f_14 0 15).toInt = v_27.toInt := (congrArg Int32.toInt (show f_14 0 15 = v_27 from ev_27.symm))
    have q_45 : (f_14 0 16).toInt = v_24.toInt := (congrArg Int32.toInt (show f_14 0 16 = v_24 from ev_24.symm))
    exact hret _ _ _ _ (r_17) f_14 L Q dX12_compared_36 hP hS ⟨⟨hI, hF, rfl, rfl⟩, trivial, (by omega), (by omega), (by omega)⟩
  · skip
    have c_41 : v_27.toInt < 0 := (by have z := bn_nle c; have k1 : (0 : Int32).toInt = 0 := (by decide); omega)
    refine lv_iload_n hx hb dX12_compared_17 rfl (lv_at hl 0 rfl) ?_
    refine lv_bipush (v := 60) hx hb dX12_compared_18 (by decide) ?_
    refine lv_icmp_eq (tgt := 37) hx hb dX12_compared_20 (by decide) (fun c => ?_) (fun c => ?_)
    · skip
      have c_46 : r_38.toInt = 60 := (by have z := Int32.toInt_inj.mpr c; have k1 : (60 : Int32).toInt = 60 := (by decide); omega)
      refine lv_aload_n hx hb dX12_compared_37 rfl (lv_at hl 2 rfl) ?_
      refine lv_dup hx hb dX12_compared_38 rfl ?_
      refine sg_get (ci := 12) (v := .int v_21) (C := RX12) (T := TX12) (N := 55) hx hb hts (fun w h => List.mem_cons_of_mem _ (gx_12 w h)) hown hK hP 0 (by decide) rfl rfl 13 (by decide) (hts _ (List.mem_cons_of_mem _ mw_625)) (fun _ h9 => h9) (congrArg (fun z => some (Value.int z)) (show f_14 0 13 = v_21 from ev_21.symm)) dX12_compared_39 ?_
      refine lv_iconst (v := 1) hx hb dX12_compared_42 (by decide) ?_
      refine lv_iadd hx hb dX12_compared_43 ?_
      refine lv_topi (fun v_48 ev_48 => ?_)
      have q_49 : v_48.toInt = v_21.toInt + 1 := by rw [ev_48]; have k1 : (1 : Int32).toInt = 1 := (by decide); exact (bn_addI (by omega) (by omega)).trans (by omega)
      refine sg_put (ci := 12) (x := v_48) (ty := .int) (C := RX12) (T := TX12) (N := 55) hx hb hts (fun w h => List.mem_cons_of_mem _ (gx_12 w h)) tyX12 tyX12_ok nmX12 hown hh hA hK hP hS 0 (by decide) rfl rfl 13 (by decide) (hts _ (List.mem_cons_of_mem _ mw_625)) (fun _ h9 => h9) rfl rfl (by decide +kernel) rfl rfl (Nat.le_of_ble_eq_true rfl) dX12_compared_44 (fun f_50 H locs ef_50 hP hS => ?_)
      have hI : sgI loM hiM f_50 := by rw [ef_50]; exact sgI.put hI 0 13 (show 0 ≤ (v_48 : Int32).toInt ∧ (v_48 : Int32).toInt ≤ 120 from by omega)
      have hF : sgK WkX12_compared_0 f f_50 := sgK.put hF ef_50 (by rfl)
      refine lv_aload_n hx hb dX12_compared_47 rfl (lv_at hl 2 rfl) ?_
      have q_51 : (f_50 0 16).toInt = v_24.toInt := (congrArg Int32.toInt (show f_50 0 16 = v_24 from (by rw [ef_50, sg_up_s, sgu_n (by decide)]; exact ev_24.symm)))
      have q_52 : (f_50 0 15).toInt = v_27.toInt := (congrArg Int32.toInt (show f_50 0 15 = v_27 from (by rw [ef_50, sg_up_s, sgu_n (by decide)]; exact ev_27.symm)))
      have q_53 : (f_50 0 16).toInt = v_24.toInt := (congrArg Int32.toInt (show f_50 0 16 = v_24 from (by rw [ef_50, sg_up_s, sgu_n (by decide)]; exact ev_24.symm)))
      have q_54 : (f_50 0 13).toInt = v_48.toInt := (congrArg Int32.toInt (show f_50 0 13 = v_48 from (by rw [ef_50, sg_up_s, sgu_s])))
      refine sg_calli (va_runV (As := []) (rest := []) ⟨hx, hb, hml, hown, hts⟩ (kX12_sums_0 l D ca za h hh f_50 L Q hI (by omega) (by omega) H.size) (cwV 0 hts (gw_V (fun _ h => List.mem_cons_of_mem _ h) mw_852 mw_853 mw_854 mw_619 mw_851) rfl rfl rfl (by decide +kernel) ⟨Nat.le_of_ble_eq_true rfl, Nat.le_of_ble_eq_true rfl⟩) (sg_preV (ci := 12) (C := RX12) (T := TX12) (N := 55) hA hK hP hS hZ 0 (by decide) rfl rfl) rfl rfl hl.1 rfl (lv_room (Nat.le_of_ble_eq_true rfl)) dX12_compared_48 ⟨Nat.le_refl _, Nat.le_refl _⟩) hA hS (fun r_58 f_55 L_56 Q_57 H locs hq hP hS => ?_)
      obtain ⟨⟨hI, hk_f_55, eL9, eQ9⟩, hq, p_59, p_60, p_61⟩ := hq
      rw [eL9, eQ9] at hP; clear eL9 eQ9
      have hF : sgK WkX12_compared_0 f f_55 := sgK.tr hF hk_f_55 (by decide)
      obtain ⟨v_62, ev_62⟩ : ∃ z : Int32, z = f_55 0 13 := ⟨_, rfl⟩
      have q_63 : 0 ≤ v_62.toInt ∧ v_62.toInt ≤ 120 := by rw [ev_62]; exact hI 0 13
      have q_64 : (f_55 0 13).toInt = v_62.toInt := (congrArg Int32.toInt (show f_55 0 13 = v_62 from ev_62.symm))
      obtain ⟨v_65, ev_65⟩ : ∃ z : Int32, z = f_55 0 16 := ⟨_, rfl⟩
      have q_66 : 0 ≤ v_65.toInt ∧ v_65.toInt ≤ 6 := by rw [ev_65]; exact hI 0 16
      have q_67 : (f_55 0 16).toInt = v_65.toInt := (congrArg Int32.toInt (show f_55 0 16 = v_65 from ev_65.symm))
      obtain ⟨v_68, ev_68⟩ : ∃ z : Int32, z = f_55 0 15 := ⟨_, rfl⟩
      have q_69 : (-1) ≤ v_68.toInt ∧ v_68.toInt ≤ 120 := by rw [ev_68]; exact hI 0 15
      have q_70 : (f_55 0 15).toInt = v_68.toInt := (congrArg Int32.toInt (show f_55 0 15 = v_68 from ev_68.symm))
      have q_71 : (f_55 0 16).toInt = v_65.toInt := (congrArg Int32.toInt (show f_55 0 16 = v_65 from ev_65.symm))
      refine lv_istore_n (lv' := [(3, .int r_58), (2, .int r_38), (1, .int r_17), (0, .ref (h 0))]) hx hb dX12_compared_51 rfl hl (by decide) rfl (fun ls hl => ?_)
      refine lv_iload_n hx hb dX12_compared_52 rfl (lv_at hl 1 rfl) ?_
      refine lv_bipush (v := 60) hx hb dX12_compared_53 (by decide) ?_
      refine lv_icmp_ne (tgt := 66) hx hb dX12_compared_55 (by decide) (fun c => ?_) (fun c => ?_)
      · skip
        exfalso; have c_72 : r_38.toInt ≠ 60 := (by have z := bn_ne c; have k1 : (60 : Int32).toInt = 60 := (by decide); omega); omega
      · skip
        have c_73 : r_38.toInt = 60 := (by have z := Int32.toInt_inj.mpr c; have k1 : (60 : Int32).toInt = 60 := (by decide); omega)
        refine lv_iload_n hx hb dX12_compared_58 rfl (lv_at hl 2 rfl) ?_
        refine lv_iload_n hx hb dX12_compared_59 rfl (lv_at hl 0 rfl) ?_
        refine lv_icmp_ge (tgt := 89) hx hb dX12_compared_60 (by decide) (fun c => ?_) (fun c => ?_)
        · skip
          have c_74 : r_58.toInt ≤ r_17.toInt := (by have z := bn_le c; omega)
          refine lv_iconst (v := 0) hx hb dX12_compared_89 (by decide) ?_
          have q_76 : (f_55 0 13).toInt = v_62.toInt := (congrArg Int32.toInt (show f_55 0 13 = v_62 from ev_62.symm))
          have q_77 : (f_55 0 16).toInt = v_65.toInt := (congrArg Int32.toInt (show f_55 0 16 = v_65 from ev_65.symm))
          have q_78 : (f_55 0 15).toInt = v_68.toInt := (congrArg Int32.toInt (show f_55 0 15 = v_68 from ev_68.symm))
          have q_79 : (f_55 0 16).toInt = v_65.toInt := (congrArg Int32.toInt (show f_55 0 16 = v_65 from ev_65.symm))
          have k99 : (0 : Int32).toInt = 0 := (by decide)
          exact hret _ _ _ _ (0) f_55 L Q dX12_compared_90 hP hS ⟨⟨hI, hF, rfl, rfl⟩, trivial, (by omega), (by omega), (by omega)⟩
        · skip
          have c_75 : r_17.toInt < r_58.toInt := (by have z := bn_nle c; omega)
          refine lv_goto (tgt := 85) hx hb dX12_compared_63 (by decide) ?_
          refine lv_iconst (v := 1) hx hb dX12_compared_85 (by decide) ?_
          refine lv_goto (tgt := 90) hx hb dX12_compared_86 (by decide) ?_
          have q_80 : (f_55 0 13).toInt = v_62.toInt := (congrArg Int32.toInt (show f_55 0 13 = v_62 from ev_62.symm))
          have q_81 : (f_55 0 16).toInt = v_65.toInt := (congrArg Int32.toInt (show f_55 0 16 = v_65 from ev_65.symm))
          have q_82 : (f_55 0 15).toInt = v_68.toInt := (congrArg Int32.toInt (show f_55 0 15 = v_68 from ev_68.symm))
          have q_83 : (f_55 0 16).toInt = v_65.toInt := (congrArg Int32.toInt (show f_55 0 16 = v_65 from ev_65.symm))
          have k99 : (1 : Int32).toInt = 1 := (by decide)
          exact hret _ _ _ _ (1) f_55 L Q dX12_compared_90 hP hS ⟨⟨hI, hF, rfl, rfl⟩, trivial, (by omega), (by omega), (by omega)⟩
    · skip
      have c_47 : r_38.toInt ≠ 60 := (by have z := bn_ne c; have k1 : (60 : Int32).toInt = 60 := (by decide); omega)
      refine lv_iload_n hx hb dX12_compared_23 rfl (lv_at hl 0 rfl) ?_
      refine lv_bipush (v := 61) hx hb dX12_compared_24 (by decide) ?_
      refine lv_icmp_eq (tgt := 37) hx hb dX12_compared_26 (by decide) (fun c => ?_) (fun c => ?_)
      · skip
        have c_84 : r_38.toInt = 61 := (by have z := Int32.toInt_inj.mpr c; have k1 : (61 : Int32).toInt = 61 := (by decide); omega)
        refine lv_aload_n hx hb dX12_compared_37 rfl (lv_at hl 2 rfl) ?_
        refine lv_dup hx hb dX12_compared_38 rfl ?_
        refine sg_get (ci := 12) (v := .int v_21) (C := RX12) (T := TX12) (N := 55) hx hb hts (fun w h => List.mem_cons_of_mem _ (gx_12 w h)) hown hK hP 0 (by decide) rfl rfl 13 (by decide) (hts _ (List.mem_cons_of_mem _ mw_625)) (fun _ h9 => h9) (congrArg (fun z => some (Value.int z)) (show f_14 0 13 = v_21 from ev_21.symm)) dX12_compared_39 ?_
        refine lv_iconst (v := 1) hx hb dX12_compared_42 (by decide) ?_
        refine lv_iadd hx hb dX12_compared_43 ?_
        refine lv_topi (fun v_86 ev_86 => ?_)
        have q_87 : v_86.toInt = v_21.toInt + 1 := by rw [ev_86]; have k1 : (1 : Int32).toInt = 1 := (by decide); exact (bn_addI (by omega) (by omega)).trans (by omega)
        refine sg_put (ci := 12) (x := v_86) (ty := .int) (C := RX12) (T := TX12) (N := 55) hx hb hts (fun w h => List.mem_cons_of_mem _ (gx_12 w h)) tyX12 tyX12_ok nmX12 hown hh hA hK hP hS 0 (by decide) rfl rfl 13 (by decide) (hts _ (List.mem_cons_of_mem _ mw_625)) (fun _ h9 => h9) rfl rfl (by decide +kernel) rfl rfl (Nat.le_of_ble_eq_true rfl) dX12_compared_44 (fun f_88 H locs ef_88 hP hS => ?_)
        have hI : sgI loM hiM f_88 := by rw [ef_88]; exact sgI.put hI 0 13 (show 0 ≤ (v_86 : Int32).toInt ∧ (v_86 : Int32).toInt ≤ 120 from by omega)
        have hF : sgK WkX12_compared_0 f f_88 := sgK.put hF ef_88 (by rfl)
        refine lv_aload_n hx hb dX12_compared_47 rfl (lv_at hl 2 rfl) ?_
        have q_89 : (f_88 0 16).toInt = v_24.toInt := (congrArg Int32.toInt (show f_88 0 16 = v_24 from (by rw [ef_88, sg_up_s, sgu_n (by decide)]; exact ev_24.symm)))
        have q_90 : (f_88 0 15).toInt = v_27.toInt := (congrArg Int32.toInt (show f_88 0 15 = v_27 from (by rw [ef_88, sg_up_s, sgu_n (by decide)]; exact ev_27.symm)))
        have q_91 : (f_88 0 16).toInt = v_24.toInt := (congrArg Int32.toInt (show f_88 0 16 = v_24 from (by rw [ef_88, sg_up_s, sgu_n (by decide)]; exact ev_24.symm)))
        have q_92 : (f_88 0 13).toInt = v_86.toInt := (congrArg Int32.toInt (show f_88 0 13 = v_86 from (by rw [ef_88, sg_up_s, sgu_s])))
        refine sg_calli (va_runV (As := []) (rest := []) ⟨hx, hb, hml, hown, hts⟩ (kX12_sums_0 l D ca za h hh f_88 L Q hI (by omega) (by omega) H.size) (cwV 0 hts (gw_V (fun _ h => List.mem_cons_of_mem _ h) mw_852 mw_853 mw_854 mw_619 mw_851) rfl rfl rfl (by decide +kernel) ⟨Nat.le_of_ble_eq_true rfl, Nat.le_of_ble_eq_true rfl⟩) (sg_preV (ci := 12) (C := RX12) (T := TX12) (N := 55) hA hK hP hS hZ 0 (by decide) rfl rfl) rfl rfl hl.1 rfl (lv_room (Nat.le_of_ble_eq_true rfl)) dX12_compared_48 ⟨Nat.le_refl _, Nat.le_refl _⟩) hA hS (fun r_96 f_93 L_94 Q_95 H locs hq hP hS => ?_)
        obtain ⟨⟨hI, hk_f_93, eL9, eQ9⟩, hq, p_97, p_98, p_99⟩ := hq
        rw [eL9, eQ9] at hP; clear eL9 eQ9
        have hF : sgK WkX12_compared_0 f f_93 := sgK.tr hF hk_f_93 (by decide)
        obtain ⟨v_100, ev_100⟩ : ∃ z : Int32, z = f_93 0 13 := ⟨_, rfl⟩
        have q_101 : 0 ≤ v_100.toInt ∧ v_100.toInt ≤ 120 := by rw [ev_100]; exact hI 0 13
        have q_102 : (f_93 0 13).toInt = v_100.toInt := (congrArg Int32.toInt (show f_93 0 13 = v_100 from ev_100.symm))
        obtain ⟨v_103, ev_103⟩ : ∃ z : Int32, z = f_93 0 16 := ⟨_, rfl⟩
        have q_104 : 0 ≤ v_103.toInt ∧ v_103.toInt ≤ 6 := by rw [ev_103]; exact hI 0 16
        have q_105 : (f_93 0 16).toInt = v_103.toInt := (congrArg Int32.toInt (show f_93 0 16 = v_103 from ev_103.symm))
        obtain ⟨v_106, ev_106⟩ : ∃ z : Int32, z = f_93 0 15 := ⟨_, rfl⟩
        have q_107 : (-1) ≤ v_106.toInt ∧ v_106.toInt ≤ 120 := by rw [ev_106]; exact hI 0 15
        have q_108 : (f_93 0 15).toInt = v_106.toInt := (congrArg Int32.toInt (show f_93 0 15 = v_106 from ev_106.symm))
        have q_109 : (f_93 0 16).toInt = v_103.toInt := (congrArg Int32.toInt (show f_93 0 16 = v_103 from ev_103.symm))
        refine lv_istore_n (lv' := [(3, .int r_96), (2, .int r_38), (1, .int r_17), (0, .ref (h 0))]) hx hb dX12_compared_51 rfl hl (by decide) rfl (fun ls hl => ?_)
        refine lv_iload_n hx hb dX12_compared_52 rfl (lv_at hl 1 rfl) ?_
        refine lv_bipush (v := 60) hx hb dX12_compared_53 (by decide) ?_
        refine lv_icmp_ne (tgt := 66) hx hb dX12_compared_55 (by decide) (fun c => ?_) (fun c => ?_)
        · skip
          have c_110 : r_38.toInt ≠ 60 := (by have z := bn_ne c; have k1 : (60 : Int32).toInt = 60 := (by decide); omega)
          refine lv_iload_n hx hb dX12_compared_66 rfl (lv_at hl 1 rfl) ?_
          refine lv_bipush (v := 61) hx hb dX12_compared_67 (by decide) ?_
          refine lv_icmp_ne (tgt := 80) hx hb dX12_compared_69 (by decide) (fun c => ?_) (fun c => ?_)
          · skip
            exfalso; have c_112 : r_38.toInt ≠ 61 := (by have z := bn_ne c; have k1 : (61 : Int32).toInt = 61 := (by decide); omega); omega
          · skip
            have c_113 : r_38.toInt = 61 := (by have z := Int32.toInt_inj.mpr c; have k1 : (61 : Int32).toInt = 61 := (by decide); omega)
            refine lv_iload_n hx hb dX12_compared_72 rfl (lv_at hl 2 rfl) ?_
            refine lv_iload_n hx hb dX12_compared_73 rfl (lv_at hl 0 rfl) ?_
            refine lv_icmp_ne (tgt := 89) hx hb dX12_compared_74 (by decide) (fun c => ?_) (fun c => ?_)
            · skip
              have c_114 : r_17.toInt ≠ r_96.toInt := (by have z := bn_ne c; omega)
              refine lv_iconst (v := 0) hx hb dX12_compared_89 (by decide) ?_
              have q_116 : (f_93 0 13).toInt = v_100.toInt := (congrArg Int32.toInt (show f_93 0 13 = v_100 from ev_100.symm))
              have q_117 : (f_93 0 16).toInt = v_103.toInt := (congrArg Int32.toInt (show f_93 0 16 = v_103 from ev_103.symm))
              have q_118 : (f_93 0 15).toInt = v_106.toInt := (congrArg Int32.toInt (show f_93 0 15 = v_106 from ev_106.symm))
              have q_119 : (f_93 0 16).toInt = v_103.toInt := (congrArg Int32.toInt (show f_93 0 16 = v_103 from ev_103.symm))
              have k99 : (0 : Int32).toInt = 0 := (by decide)
              exact hret _ _ _ _ (0) f_93 L Q dX12_compared_90 hP hS ⟨⟨hI, hF, rfl, rfl⟩, trivial, (by omega), (by omega), (by omega)⟩
            · skip
              have c_115 : r_17.toInt = r_96.toInt := (by have z := Int32.toInt_inj.mpr c; omega)
              refine lv_goto (tgt := 85) hx hb dX12_compared_77 (by decide) ?_
              refine lv_iconst (v := 1) hx hb dX12_compared_85 (by decide) ?_
              refine lv_goto (tgt := 90) hx hb dX12_compared_86 (by decide) ?_
              have q_120 : (f_93 0 13).toInt = v_100.toInt := (congrArg Int32.toInt (show f_93 0 13 = v_100 from ev_100.symm))
              have q_121 : (f_93 0 16).toInt = v_103.toInt := (congrArg Int32.toInt (show f_93 0 16 = v_103 from ev_103.symm))
              have q_122 : (f_93 0 15).toInt = v_106.toInt := (congrArg Int32.toInt (show f_93 0 15 = v_106 from ev_106.symm))
              have q_123 : (f_93 0 16).toInt = v_103.toInt := (congrArg Int32.toInt (show f_93 0 16 = v_103 from ev_103.symm))
              have k99 : (1 : Int32).toInt = 1 := (by decide)
              exact hret _ _ _ _ (1) f_93 L Q dX12_compared_90 hP hS ⟨⟨hI, hF, rfl, rfl⟩, trivial, (by omega), (by omega), (by omega)⟩
        · skip
          exfalso; have c_111 : r_38.toInt = 60 := (by have z := Int32.toInt_inj.mpr c; have k1 : (60 : Int32).toInt = 60 := (by decide); omega); omega
      · skip
        have c_85 : r_38.toInt ≠ 61 := (by have z := bn_ne c; have k1 : (61 : Int32).toInt = 61 := (by decide); omega)
        refine lv_iload_n hx hb dX12_compared_29 rfl (lv_at hl 0 rfl) ?_
        refine lv_bipush (v := 62) hx hb dX12_compared_30 (by decide) ?_
        refine lv_icmp_eq (tgt := 37) hx hb dX12_compared_32 (by decide) (fun c => ?_) (fun c => ?_)
        · skip
          have c_124 : r_38.toInt = 62 := (by have z := Int32.toInt_inj.mpr c; have k1 : (62 : Int32).toInt = 62 := (by decide); omega)
          refine lv_aload_n hx hb dX12_compared_37 rfl (lv_at hl 2 rfl) ?_
          refine lv_dup hx hb dX12_compared_38 rfl ?_
          refine sg_get (ci := 12) (v := .int v_21) (C := RX12) (T := TX12) (N := 55) hx hb hts (fun w h => List.mem_cons_of_mem _ (gx_12 w h)) hown hK hP 0 (by decide) rfl rfl 13 (by decide) (hts _ (List.mem_cons_of_mem _ mw_625)) (fun _ h9 => h9) (congrArg (fun z => some (Value.int z)) (show f_14 0 13 = v_21 from ev_21.symm)) dX12_compared_39 ?_
          refine lv_iconst (v := 1) hx hb dX12_compared_42 (by decide) ?_
          refine lv_iadd hx hb dX12_compared_43 ?_
          refine lv_topi (fun v_126 ev_126 => ?_)
          have q_127 : v_126.toInt = v_21.toInt + 1 := by rw [ev_126]; have k1 : (1 : Int32).toInt = 1 := (by decide); exact (bn_addI (by omega) (by omega)).trans (by omega)
          refine sg_put (ci := 12) (x := v_126) (ty := .int) (C := RX12) (T := TX12) (N := 55) hx hb hts (fun w h => List.mem_cons_of_mem _ (gx_12 w h)) tyX12 tyX12_ok nmX12 hown hh hA hK hP hS 0 (by decide) rfl rfl 13 (by decide) (hts _ (List.mem_cons_of_mem _ mw_625)) (fun _ h9 => h9) rfl rfl (by decide +kernel) rfl rfl (Nat.le_of_ble_eq_true rfl) dX12_compared_44 (fun f_128 H locs ef_128 hP hS => ?_)
          have hI : sgI loM hiM f_128 := by rw [ef_128]; exact sgI.put hI 0 13 (show 0 ≤ (v_126 : Int32).toInt ∧ (v_126 : Int32).toInt ≤ 120 from by omega)
          have hF : sgK WkX12_compared_0 f f_128 := sgK.put hF ef_128 (by rfl)
          refine lv_aload_n hx hb dX12_compared_47 rfl (lv_at hl 2 rfl) ?_
          have q_129 : (f_128 0 16).toInt = v_24.toInt := (congrArg Int32.toInt (show f_128 0 16 = v_24 from (by rw [ef_128, sg_up_s, sgu_n (by decide)]; exact ev_24.symm)))
          have q_130 : (f_128 0 15).toInt = v_27.toInt := (congrArg Int32.toInt (show f_128 0 15 = v_27 from (by rw [ef_128, sg_up_s, sgu_n (by decide)]; exact ev_27.symm)))
          have q_131 : (f_128 0 16).toInt = v_24.toInt := (congrArg Int32.toInt (show f_128 0 16 = v_24 from (by rw [ef_128, sg_up_s, sgu_n (by decide)]; exact ev_24.symm)))
          have q_132 : (f_128 0 13).toInt = v_126.toInt := (congrArg Int32.toInt (show f_128 0 13 = v_126 from (by rw [ef_128, sg_up_s, sgu_s])))
          refine sg_calli (va_runV (As := []) (rest := []) ⟨hx, hb, hml, hown, hts⟩ (kX12_sums_0 l D ca za h hh f_128 L Q hI (by omega) (by omega) H.size) (cwV 0 hts (gw_V (fun _ h => List.mem_cons_of_mem _ h) mw_852 mw_853 mw_854 mw_619 mw_851) rfl rfl rfl (by decide +kernel) ⟨Nat.le_of_ble_eq_true rfl, Nat.le_of_ble_eq_true rfl⟩) (sg_preV (ci := 12) (C := RX12) (T := TX12) (N := 55) hA hK hP hS hZ 0 (by decide) rfl rfl) rfl rfl hl.1 rfl (lv_room (Nat.le_of_ble_eq_true rfl)) dX12_compared_48 ⟨Nat.le_refl _, Nat.le_refl _⟩) hA hS (fun r_136 f_133 L_134 Q_135 H locs hq hP hS => ?_)
          obtain ⟨⟨hI, hk_f_133, eL9, eQ9⟩, hq, p_137, p_138, p_139⟩ := hq
          rw [eL9, eQ9] at hP; clear eL9 eQ9
          have hF : sgK WkX12_compared_0 f f_133 := sgK.tr hF hk_f_133 (by decide)
          obtain ⟨v_140, ev_140⟩ : ∃ z : Int32, z = f_133 0 13 := ⟨_, rfl⟩
          have q_141 : 0 ≤ v_140.toInt ∧ v_140.toInt ≤ 120 := by rw [ev_140]; exact hI 0 13
          have q_142 : (f_133 0 13).toInt = v_140.toInt := (congrArg Int32.toInt (show f_133 0 13 = v_140 from ev_140.symm))
          obtain ⟨v_143, ev_143⟩ : ∃ z : Int32, z = f_133 0 16 := ⟨_, rfl⟩
          have q_144 : 0 ≤ v_143.toInt ∧ v_143.toInt ≤ 6 := by rw [ev_143]; exact hI 0 16
          have q_145 : (f_133 0 16).toInt = v_143.toInt := (congrArg Int32.toInt (show f_133 0 16 = v_143 from ev_143.symm))
          obtain ⟨v_146, ev_146⟩ : ∃ z : Int32, z = f_133 0 15 := ⟨_, rfl⟩
          have q_147 : (-1) ≤ v_146.toInt ∧ v_146.toInt ≤ 120 := by rw [ev_146]; exact hI 0 15
          have q_148 : (f_133 0 15).toInt = v_146.toInt := (congrArg Int32.toInt (show f_133 0 15 = v_146 from ev_146.symm))
          have q_149 : (f_133 0 16).toInt = v_143.toInt := (congrArg Int32.toInt (show f_133 0 16 = v_143 from ev_143.symm))
          refine lv_istore_n (lv' := [(3, .int r_136), (2, .int r_38), (1, .int r_17), (0, .ref (h 0))]) hx hb dX12_compared_51 rfl hl (by decide) rfl (fun ls hl => ?_)
          refine lv_iload_n hx hb dX12_compared_52 rfl (lv_at hl 1 rfl) ?_
          refine lv_bipush (v := 60) hx hb dX12_compared_53 (by decide) ?_
          refine lv_icmp_ne (tgt := 66) hx hb dX12_compared_55 (by decide) (fun c => ?_) (fun c => ?_)
          · skip
            have c_150 : r_38.toInt ≠ 60 := (by have z := bn_ne c; have k1 : (60 : Int32).toInt = 60 := (by decide); omega)
            refine lv_iload_n hx hb dX12_compared_66 rfl (lv_at hl 1 rfl) ?_
            refine lv_bipush (v := 61) hx hb dX12_compared_67 (by decide) ?_
            refine lv_icmp_ne (tgt := 80) hx hb dX12_compared_69 (by decide) (fun c => ?_) (fun c => ?_)
            · skip
              have c_152 : r_38.toInt ≠ 61 := (by have z := bn_ne c; have k1 : (61 : Int32).toInt = 61 := (by decide); omega)
              refine lv_iload_n hx hb dX12_compared_80 rfl (lv_at hl 2 rfl) ?_
              refine lv_iload_n hx hb dX12_compared_81 rfl (lv_at hl 0 rfl) ?_
              refine lv_icmp_le (tgt := 89) hx hb dX12_compared_82 (by decide) (fun c => ?_) (fun c => ?_)
              · skip
                have c_154 : r_17.toInt ≤ r_136.toInt := (by have z := bn_le c; omega)
                refine lv_iconst (v := 0) hx hb dX12_compared_89 (by decide) ?_
                have q_156 : (f_133 0 13).toInt = v_140.toInt := (congrArg Int32.toInt (show f_133 0 13 = v_140 from ev_140.symm))
                have q_157 : (f_133 0 16).toInt = v_143.toInt := (congrArg Int32.toInt (show f_133 0 16 = v_143 from ev_143.symm))
                have q_158 : (f_133 0 15).toInt = v_146.toInt := (congrArg Int32.toInt (show f_133 0 15 = v_146 from ev_146.symm))
                have q_159 : (f_133 0 16).toInt = v_143.toInt := (congrArg Int32.toInt (show f_133 0 16 = v_143 from ev_143.symm))
                have k99 : (0 : Int32).toInt = 0 := (by decide)
                exact hret _ _ _ _ (0) f_133 L Q dX12_compared_90 hP hS ⟨⟨hI, hF, rfl, rfl⟩, trivial, (by omega), (by omega), (by omega)⟩
              · skip
                have c_155 : r_136.toInt < r_17.toInt := (by have z := bn_nle c; omega)
                refine lv_iconst (v := 1) hx hb dX12_compared_85 (by decide) ?_
                refine lv_goto (tgt := 90) hx hb dX12_compared_86 (by decide) ?_
                have q_160 : (f_133 0 13).toInt = v_140.toInt := (congrArg Int32.toInt (show f_133 0 13 = v_140 from ev_140.symm))
                have q_161 : (f_133 0 16).toInt = v_143.toInt := (congrArg Int32.toInt (show f_133 0 16 = v_143 from ev_143.symm))
                have q_162 : (f_133 0 15).toInt = v_146.toInt := (congrArg Int32.toInt (show f_133 0 15 = v_146 from ev_146.symm))
                have q_163 : (f_133 0 16).toInt = v_143.toInt := (congrArg Int32.toInt (show f_133 0 16 = v_143 from ev_143.symm))
                have k99 : (1 : Int32).toInt = 1 := (by decide)
                exact hret _ _ _ _ (1) f_133 L Q dX12_compared_90 hP hS ⟨⟨hI, hF, rfl, rfl⟩, trivial, (by omega), (by omega), (by omega)⟩
            · skip
              exfalso; have c_153 : r_38.toInt = 61 := (by have z := Int32.toInt_inj.mpr c; have k1 : (61 : Int32).toInt = 61 := (by decide); omega); omega
          · skip
            exfalso; have c_151 : r_38.toInt = 60 := (by have z := Int32.toInt_inj.mpr c; have k1 : (60 : Int32).toInt = 60 := (by decide); omega); omega
        · skip
          have c_125 : r_38.toInt ≠ 62 := (by have z := bn_ne c; have k1 : (62 : Int32).toInt = 62 := (by decide); omega)
          refine lv_iload_n hx hb dX12_compared_35 rfl (lv_at hl 1 rfl) ?_
          have q_164 : (f_14 0 13).toInt = v_21.toInt := (congrArg Int32.toInt (show f_14 0 13 = v_21 from ev_21.symm))
          have q_165 : (f_14 0 16).toInt = v_24.toInt := (congrArg Int32.toInt (show f_14 0 16 = v_24 from ev_24.symm))
          have q_166 : (f_14 0 15).toInt = v_27.toInt := (congrArg Int32.toInt (show f_14 0 15 = v_27 from ev_27.symm))
          have q_167 : (f_14 0 16).toInt = v_24.toInt := (congrArg Int32.toInt (show f_14 0 16 = v_24 from ev_24.symm))
          exact hret _ _ _ _ (r_17) f_14 L Q dX12_compared_36 hP hS ⟨⟨hI, hF, rfl, rfl⟩, trivial, (by omega), (by omega), (by omega)⟩

abbrev WkX12_both_0 : List (Nat × Nat × Option Nat) := [(0, 0, some 13), (0, 0, some 15), (0, 0, some 16)]
set_option maxHeartbeats 4000000 in
set_option maxRecDepth 100000 in
theorem kX12_both_0 (l : Launch) (D : va_G) (ca : Nat → ClassId) (za h : Nat → Nat) (hh : sgH 26 h) (f : sg_F) (L : sg_L) (Q : sg_Q) (hI : sgI loM hiM f) (p0 : 0 ≤ (f 0 16).toInt) (p1 : 0 ≤ (f 0 15).toInt ∨ (f 0 16).toInt = 0) (sz : Nat) : Met l yX12_both gwX12_both { frames := 41, cells := 0, slots := 0, locals := 935 } (sgP D vwCl (tyX ca) 26 h (eM ca h) zcM za f L Q sz [.ref (h 0)]) (sgQi D vwCl 26 h (eM ca h) sz (fun r f1 L1 Q1 => ((sgI loM hiM f1 ∧ sgK WkX12_both_0 f f1 ∧ L1 = L ∧ Q1 = Q) ∧ True ∧ ((f 0 13).toInt ≤ (f1 0 13).toInt) ∧ (0 ≤ (f1 0 16).toInt) ∧ (0 ≤ (f1 0 15).toInt ∨ (f1 0 16).toInt = 0)))) 0 0 (sgA 26 h sz) := by
  refine sg_ofWi (cc := cX12_both) (maxL := 3) RX12 (by decide) rfl rfl (Nat.le_of_ble_eq_true rfl) ?_
  intro p e s m below meth cd Qz ls hx hb hml hown hts hK hZ hP hS hl hret
  have hA := sgY.self (n := 26) (h := h) (sz := s.heap.size)
  have hl : lv_has ls 3 [(0, .ref (h 0))] := hl
  obtain ⟨H, hH⟩ : ∃ z : Heap, z = s.heap := ⟨_, rfl⟩
  obtain ⟨locs, hlo⟩ : ∃ z : List Loc, z = [] := ⟨_, rfl⟩
  have hP : va_P D vwCl (sgw 26 h (eM ca h) f L Q) H := by rw [hH]; exact hP
  have hS : va_S (sgA 26 h s.heap.size) s.heap H locs := by rw [hH, hlo]; exact hS
  suffices hgo : W p l e ({ frames := 41, cells := 0, slots := 0, locals := 935 }) s m ([.ref (h 0)] : List Value).toArray below meth cd H locs 0 0 Qz (F0 m 0 ls []) by rw [hH, hlo] at hgo; exact hgo
  clear hH hlo
  obtain ⟨v_1, ev_1⟩ : ∃ z : Int32, z = f 0 16 := ⟨_, rfl⟩
  have q_2 : 0 ≤ v_1.toInt ∧ v_1.toInt ≤ 6 := by rw [ev_1]; exact hI 0 16
  obtain ⟨v_3, ev_3⟩ : ∃ z : Int32, z = f 0 15 := ⟨_, rfl⟩
  have q_4 : (-1) ≤ v_3.toInt ∧ v_3.toInt ≤ 120 := by rw [ev_3]; exact hI 0 15
  obtain ⟨v_5, ev_5⟩ : ∃ z : Int32, z = f 0 13 := ⟨_, rfl⟩
  have q_6 : 0 ≤ v_5.toInt ∧ v_5.toInt ≤ 120 := by rw [ev_5]; exact hI 0 13
  have o_7 : (f 0 16).toInt = v_1.toInt := (congrArg Int32.toInt (show f 0 16 = v_1 from ev_1.symm))
  have o_8 : (f 0 15).toInt = v_3.toInt := (congrArg Int32.toInt (show f 0 15 = v_3 from ev_3.symm))
  have o_9 : (f 0 13).toInt = v_5.toInt := (congrArg Int32.toInt (show f 0 13 = v_5 from ev_5.symm))
  have hF : sgK WkX12_both_0 f f := sgK.rf
  have loop_5 : ∀ (n_5 : Nat) (y1_5 : Int32) (fp_5 : sg_F) (H : Heap) (locs : List Loc) (ls : Array Slot), 120 - (fp_5 0 13).toInt < (n_5 : Int) → (f 0 13).toInt ≤ (fp_5 0 13).toInt → 0 ≤ (fp_5 0 16).toInt → 0 ≤ (fp_5 0 15).toInt ∨ (fp_5 0 16).toInt = 0 → sgI loM hiM fp_5 → sgK WkX12_both_0 f fp_5 → va_P D vwCl (sgw 26 h (eM ca h) fp_5 L Q) H → va_S (sgA 26 h s.heap.size) s.heap H locs → lv_has ls 3 [(0, .ref (h 0)), (1, .int y1_5)] → W p l e ({ frames := 41, cells := 0, slots := 0, locals := 935 }) s m ([.ref (h 0)] : List Value).toArray below meth cd H locs 0 0 Qz (F0 m 5 ls []) := by
    intro n_5
    induction n_5 with
    | zero => intro y1_5 fp_5 H locs ls hm_5 hg0_5 hg1_5 hg2_5 hI hF hP hS hl; have zb := (show 0 ≤ (fp_5 0 13).toInt ∧ (fp_5 0 13).toInt ≤ 120 from hI 0 13); exact absurd hm_5 (by omega)
    | succ n_5 ih_5 =>
      intro y1_5 fp_5 H locs ls hm_5 hg0_5 hg1_5 hg2_5 hI hF hP hS hl
      obtain ⟨v_10, ev_10⟩ : ∃ z : Int32, z = fp_5 0 13 := ⟨_, rfl⟩
      have q_11 : 0 ≤ v_10.toInt ∧ v_10.toInt ≤ 120 := by rw [ev_10]; exact hI 0 13
      have q_12 : (fp_5 0 13).toInt = v_10.toInt := by rw [ev_10]
      obtain ⟨v_13, ev_13⟩ : ∃ z : Int32, z = fp_5 0 16 := ⟨_, rfl⟩
      have q_14 : 0 ≤ v_13.toInt ∧ v_13.toInt ≤ 6 := by rw [ev_13]; exact hI 0 16
      have q_15 : (fp_5 0 16).toInt = v_13.toInt := by rw [ev_13]
      obtain ⟨v_16, ev_16⟩ : ∃ z : Int32, z = fp_5 0 15 := ⟨_, rfl⟩
      have q_17 : (-1) ≤ v_16.toInt ∧ v_16.toInt ≤ 120 := by rw [ev_16]; exact hI 0 15
      have q_18 : (fp_5 0 15).toInt = v_16.toInt := by rw [ev_16]
      refine lv_aload_n hx hb dX12_both_5 rfl (lv_at hl 0 rfl) ?_
      refine lv_bipush (v := 38) hx hb dX12_both_6 (by decide) ?_
      have q_19 : (fp_5 0 15).toInt = v_16.toInt := (congrArg Int32.toInt (show fp_5 0 15 = v_16 from ev_16.symm))
      have q_20 : (fp_5 0 13).toInt = v_10.toInt := (congrArg Int32.toInt (show fp_5 0 13 = v_10 from ev_10.symm))
      obtain ⟨v_21, ev_21⟩ : ∃ z : Int32, z = fp_5 0 14 := ⟨_, rfl⟩
      have q_22 : 0 ≤ v_21.toInt ∧ v_21.toInt ≤ 120 := by rw [ev_21]; exact hI 0 14
      have q_23 : (fp_5 0 14).toInt = v_21.toInt := (congrArg Int32.toInt (show fp_5 0 14 = v_21 from ev_21.symm))
      have q_24 : (fp_5 0 13).toInt = v_10.toInt := (congrArg Int32.toInt (show fp_5 0 13 = v_10 from ev_10.symm))
      have q_25 : (fp_5 0 13).toInt = v_10.toInt := (congrArg Int32.toInt (show fp_5 0 13 = v_10 from ev_10.symm))
      refine sg_calli (va_runV (As := [.int 38]) (rest := []) ⟨hx, hb, hml, hown, hts⟩ (kX12_takes_38 l D ca za h hh fp_5 L Q hI H.size) (cwV 1 hts (gw_V (fun _ h => List.mem_cons_of_mem _ h) mw_877 mw_878 mw_879 mw_619 mw_876) rfl rfl rfl (by decide +kernel) ⟨Nat.le_of_ble_eq_true rfl, Nat.le_of_ble_eq_true rfl⟩) (sg_preV (ci := 12) (C := RX12) (T := TX12) (N := 55) hA hK hP hS hZ 0 (by decide) rfl rfl) rfl rfl hl.1 rfl (lv_room (Nat.le_of_ble_eq_true rfl)) dX12_both_8 ⟨Nat.le_refl _, Nat.le_refl _⟩) hA hS (fun r_29 f_26 L_27 Q_28 H locs hq hP hS => ?_)
      obtain ⟨⟨hI, hk_f_26, eL9, eQ9⟩, hq⟩ := hq
      rw [eL9, eQ9] at hP; clear eL9 eQ9
      have hF : sgK WkX12_both_0 f f_26 := sgK.tr hF hk_f_26 (by decide)
      obtain ⟨v_30, ev_30⟩ : ∃ z : Int32, z = f_26 0 13 := ⟨_, rfl⟩
      have q_31 : 0 ≤ v_30.toInt ∧ v_30.toInt ≤ 120 := by rw [ev_30]; exact hI 0 13
      have q_32 : (f_26 0 13).toInt = v_30.toInt := (congrArg Int32.toInt (show f_26 0 13 = v_30 from ev_30.symm))
      have q_33 : (f_26 0 13).toInt = v_30.toInt := (congrArg Int32.toInt (show f_26 0 13 = v_30 from ev_30.symm))
      have k_34 : (38 : Int32).toInt = 38 := by decide
      rcases hq with ⟨rfl, hq⟩ | ⟨rfl, hq⟩
      · skip
        have q_35 := hq
        refine lv_if_eq (tgt := 36) hx hb dX12_both_11 (by decide) (fun c => absurd c (by decide)) (fun c => ?_)
        refine lv_aload_n hx hb dX12_both_14 rfl (lv_at hl 0 rfl) ?_
        have q_36 : (f_26 0 16).toInt = v_13.toInt := (congrArg Int32.toInt (show f_26 0 16 = v_13 from ((hk_f_26 0 16 (by decide)).trans ev_13.symm)))
        have q_37 : (f_26 0 15).toInt = v_16.toInt := (congrArg Int32.toInt (show f_26 0 15 = v_16 from ((hk_f_26 0 15 (by decide)).trans ev_16.symm)))
        have q_38 : (f_26 0 16).toInt = v_13.toInt := (congrArg Int32.toInt (show f_26 0 16 = v_13 from ((hk_f_26 0 16 (by decide)).trans ev_13.symm)))
        have q_39 : (f_26 0 13).toInt = v_30.toInt := (congrArg Int32.toInt (show f_26 0 13 = v_30 from ev_30.symm))
        refine sg_calli (va_runV (As := []) (rest := []) ⟨hx, hb, hml, hown, hts⟩ (kX12_compared_0 l D ca za h hh f_26 L Q hI (by omega) (by omega) H.size) (cwV 0 hts (gw_V (fun _ h => List.mem_cons_of_mem _ h) mw_856 mw_857 mw_858 mw_619 mw_855) rfl rfl rfl (by decide +kernel) ⟨Nat.le_of_ble_eq_true rfl, Nat.le_of_ble_eq_true rfl⟩) (sg_preV (ci := 12) (C := RX12) (T := TX12) (N := 55) hA hK hP hS hZ 0 (by decide) rfl rfl) rfl rfl hl.1 rfl (lv_room (Nat.le_of_ble_eq_true rfl)) dX12_both_15 ⟨Nat.le_refl _, Nat.le_refl _⟩) hA hS (fun r_43 f_40 L_41 Q_42 H locs hq hP hS => ?_)
        obtain ⟨⟨hI, hk_f_40, eL9, eQ9⟩, hq, p_44, p_45, p_46⟩ := hq
        rw [eL9, eQ9] at hP; clear eL9 eQ9
        have hF : sgK WkX12_both_0 f f_40 := sgK.tr hF hk_f_40 (by decide)
        obtain ⟨v_47, ev_47⟩ : ∃ z : Int32, z = f_40 0 13 := ⟨_, rfl⟩
        have q_48 : 0 ≤ v_47.toInt ∧ v_47.toInt ≤ 120 := by rw [ev_47]; exact hI 0 13
        have q_49 : (f_40 0 13).toInt = v_47.toInt := (congrArg Int32.toInt (show f_40 0 13 = v_47 from ev_47.symm))
        obtain ⟨v_50, ev_50⟩ : ∃ z : Int32, z = f_40 0 16 := ⟨_, rfl⟩
        have q_51 : 0 ≤ v_50.toInt ∧ v_50.toInt ≤ 6 := by rw [ev_50]; exact hI 0 16
        have q_52 : (f_40 0 16).toInt = v_50.toInt := (congrArg Int32.toInt (show f_40 0 16 = v_50 from ev_50.symm))
        obtain ⟨v_53, ev_53⟩ : ∃ z : Int32, z = f_40 0 15 := ⟨_, rfl⟩
        have q_54 : (-1) ≤ v_53.toInt ∧ v_53.toInt ≤ 120 := by rw [ev_53]; exact hI 0 15
        have q_55 : (f_40 0 15).toInt = v_53.toInt := (congrArg Int32.toInt (show f_40 0 15 = v_53 from ev_53.symm))
        have q_56 : (f_40 0 16).toInt = v_50.toInt := (congrArg Int32.toInt (show f_40 0 16 = v_50 from ev_50.symm))
        refine lv_istore_n (lv' := [(2, .int r_43), (0, .ref (h 0)), (1, .int y1_5)]) hx hb dX12_both_18 rfl hl (by decide) rfl (fun ls hl => ?_)
        refine lv_iload_n hx hb dX12_both_19 rfl (lv_at hl 2 rfl) ?_
        refine lv_if_eq (tgt := 31) hx hb dX12_both_20 (by decide) (fun c => ?_) (fun c => ?_)
        · skip
          have c_57 : y1_5.toInt = 0 := (by have z := Int32.toInt_inj.mpr c; have k1 : (0 : Int32).toInt = 0 := (by decide); omega)
          refine lv_iconst (v := 0) hx hb dX12_both_31 (by decide) ?_
          refine lv_istore_n (lv' := [(1, .int 0), (2, .int r_43), (0, .ref (h 0))]) hx hb dX12_both_32 rfl hl (by decide) rfl (fun ls hl => ?_)
          refine lv_goto (tgt := 5) hx hb dX12_both_33 (by decide) ?_
          exact ih_5 0 f_40 _ _ _ (by have kc0 : (0 : Int32).toInt = 0 := (by decide); have zz0_13 : (f_40 0 13).toInt = v_47.toInt := (congrArg Int32.toInt (show f_40 0 13 = v_47 from ev_47.symm)); omega) (by have kc0 : (0 : Int32).toInt = 0 := (by decide); have zz0_13 : (f_40 0 13).toInt = v_47.toInt := (congrArg Int32.toInt (show f_40 0 13 = v_47 from ev_47.symm)); omega) (by have kc0 : (0 : Int32).toInt = 0 := (by decide); have zz0_16 : (f_40 0 16).toInt = v_50.toInt := (congrArg Int32.toInt (show f_40 0 16 = v_50 from ev_50.symm)); omega) (by have kc0 : (0 : Int32).toInt = 0 := (by decide); have zz0_15 : (f_40 0 15).toInt = v_53.toInt := (congrArg Int32.toInt (show f_40 0 15 = v_53 from ev_53.symm)); have zz0_16 : (f_40 0 16).toInt = v_50.toInt := (congrArg Int32.toInt (show f_40 0 16 = v_50 from ev_50.symm)); omega) hI hF hP hS (lv_sub hl [2, 0] rfl)
        · skip
          have c_58 : y1_5.toInt ≠ 0 := (by have z := bn_ne c; have k1 : (0 : Int32).toInt = 0 := (by decide); omega)
          refine lv_iload_n hx hb dX12_both_23 rfl (lv_at hl 0 rfl) ?_
          refine lv_if_eq (tgt := 31) hx hb dX12_both_24 (by decide) (fun c => ?_) (fun c => ?_)
          · skip
            have c_59 : r_43.toInt = 0 := (by have z := Int32.toInt_inj.mpr c; have k1 : (0 : Int32).toInt = 0 := (by decide); omega)
            refine lv_iconst (v := 0) hx hb dX12_both_31 (by decide) ?_
            refine lv_istore_n (lv' := [(1, .int 0), (2, .int r_43), (0, .ref (h 0))]) hx hb dX12_both_32 rfl hl (by decide) rfl (fun ls hl => ?_)
            refine lv_goto (tgt := 5) hx hb dX12_both_33 (by decide) ?_
            exact ih_5 0 f_40 _ _ _ (by have kc0 : (0 : Int32).toInt = 0 := (by decide); have zz0_13 : (f_40 0 13).toInt = v_47.toInt := (congrArg Int32.toInt (show f_40 0 13 = v_47 from ev_47.symm)); omega) (by have kc0 : (0 : Int32).toInt = 0 := (by decide); have zz0_13 : (f_40 0 13).toInt = v_47.toInt := (congrArg Int32.toInt (show f_40 0 13 = v_47 from ev_47.symm)); omega) (by have kc0 : (0 : Int32).toInt = 0 := (by decide); have zz0_16 : (f_40 0 16).toInt = v_50.toInt := (congrArg Int32.toInt (show f_40 0 16 = v_50 from ev_50.symm)); omega) (by have kc0 : (0 : Int32).toInt = 0 := (by decide); have zz0_15 : (f_40 0 15).toInt = v_53.toInt := (congrArg Int32.toInt (show f_40 0 15 = v_53 from ev_53.symm)); have zz0_16 : (f_40 0 16).toInt = v_50.toInt := (congrArg Int32.toInt (show f_40 0 16 = v_50 from ev_50.symm)); omega) hI hF hP hS (lv_sub hl [2, 0] rfl)
          · skip
            have c_60 : r_43.toInt ≠ 0 := (by have z := bn_ne c; have k1 : (0 : Int32).toInt = 0 := (by decide); omega)
            refine lv_iconst (v := 1) hx hb dX12_both_27 (by decide) ?_
            refine lv_goto (tgt := 32) hx hb dX12_both_28 (by decide) ?_
            refine lv_istore_n (lv' := [(1, .int 1), (2, .int r_43), (0, .ref (h 0))]) hx hb dX12_both_32 rfl hl (by decide) rfl (fun ls hl => ?_)
            refine lv_goto (tgt := 5) hx hb dX12_both_33 (by decide) ?_
            exact ih_5 1 f_40 _ _ _ (by have kc0 : (1 : Int32).toInt = 1 := (by decide); have zz0_13 : (f_40 0 13).toInt = v_47.toInt := (congrArg Int32.toInt (show f_40 0 13 = v_47 from ev_47.symm)); omega) (by have kc0 : (1 : Int32).toInt = 1 := (by decide); have zz0_13 : (f_40 0 13).toInt = v_47.toInt := (congrArg Int32.toInt (show f_40 0 13 = v_47 from ev_47.symm)); omega) (by have kc0 : (1 : Int32).toInt = 1 := (by decide); have zz0_16 : (f_40 0 16).toInt = v_50.toInt := (congrArg Int32.toInt (show f_40 0 16 = v_50 from ev_50.symm)); omega) (by have kc0 : (1 : Int32).toInt = 1 := (by decide); have zz0_15 : (f_40 0 15).toInt = v_53.toInt := (congrArg Int32.toInt (show f_40 0 15 = v_53 from ev_53.symm)); have zz0_16 : (f_40 0 16).toInt = v_50.toInt := (congrArg Int32.toInt (show f_40 0 16 = v_50 from ev_50.symm)); omega) hI hF hP hS (lv_sub hl [2, 0] rfl)
      · skip
        have q_61 := hq
        refine lv_if_eq (tgt := 36) hx hb dX12_both_11 (by decide) (fun c => ?_) (fun c => absurd c (by decide))
        refine lv_iload_n hx hb dX12_both_36 rfl (lv_at hl 1 rfl) ?_
        have q_62 : (f_26 0 13).toInt = v_30.toInt := (congrArg Int32.toInt (show f_26 0 13 = v_30 from ev_30.symm))
        have q_63 : (f_26 0 16).toInt = v_13.toInt := (congrArg Int32.toInt (show f_26 0 16 = v_13 from ((hk_f_26 0 16 (by decide)).trans ev_13.symm)))
        have q_64 : (f_26 0 15).toInt = v_16.toInt := (congrArg Int32.toInt (show f_26 0 15 = v_16 from ((hk_f_26 0 15 (by decide)).trans ev_16.symm)))
        have q_65 : (f_26 0 16).toInt = v_13.toInt := (congrArg Int32.toInt (show f_26 0 16 = v_13 from ((hk_f_26 0 16 (by decide)).trans ev_13.symm)))
        exact hret _ _ _ _ (y1_5) f_26 L Q dX12_both_37 hP hS ⟨⟨hI, hF, rfl, rfl⟩, trivial, (by omega), (by omega), (by omega)⟩
  refine lv_aload_n hx hb dX12_both_0 rfl (lv_at hl 0 rfl) ?_
  have q_66 : (f 0 16).toInt = v_1.toInt := (congrArg Int32.toInt (show f 0 16 = v_1 from ev_1.symm))
  have q_67 : (f 0 15).toInt = v_3.toInt := (congrArg Int32.toInt (show f 0 15 = v_3 from ev_3.symm))
  have q_68 : (f 0 16).toInt = v_1.toInt := (congrArg Int32.toInt (show f 0 16 = v_1 from ev_1.symm))
  have q_69 : (f 0 13).toInt = v_5.toInt := (congrArg Int32.toInt (show f 0 13 = v_5 from ev_5.symm))
  refine sg_calli (va_runV (As := []) (rest := []) ⟨hx, hb, hml, hown, hts⟩ (kX12_compared_0 l D ca za h hh f L Q hI (by omega) (by omega) H.size) (cwV 0 hts (gw_V (fun _ h => List.mem_cons_of_mem _ h) mw_856 mw_857 mw_858 mw_619 mw_855) rfl rfl rfl (by decide +kernel) ⟨Nat.le_of_ble_eq_true rfl, Nat.le_of_ble_eq_true rfl⟩) (sg_preV (ci := 12) (C := RX12) (T := TX12) (N := 55) hA hK hP hS hZ 0 (by decide) rfl rfl) rfl rfl hl.1 rfl (lv_room (Nat.le_of_ble_eq_true rfl)) dX12_both_1 ⟨Nat.le_refl _, Nat.le_refl _⟩) hA hS (fun r_73 f_70 L_71 Q_72 H locs hq hP hS => ?_)
  obtain ⟨⟨hI, hk_f_70, eL9, eQ9⟩, hq, p_74, p_75, p_76⟩ := hq
  rw [eL9, eQ9] at hP; clear eL9 eQ9
  have hF : sgK WkX12_both_0 f f_70 := sgK.tr hF hk_f_70 (by decide)
  obtain ⟨v_77, ev_77⟩ : ∃ z : Int32, z = f_70 0 13 := ⟨_, rfl⟩
  have q_78 : 0 ≤ v_77.toInt ∧ v_77.toInt ≤ 120 := by rw [ev_77]; exact hI 0 13
  have q_79 : (f_70 0 13).toInt = v_77.toInt := (congrArg Int32.toInt (show f_70 0 13 = v_77 from ev_77.symm))
  obtain ⟨v_80, ev_80⟩ : ∃ z : Int32, z = f_70 0 16 := ⟨_, rfl⟩
  have q_81 : 0 ≤ v_80.toInt ∧ v_80.toInt ≤ 6 := by rw [ev_80]; exact hI 0 16
  have q_82 : (f_70 0 16).toInt = v_80.toInt := (congrArg Int32.toInt (show f_70 0 16 = v_80 from ev_80.symm))
  obtain ⟨v_83, ev_83⟩ : ∃ z : Int32, z = f_70 0 15 := ⟨_, rfl⟩
  have q_84 : (-1) ≤ v_83.toInt ∧ v_83.toInt ≤ 120 := by rw [ev_83]; exact hI 0 15
  have q_85 : (f_70 0 15).toInt = v_83.toInt := (congrArg Int32.toInt (show f_70 0 15 = v_83 from ev_83.symm))
  have q_86 : (f_70 0 16).toInt = v_80.toInt := (congrArg Int32.toInt (show f_70 0 16 = v_80 from ev_80.symm))
  refine lv_istore_n (lv' := [(1, .int r_73), (0, .ref (h 0))]) hx hb dX12_both_4 rfl hl (by decide) rfl (fun ls hl => ?_)
  exact loop_5 121 r_73 f_70 _ _ _ (by have zz0_13 : (f_70 0 13).toInt = v_77.toInt := (congrArg Int32.toInt (show f_70 0 13 = v_77 from ev_77.symm)); omega) (by have zz0_13 : (f_70 0 13).toInt = v_77.toInt := (congrArg Int32.toInt (show f_70 0 13 = v_77 from ev_77.symm)); omega) (by have zz0_16 : (f_70 0 16).toInt = v_80.toInt := (congrArg Int32.toInt (show f_70 0 16 = v_80 from ev_80.symm)); omega) (by have zz0_15 : (f_70 0 15).toInt = v_83.toInt := (congrArg Int32.toInt (show f_70 0 15 = v_83 from ev_83.symm)); have zz0_16 : (f_70 0 16).toInt = v_80.toInt := (congrArg Int32.toInt (show f_70 0 16 = v_80 from ev_80.symm)); omega) hI hF hP hS (lv_sub hl [1, 0] rfl)

abbrev WkX12_either_0 : List (Nat × Nat × Option Nat) := [(0, 0, some 13), (0, 0, some 15), (0, 0, some 16)]
set_option maxHeartbeats 4000000 in
set_option maxRecDepth 100000 in
theorem kX12_either_0 (l : Launch) (D : va_G) (ca : Nat → ClassId) (za h : Nat → Nat) (hh : sgH 26 h) (f : sg_F) (L : sg_L) (Q : sg_Q) (hI : sgI loM hiM f) (p0 : 0 ≤ (f 0 16).toInt) (p1 : 0 ≤ (f 0 15).toInt ∨ (f 0 16).toInt = 0) (sz : Nat) : Met l yX12_either gwX12_either { frames := 42, cells := 0, slots := 0, locals := 957 } (sgP D vwCl (tyX ca) 26 h (eM ca h) zcM za f L Q sz [.ref (h 0)]) (sgQi D vwCl 26 h (eM ca h) sz (fun r f1 L1 Q1 => ((sgI loM hiM f1 ∧ sgK WkX12_either_0 f f1 ∧ L1 = L ∧ Q1 = Q) ∧ True ∧ ((f 0 13).toInt ≤ (f1 0 13).toInt) ∧ (0 ≤ (f1 0 16).toInt) ∧ (0 ≤ (f1 0 15).toInt ∨ (f1 0 16).toInt = 0)))) 0 0 (sgA 26 h sz) := by
  refine sg_ofWi (cc := cX12_either) (maxL := 3) RX12 (by decide) rfl rfl (Nat.le_of_ble_eq_true rfl) ?_
  intro p e s m below meth cd Qz ls hx hb hml hown hts hK hZ hP hS hl hret
  have hA := sgY.self (n := 26) (h := h) (sz := s.heap.size)
  have hl : lv_has ls 3 [(0, .ref (h 0))] := hl
  obtain ⟨H, hH⟩ : ∃ z : Heap, z = s.heap := ⟨_, rfl⟩
  obtain ⟨locs, hlo⟩ : ∃ z : List Loc, z = [] := ⟨_, rfl⟩
  have hP : va_P D vwCl (sgw 26 h (eM ca h) f L Q) H := by rw [hH]; exact hP
  have hS : va_S (sgA 26 h s.heap.size) s.heap H locs := by rw [hH, hlo]; exact hS
  suffices hgo : W p l e ({ frames := 42, cells := 0, slots := 0, locals := 957 }) s m ([.ref (h 0)] : List Value).toArray below meth cd H locs 0 0 Qz (F0 m 0 ls []) by rw [hH, hlo] at hgo; exact hgo
  clear hH hlo
  obtain ⟨v_1, ev_1⟩ : ∃ z : Int32, z = f 0 16 := ⟨_, rfl⟩
  have q_2 : 0 ≤ v_1.toInt ∧ v_1.toInt ≤ 6 := by rw [ev_1]; exact hI 0 16
  obtain ⟨v_3, ev_3⟩ : ∃ z : Int32, z = f 0 15 := ⟨_, rfl⟩
  have q_4 : (-1) ≤ v_3.toInt ∧ v_3.toInt ≤ 120 := by rw [ev_3]; exact hI 0 15
  obtain ⟨v_5, ev_5⟩ : ∃ z : Int32, z = f 0 13 := ⟨_, rfl⟩
  have q_6 : 0 ≤ v_5.toInt ∧ v_5.toInt ≤ 120 := by rw [ev_5]; exact hI 0 13
  have o_7 : (f 0 16).toInt = v_1.toInt := (congrArg Int32.toInt (show f 0 16 = v_1 from ev_1.symm))
  have o_8 : (f 0 15).toInt = v_3.toInt := (congrArg Int32.toInt (show f 0 15 = v_3 from ev_3.symm))
  have o_9 : (f 0 13).toInt = v_5.toInt := (congrArg Int32.toInt (show f 0 13 = v_5 from ev_5.symm))
  have hF : sgK WkX12_either_0 f f := sgK.rf
  have loop_5 : ∀ (n_5 : Nat) (y1_5 : Int32) (fp_5 : sg_F) (H : Heap) (locs : List Loc) (ls : Array Slot), 120 - (fp_5 0 13).toInt < (n_5 : Int) → (f 0 13).toInt ≤ (fp_5 0 13).toInt → 0 ≤ (fp_5 0 16).toInt → 0 ≤ (fp_5 0 15).toInt ∨ (fp_5 0 16).toInt = 0 → sgI loM hiM fp_5 → sgK WkX12_either_0 f fp_5 → va_P D vwCl (sgw 26 h (eM ca h) fp_5 L Q) H → va_S (sgA 26 h s.heap.size) s.heap H locs → lv_has ls 3 [(0, .ref (h 0)), (1, .int y1_5)] → W p l e ({ frames := 42, cells := 0, slots := 0, locals := 957 }) s m ([.ref (h 0)] : List Value).toArray below meth cd H locs 0 0 Qz (F0 m 5 ls []) := by
    intro n_5
    induction n_5 with
    | zero => intro y1_5 fp_5 H locs ls hm_5 hg0_5 hg1_5 hg2_5 hI hF hP hS hl; have zb := (show 0 ≤ (fp_5 0 13).toInt ∧ (fp_5 0 13).toInt ≤ 120 from hI 0 13); exact absurd hm_5 (by omega)
    | succ n_5 ih_5 =>
      intro y1_5 fp_5 H locs ls hm_5 hg0_5 hg1_5 hg2_5 hI hF hP hS hl
      obtain ⟨v_10, ev_10⟩ : ∃ z : Int32, z = fp_5 0 13 := ⟨_, rfl⟩
      have q_11 : 0 ≤ v_10.toInt ∧ v_10.toInt ≤ 120 := by rw [ev_10]; exact hI 0 13
      have q_12 : (fp_5 0 13).toInt = v_10.toInt := by rw [ev_10]
      obtain ⟨v_13, ev_13⟩ : ∃ z : Int32, z = fp_5 0 16 := ⟨_, rfl⟩
      have q_14 : 0 ≤ v_13.toInt ∧ v_13.toInt ≤ 6 := by rw [ev_13]; exact hI 0 16
      have q_15 : (fp_5 0 16).toInt = v_13.toInt := by rw [ev_13]
      obtain ⟨v_16, ev_16⟩ : ∃ z : Int32, z = fp_5 0 15 := ⟨_, rfl⟩
      have q_17 : (-1) ≤ v_16.toInt ∧ v_16.toInt ≤ 120 := by rw [ev_16]; exact hI 0 15
      have q_18 : (fp_5 0 15).toInt = v_16.toInt := by rw [ev_16]
      refine lv_aload_n hx hb dX12_either_5 rfl (lv_at hl 0 rfl) ?_
      refine lv_bipush (v := 124) hx hb dX12_either_6 (by decide) ?_
      have q_19 : (fp_5 0 15).toInt = v_16.toInt := (congrArg Int32.toInt (show fp_5 0 15 = v_16 from ev_16.symm))
      have q_20 : (fp_5 0 13).toInt = v_10.toInt := (congrArg Int32.toInt (show fp_5 0 13 = v_10 from ev_10.symm))
      obtain ⟨v_21, ev_21⟩ : ∃ z : Int32, z = fp_5 0 14 := ⟨_, rfl⟩
      have q_22 : 0 ≤ v_21.toInt ∧ v_21.toInt ≤ 120 := by rw [ev_21]; exact hI 0 14
      have q_23 : (fp_5 0 14).toInt = v_21.toInt := (congrArg Int32.toInt (show fp_5 0 14 = v_21 from ev_21.symm))
      have q_24 : (fp_5 0 13).toInt = v_10.toInt := (congrArg Int32.toInt (show fp_5 0 13 = v_10 from ev_10.symm))
      have q_25 : (fp_5 0 13).toInt = v_10.toInt := (congrArg Int32.toInt (show fp_5 0 13 = v_10 from ev_10.symm))
      refine sg_calli (va_runV (As := [.int 124]) (rest := []) ⟨hx, hb, hml, hown, hts⟩ (kX12_takes_124 l D ca za h hh fp_5 L Q hI H.size) (cwV 1 hts (gw_V (fun _ h => List.mem_cons_of_mem _ h) mw_877 mw_878 mw_879 mw_619 mw_876) rfl rfl rfl (by decide +kernel) ⟨Nat.le_of_ble_eq_true rfl, Nat.le_of_ble_eq_true rfl⟩) (sg_preV (ci := 12) (C := RX12) (T := TX12) (N := 55) hA hK hP hS hZ 0 (by decide) rfl rfl) rfl rfl hl.1 rfl (lv_room (Nat.le_of_ble_eq_true rfl)) dX12_either_8 ⟨Nat.le_refl _, Nat.le_refl _⟩) hA hS (fun r_29 f_26 L_27 Q_28 H locs hq hP hS => ?_)
      obtain ⟨⟨hI, hk_f_26, eL9, eQ9⟩, hq⟩ := hq
      rw [eL9, eQ9] at hP; clear eL9 eQ9
      have hF : sgK WkX12_either_0 f f_26 := sgK.tr hF hk_f_26 (by decide)
      obtain ⟨v_30, ev_30⟩ : ∃ z : Int32, z = f_26 0 13 := ⟨_, rfl⟩
      have q_31 : 0 ≤ v_30.toInt ∧ v_30.toInt ≤ 120 := by rw [ev_30]; exact hI 0 13
      have q_32 : (f_26 0 13).toInt = v_30.toInt := (congrArg Int32.toInt (show f_26 0 13 = v_30 from ev_30.symm))
      have q_33 : (f_26 0 13).toInt = v_30.toInt := (congrArg Int32.toInt (show f_26 0 13 = v_30 from ev_30.symm))
      have k_34 : (124 : Int32).toInt = 124 := by decide
      rcases hq with ⟨rfl, hq⟩ | ⟨rfl, hq⟩
      · skip
        have q_35 := hq
        refine lv_if_eq (tgt := 36) hx hb dX12_either_11 (by decide) (fun c => absurd c (by decide)) (fun c => ?_)
        refine lv_aload_n hx hb dX12_either_14 rfl (lv_at hl 0 rfl) ?_
        have q_36 : (f_26 0 16).toInt = v_13.toInt := (congrArg Int32.toInt (show f_26 0 16 = v_13 from ((hk_f_26 0 16 (by decide)).trans ev_13.symm)))
        have q_37 : (f_26 0 15).toInt = v_16.toInt := (congrArg Int32.toInt (show f_26 0 15 = v_16 from ((hk_f_26 0 15 (by decide)).trans ev_16.symm)))
        have q_38 : (f_26 0 16).toInt = v_13.toInt := (congrArg Int32.toInt (show f_26 0 16 = v_13 from ((hk_f_26 0 16 (by decide)).trans ev_13.symm)))
        have q_39 : (f_26 0 13).toInt = v_30.toInt := (congrArg Int32.toInt (show f_26 0 13 = v_30 from ev_30.symm))
        refine sg_calli (va_runV (As := []) (rest := []) ⟨hx, hb, hml, hown, hts⟩ (kX12_both_0 l D ca za h hh f_26 L Q hI (by omega) (by omega) H.size) (cwV 0 hts (gw_V (fun _ h => List.mem_cons_of_mem _ h) mw_881 mw_882 mw_883 mw_619 mw_880) rfl rfl rfl (by decide +kernel) ⟨Nat.le_of_ble_eq_true rfl, Nat.le_of_ble_eq_true rfl⟩) (sg_preV (ci := 12) (C := RX12) (T := TX12) (N := 55) hA hK hP hS hZ 0 (by decide) rfl rfl) rfl rfl hl.1 rfl (lv_room (Nat.le_of_ble_eq_true rfl)) dX12_either_15 ⟨Nat.le_refl _, Nat.le_refl _⟩) hA hS (fun r_43 f_40 L_41 Q_42 H locs hq hP hS => ?_)
        obtain ⟨⟨hI, hk_f_40, eL9, eQ9⟩, hq, p_44, p_45, p_46⟩ := hq
        rw [eL9, eQ9] at hP; clear eL9 eQ9
        have hF : sgK WkX12_either_0 f f_40 := sgK.tr hF hk_f_40 (by decide)
        obtain ⟨v_47, ev_47⟩ : ∃ z : Int32, z = f_40 0 13 := ⟨_, rfl⟩
        have q_48 : 0 ≤ v_47.toInt ∧ v_47.toInt ≤ 120 := by rw [ev_47]; exact hI 0 13
        have q_49 : (f_40 0 13).toInt = v_47.toInt := (congrArg Int32.toInt (show f_40 0 13 = v_47 from ev_47.symm))
        obtain ⟨v_50, ev_50⟩ : ∃ z : Int32, z = f_40 0 16 := ⟨_, rfl⟩
        have q_51 : 0 ≤ v_50.toInt ∧ v_50.toInt ≤ 6 := by rw [ev_50]; exact hI 0 16
        have q_52 : (f_40 0 16).toInt = v_50.toInt := (congrArg Int32.toInt (show f_40 0 16 = v_50 from ev_50.symm))
        obtain ⟨v_53, ev_53⟩ : ∃ z : Int32, z = f_40 0 15 := ⟨_, rfl⟩
        have q_54 : (-1) ≤ v_53.toInt ∧ v_53.toInt ≤ 120 := by rw [ev_53]; exact hI 0 15
        have q_55 : (f_40 0 15).toInt = v_53.toInt := (congrArg Int32.toInt (show f_40 0 15 = v_53 from ev_53.symm))
        have q_56 : (f_40 0 16).toInt = v_50.toInt := (congrArg Int32.toInt (show f_40 0 16 = v_50 from ev_50.symm))
        refine lv_istore_n (lv' := [(2, .int r_43), (0, .ref (h 0)), (1, .int y1_5)]) hx hb dX12_either_18 rfl hl (by decide) rfl (fun ls hl => ?_)
        refine lv_iload_n hx hb dX12_either_19 rfl (lv_at hl 2 rfl) ?_
        refine lv_if_ne (tgt := 27) hx hb dX12_either_20 (by decide) (fun c => ?_) (fun c => ?_)
        · skip
          have c_57 : y1_5.toInt ≠ 0 := (by have z := bn_ne c; have k1 : (0 : Int32).toInt = 0 := (by decide); omega)
          refine lv_iconst (v := 1) hx hb dX12_either_27 (by decide) ?_
          refine lv_goto (tgt := 32) hx hb dX12_either_28 (by decide) ?_
          refine lv_istore_n (lv' := [(1, .int 1), (2, .int r_43), (0, .ref (h 0))]) hx hb dX12_either_32 rfl hl (by decide) rfl (fun ls hl => ?_)
          refine lv_goto (tgt := 5) hx hb dX12_either_33 (by decide) ?_
          exact ih_5 1 f_40 _ _ _ (by have kc0 : (1 : Int32).toInt = 1 := (by decide); have zz0_13 : (f_40 0 13).toInt = v_47.toInt := (congrArg Int32.toInt (show f_40 0 13 = v_47 from ev_47.symm)); omega) (by have kc0 : (1 : Int32).toInt = 1 := (by decide); have zz0_13 : (f_40 0 13).toInt = v_47.toInt := (congrArg Int32.toInt (show f_40 0 13 = v_47 from ev_47.symm)); omega) (by have kc0 : (1 : Int32).toInt = 1 := (by decide); have zz0_16 : (f_40 0 16).toInt = v_50.toInt := (congrArg Int32.toInt (show f_40 0 16 = v_50 from ev_50.symm)); omega) (by have kc0 : (1 : Int32).toInt = 1 := (by decide); have zz0_15 : (f_40 0 15).toInt = v_53.toInt := (congrArg Int32.toInt (show f_40 0 15 = v_53 from ev_53.symm)); have zz0_16 : (f_40 0 16).toInt = v_50.toInt := (congrArg Int32.toInt (show f_40 0 16 = v_50 from ev_50.symm)); omega) hI hF hP hS (lv_sub hl [2, 0] rfl)
        · skip
          have c_58 : y1_5.toInt = 0 := (by have z := Int32.toInt_inj.mpr c; have k1 : (0 : Int32).toInt = 0 := (by decide); omega)
          refine lv_iload_n hx hb dX12_either_23 rfl (lv_at hl 0 rfl) ?_
          refine lv_if_eq (tgt := 31) hx hb dX12_either_24 (by decide) (fun c => ?_) (fun c => ?_)
          · skip
            have c_59 : r_43.toInt = 0 := (by have z := Int32.toInt_inj.mpr c; have k1 : (0 : Int32).toInt = 0 := (by decide); omega)
            refine lv_iconst (v := 0) hx hb dX12_either_31 (by decide) ?_
            refine lv_istore_n (lv' := [(1, .int 0), (2, .int r_43), (0, .ref (h 0))]) hx hb dX12_either_32 rfl hl (by decide) rfl (fun ls hl => ?_)
            refine lv_goto (tgt := 5) hx hb dX12_either_33 (by decide) ?_
            exact ih_5 0 f_40 _ _ _ (by have kc0 : (0 : Int32).toInt = 0 := (by decide); have zz0_13 : (f_40 0 13).toInt = v_47.toInt := (congrArg Int32.toInt (show f_40 0 13 = v_47 from ev_47.symm)); omega) (by have kc0 : (0 : Int32).toInt = 0 := (by decide); have zz0_13 : (f_40 0 13).toInt = v_47.toInt := (congrArg Int32.toInt (show f_40 0 13 = v_47 from ev_47.symm)); omega) (by have kc0 : (0 : Int32).toInt = 0 := (by decide); have zz0_16 : (f_40 0 16).toInt = v_50.toInt := (congrArg Int32.toInt (show f_40 0 16 = v_50 from ev_50.symm)); omega) (by have kc0 : (0 : Int32).toInt = 0 := (by decide); have zz0_15 : (f_40 0 15).toInt = v_53.toInt := (congrArg Int32.toInt (show f_40 0 15 = v_53 from ev_53.symm)); have zz0_16 : (f_40 0 16).toInt = v_50.toInt := (congrArg Int32.toInt (show f_40 0 16 = v_50 from ev_50.symm)); omega) hI hF hP hS (lv_sub hl [2, 0] rfl)
          · skip
            have c_60 : r_43.toInt ≠ 0 := (by have z := bn_ne c; have k1 : (0 : Int32).toInt = 0 := (by decide); omega)
            refine lv_iconst (v := 1) hx hb dX12_either_27 (by decide) ?_
            refine lv_goto (tgt := 32) hx hb dX12_either_28 (by decide) ?_
            refine lv_istore_n (lv' := [(1, .int 1), (2, .int r_43), (0, .ref (h 0))]) hx hb dX12_either_32 rfl hl (by decide) rfl (fun ls hl => ?_)
            refine lv_goto (tgt := 5) hx hb dX12_either_33 (by decide) ?_
            exact ih_5 1 f_40 _ _ _ (by have kc0 : (1 : Int32).toInt = 1 := (by decide); have zz0_13 : (f_40 0 13).toInt = v_47.toInt := (congrArg Int32.toInt (show f_40 0 13 = v_47 from ev_47.symm)); omega) (by have kc0 : (1 : Int32).toInt = 1 := (by decide); have zz0_13 : (f_40 0 13).toInt = v_47.toInt := (congrArg Int32.toInt (show f_40 0 13 = v_47 from ev_47.symm)); omega) (by have kc0 : (1 : Int32).toInt = 1 := (by decide); have zz0_16 : (f_40 0 16).toInt = v_50.toInt := (congrArg Int32.toInt (show f_40 0 16 = v_50 from ev_50.symm)); omega) (by have kc0 : (1 : Int32).toInt = 1 := (by decide); have zz0_15 : (f_40 0 15).toInt = v_53.toInt := (congrArg Int32.toInt (show f_40 0 15 = v_53 from ev_53.symm)); have zz0_16 : (f_40 0 16).toInt = v_50.toInt := (congrArg Int32.toInt (show f_40 0 16 = v_50 from ev_50.symm)); omega) hI hF hP hS (lv_sub hl [2, 0] rfl)
      · skip
        have q_61 := hq
        refine lv_if_eq (tgt := 36) hx hb dX12_either_11 (by decide) (fun c => ?_) (fun c => absurd c (by decide))
        refine lv_iload_n hx hb dX12_either_36 rfl (lv_at hl 1 rfl) ?_
        have q_62 : (f_26 0 13).toInt = v_30.toInt := (congrArg Int32.toInt (show f_26 0 13 = v_30 from ev_30.symm))
        have q_63 : (f_26 0 16).toInt = v_13.toInt := (congrArg Int32.toInt (show f_26 0 16 = v_13 from ((hk_f_26 0 16 (by decide)).trans ev_13.symm)))
        have q_64 : (f_26 0 15).toInt = v_16.toInt := (congrArg Int32.toInt (show f_26 0 15 = v_16 from ((hk_f_26 0 15 (by decide)).trans ev_16.symm)))
        have q_65 : (f_26 0 16).toInt = v_13.toInt := (congrArg Int32.toInt (show f_26 0 16 = v_13 from ((hk_f_26 0 16 (by decide)).trans ev_13.symm)))
        exact hret _ _ _ _ (y1_5) f_26 L Q dX12_either_37 hP hS ⟨⟨hI, hF, rfl, rfl⟩, trivial, (by omega), (by omega), (by omega)⟩
  refine lv_aload_n hx hb dX12_either_0 rfl (lv_at hl 0 rfl) ?_
  have q_66 : (f 0 16).toInt = v_1.toInt := (congrArg Int32.toInt (show f 0 16 = v_1 from ev_1.symm))
  have q_67 : (f 0 15).toInt = v_3.toInt := (congrArg Int32.toInt (show f 0 15 = v_3 from ev_3.symm))
  have q_68 : (f 0 16).toInt = v_1.toInt := (congrArg Int32.toInt (show f 0 16 = v_1 from ev_1.symm))
  have q_69 : (f 0 13).toInt = v_5.toInt := (congrArg Int32.toInt (show f 0 13 = v_5 from ev_5.symm))
  refine sg_calli (va_runV (As := []) (rest := []) ⟨hx, hb, hml, hown, hts⟩ (kX12_both_0 l D ca za h hh f L Q hI (by omega) (by omega) H.size) (cwV 0 hts (gw_V (fun _ h => List.mem_cons_of_mem _ h) mw_881 mw_882 mw_883 mw_619 mw_880) rfl rfl rfl (by decide +kernel) ⟨Nat.le_of_ble_eq_true rfl, Nat.le_of_ble_eq_true rfl⟩) (sg_preV (ci := 12) (C := RX12) (T := TX12) (N := 55) hA hK hP hS hZ 0 (by decide) rfl rfl) rfl rfl hl.1 rfl (lv_room (Nat.le_of_ble_eq_true rfl)) dX12_either_1 ⟨Nat.le_refl _, Nat.le_refl _⟩) hA hS (fun r_73 f_70 L_71 Q_72 H locs hq hP hS => ?_)
  obtain ⟨⟨hI, hk_f_70, eL9, eQ9⟩, hq, p_74, p_75, p_76⟩ := hq
  rw [eL9, eQ9] at hP; clear eL9 eQ9
  have hF : sgK WkX12_either_0 f f_70 := sgK.tr hF hk_f_70 (by decide)
  obtain ⟨v_77, ev_77⟩ : ∃ z : Int32, z = f_70 0 13 := ⟨_, rfl⟩
  have q_78 : 0 ≤ v_77.toInt ∧ v_77.toInt ≤ 120 := by rw [ev_77]; exact hI 0 13
  have q_79 : (f_70 0 13).toInt = v_77.toInt := (congrArg Int32.toInt (show f_70 0 13 = v_77 from ev_77.symm))
  obtain ⟨v_80, ev_80⟩ : ∃ z : Int32, z = f_70 0 16 := ⟨_, rfl⟩
  have q_81 : 0 ≤ v_80.toInt ∧ v_80.toInt ≤ 6 := by rw [ev_80]; exact hI 0 16
  have q_82 : (f_70 0 16).toInt = v_80.toInt := (congrArg Int32.toInt (show f_70 0 16 = v_80 from ev_80.symm))
  obtain ⟨v_83, ev_83⟩ : ∃ z : Int32, z = f_70 0 15 := ⟨_, rfl⟩
  have q_84 : (-1) ≤ v_83.toInt ∧ v_83.toInt ≤ 120 := by rw [ev_83]; exact hI 0 15
  have q_85 : (f_70 0 15).toInt = v_83.toInt := (congrArg Int32.toInt (show f_70 0 15 = v_83 from ev_83.symm))
  have q_86 : (f_70 0 16).toInt = v_80.toInt := (congrArg Int32.toInt (show f_70 0 16 = v_80 from ev_80.symm))
  refine lv_istore_n (lv' := [(1, .int r_73), (0, .ref (h 0))]) hx hb dX12_either_4 rfl hl (by decide) rfl (fun ls hl => ?_)
  exact loop_5 121 r_73 f_70 _ _ _ (by have zz0_13 : (f_70 0 13).toInt = v_77.toInt := (congrArg Int32.toInt (show f_70 0 13 = v_77 from ev_77.symm)); omega) (by have zz0_13 : (f_70 0 13).toInt = v_77.toInt := (congrArg Int32.toInt (show f_70 0 13 = v_77 from ev_77.symm)); omega) (by have zz0_16 : (f_70 0 16).toInt = v_80.toInt := (congrArg Int32.toInt (show f_70 0 16 = v_80 from ev_80.symm)); omega) (by have zz0_15 : (f_70 0 15).toInt = v_83.toInt := (congrArg Int32.toInt (show f_70 0 15 = v_83 from ev_83.symm)); have zz0_16 : (f_70 0 16).toInt = v_80.toInt := (congrArg Int32.toInt (show f_70 0 16 = v_80 from ev_80.symm)); omega) hI hF hP hS (lv_sub hl [1, 0] rfl)

abbrev WkX12_takes_63 : List (Nat × Nat × Option Nat) := [(0, 0, some 13)]
set_option maxHeartbeats 4000000 in
set_option maxRecDepth 100000 in
theorem kX12_takes_63 (l : Launch) (D : va_G) (ca : Nat → ClassId) (za h : Nat → Nat) (hh : sgH 26 h) (f : sg_F) (L : sg_L) (Q : sg_Q) (hI : sgI loM hiM f) (sz : Nat) : Met l yX12_takes gwX12_takes { frames := 1, cells := 0, slots := 0, locals := 20 } (sgP D vwCl (tyX ca) 26 h (eM ca h) zcM za f L Q sz [.ref (h 0), .int 63]) (sgQi D vwCl 26 h (eM ca h) sz (fun r f1 L1 Q1 => ((sgI loM hiM f1 ∧ sgK WkX12_takes_63 f f1 ∧ L1 = L ∧ Q1 = Q) ∧ ((r = 1 ∧ ((f 0 15).toInt < 0 ∧ (f 0 13).toInt < (f 0 14).toInt ∧ (f1 0 13).toInt = (f 0 13).toInt + 1)) ∨ (r = 0 ∧ ((f1 0 13).toInt = (f 0 13).toInt)))))) 0 0 (sgA 26 h sz) := by
  refine sg_ofWz (cc := cX12_takes) (maxL := 2) RX12 (by decide) rfl rfl (Nat.le_of_ble_eq_true rfl) ?_
  intro p e s m below meth cd Qz ls hx hb hml hown hts hK hZ hP hS hl hret
  have hA := sgY.self (n := 26) (h := h) (sz := s.heap.size)
  have hl : lv_has ls 2 [(0, .ref (h 0)), (1, .int 63)] := hl
  obtain ⟨H, hH⟩ : ∃ z : Heap, z = s.heap := ⟨_, rfl⟩
  obtain ⟨locs, hlo⟩ : ∃ z : List Loc, z = [] := ⟨_, rfl⟩
  have hP : va_P D vwCl (sgw 26 h (eM ca h) f L Q) H := by rw [hH]; exact hP
  have hS : va_S (sgA 26 h s.heap.size) s.heap H locs := by rw [hH, hlo]; exact hS
  suffices hgo : W p l e ({ frames := 1, cells := 0, slots := 0, locals := 20 }) s m ([.ref (h 0), .int 63] : List Value).toArray below meth cd H locs 0 0 Qz (F0 m 0 ls []) by rw [hH, hlo] at hgo; exact hgo
  clear hH hlo
  obtain ⟨v_1, ev_1⟩ : ∃ z : Int32, z = f 0 15 := ⟨_, rfl⟩
  have q_2 : (-1) ≤ v_1.toInt ∧ v_1.toInt ≤ 120 := by rw [ev_1]; exact hI 0 15
  obtain ⟨v_3, ev_3⟩ : ∃ z : Int32, z = f 0 13 := ⟨_, rfl⟩
  have q_4 : 0 ≤ v_3.toInt ∧ v_3.toInt ≤ 120 := by rw [ev_3]; exact hI 0 13
  obtain ⟨v_5, ev_5⟩ : ∃ z : Int32, z = f 0 14 := ⟨_, rfl⟩
  have q_6 : 0 ≤ v_5.toInt ∧ v_5.toInt ≤ 120 := by rw [ev_5]; exact hI 0 14
  have o_7 : (f 0 15).toInt = v_1.toInt := (congrArg Int32.toInt (show f 0 15 = v_1 from ev_1.symm))
  have o_8 : (f 0 13).toInt = v_3.toInt := (congrArg Int32.toInt (show f 0 13 = v_3 from ev_3.symm))
  have o_9 : (f 0 14).toInt = v_5.toInt := (congrArg Int32.toInt (show f 0 14 = v_5 from ev_5.symm))
  have hF : sgK WkX12_takes_63 f f := sgK.rf
  refine lv_aload_n hx hb dX12_takes_0 rfl (lv_at hl 0 rfl) ?_
  refine sg_get (ci := 12) (v := .int v_1) (C := RX12) (T := TX12) (N := 55) hx hb hts (fun w h => List.mem_cons_of_mem _ (gx_12 w h)) hown hK hP 0 (by decide) rfl rfl 15 (by decide) (hts _ (List.mem_cons_of_mem _ mw_627)) (fun _ h9 => h9) (congrArg (fun z => some (Value.int z)) (show f 0 15 = v_1 from ev_1.symm)) dX12_takes_1 ?_
  refine lv_if_ge (tgt := 15) hx hb dX12_takes_4 (by decide) (fun c => ?_) (fun c => ?_)
  · skip
    have c_10 : 0 ≤ v_1.toInt := (by have z := bn_le c; have k1 : (0 : Int32).toInt = 0 := (by decide); omega)
    refine lv_iconst (v := 0) hx hb dX12_takes_15 (by decide) ?_
    have q_12 : (f 0 13).toInt = v_3.toInt := (congrArg Int32.toInt (show f 0 13 = v_3 from ev_3.symm))
    have q_13 : (f 0 13).toInt = v_3.toInt := (congrArg Int32.toInt (show f 0 13 = v_3 from ev_3.symm))
    have k99 : (0 : Int32).toInt = 0 := (by decide)
    exact hret _ _ _ _ (0) f L Q dX12_takes_16 (by decide) hP hS ⟨⟨hI, hF, rfl, rfl⟩, Or.inr (⟨rfl, by omega⟩)⟩
  · skip
    have c_11 : v_1.toInt < 0 := (by have z := bn_nle c; have k1 : (0 : Int32).toInt = 0 := (by decide); omega)
    refine lv_aload_n hx hb dX12_takes_7 rfl (lv_at hl 0 rfl) ?_
    have q_14 : (f 0 13).toInt = v_3.toInt := (congrArg Int32.toInt (show f 0 13 = v_3 from ev_3.symm))
    have q_15 : (f 0 14).toInt = v_5.toInt := (congrArg Int32.toInt (show f 0 14 = v_5 from ev_5.symm))
    refine sg_calli (va_runV (As := []) (rest := []) ⟨hx, hb, hml, hown, hts⟩ (kX12_byteAt l D ca za h hh f L Q hI H.size) (cwV 0 hts (gw_V (fun _ h => List.mem_cons_of_mem _ h) mw_840 mw_841 mw_842 mw_619 mw_839) rfl rfl rfl (by decide +kernel) ⟨Nat.le_of_ble_eq_true rfl, Nat.le_of_ble_eq_true rfl⟩) (sg_preV (ci := 12) (C := RX12) (T := TX12) (N := 55) hA hK hP hS hZ 0 (by decide) rfl rfl) rfl rfl hl.1 rfl (lv_room (Nat.le_of_ble_eq_true rfl)) dX12_takes_8 ⟨Nat.le_refl _, Nat.le_refl _⟩) hA hS (fun r_19 f_16 L_17 Q_18 H locs hq hP hS => ?_)
    obtain ⟨⟨ef9, eL9, eQ9⟩, hq, p_20⟩ := hq
    rw [ef9, eL9, eQ9] at hP; clear ef9 eL9 eQ9
    refine lv_iload_n hx hb dX12_takes_11 rfl (lv_at hl 1 rfl) ?_
    refine lv_icmp_eq (tgt := 17) hx hb dX12_takes_12 (by decide) (fun c => ?_) (fun c => ?_)
    · skip
      have c_21 : r_19.toInt = 63 := (by have z := Int32.toInt_inj.mpr c; have k1 : (63 : Int32).toInt = 63 := (by decide); omega)
      refine lv_aload_n hx hb dX12_takes_17 rfl (lv_at hl 0 rfl) ?_
      refine lv_dup hx hb dX12_takes_18 rfl ?_
      refine sg_get (ci := 12) (v := .int v_3) (C := RX12) (T := TX12) (N := 55) hx hb hts (fun w h => List.mem_cons_of_mem _ (gx_12 w h)) hown hK hP 0 (by decide) rfl rfl 13 (by decide) (hts _ (List.mem_cons_of_mem _ mw_625)) (fun _ h9 => h9) (congrArg (fun z => some (Value.int z)) (show f 0 13 = v_3 from ev_3.symm)) dX12_takes_19 ?_
      refine lv_iconst (v := 1) hx hb dX12_takes_22 (by decide) ?_
      refine lv_iadd hx hb dX12_takes_23 ?_
      refine lv_topi (fun v_23 ev_23 => ?_)
      have q_24 : v_23.toInt = v_3.toInt + 1 := by rw [ev_23]; have k1 : (1 : Int32).toInt = 1 := (by decide); exact (bn_addI (by omega) (by omega)).trans (by omega)
      refine sg_put (ci := 12) (x := v_23) (ty := .int) (C := RX12) (T := TX12) (N := 55) hx hb hts (fun w h => List.mem_cons_of_mem _ (gx_12 w h)) tyX12 tyX12_ok nmX12 hown hh hA hK hP hS 0 (by decide) rfl rfl 13 (by decide) (hts _ (List.mem_cons_of_mem _ mw_625)) (fun _ h9 => h9) rfl rfl (by decide +kernel) rfl rfl (Nat.le_of_ble_eq_true rfl) dX12_takes_24 (fun f_25 H locs ef_25 hP hS => ?_)
      have hI : sgI loM hiM f_25 := by rw [ef_25]; exact sgI.put hI 0 13 (show 0 ≤ (v_23 : Int32).toInt ∧ (v_23 : Int32).toInt ≤ 120 from by omega)
      have hF : sgK WkX12_takes_63 f f_25 := sgK.put hF ef_25 (by rfl)
      refine lv_iconst (v := 1) hx hb dX12_takes_27 (by decide) ?_
      have q_26 : (f_25 0 13).toInt = v_23.toInt := (congrArg Int32.toInt (show f_25 0 13 = v_23 from (by rw [ef_25, sg_up_s, sgu_s])))
      have q_27 : (f_25 0 13).toInt = v_23.toInt := (congrArg Int32.toInt (show f_25 0 13 = v_23 from (by rw [ef_25, sg_up_s, sgu_s])))
      have k99 : (1 : Int32).toInt = 1 := (by decide)
      exact hret _ _ _ _ (1) f_25 L Q dX12_takes_28 (by decide) hP hS ⟨⟨hI, hF, rfl, rfl⟩, Or.inl ⟨rfl, by omega⟩⟩
    · skip
      have c_22 : r_19.toInt ≠ 63 := (by have z := bn_ne c; have k1 : (63 : Int32).toInt = 63 := (by decide); omega)
      refine lv_iconst (v := 0) hx hb dX12_takes_15 (by decide) ?_
      have q_28 : (f 0 13).toInt = v_3.toInt := (congrArg Int32.toInt (show f 0 13 = v_3 from ev_3.symm))
      have q_29 : (f 0 13).toInt = v_3.toInt := (congrArg Int32.toInt (show f 0 13 = v_3 from ev_3.symm))
      have k99 : (0 : Int32).toInt = 0 := (by decide)
      exact hret _ _ _ _ (0) f L Q dX12_takes_16 (by decide) hP hS ⟨⟨hI, hF, rfl, rfl⟩, Or.inr (⟨rfl, by omega⟩)⟩

abbrev WkX12_takes_59 : List (Nat × Nat × Option Nat) := [(0, 0, some 13)]
set_option maxHeartbeats 4000000 in
set_option maxRecDepth 100000 in
theorem kX12_takes_59 (l : Launch) (D : va_G) (ca : Nat → ClassId) (za h : Nat → Nat) (hh : sgH 26 h) (f : sg_F) (L : sg_L) (Q : sg_Q) (hI : sgI loM hiM f) (sz : Nat) : Met l yX12_takes gwX12_takes { frames := 1, cells := 0, slots := 0, locals := 20 } (sgP D vwCl (tyX ca) 26 h (eM ca h) zcM za f L Q sz [.ref (h 0), .int 59]) (sgQi D vwCl 26 h (eM ca h) sz (fun r f1 L1 Q1 => ((sgI loM hiM f1 ∧ sgK WkX12_takes_59 f f1 ∧ L1 = L ∧ Q1 = Q) ∧ ((r = 1 ∧ ((f 0 15).toInt < 0 ∧ (f 0 13).toInt < (f 0 14).toInt ∧ (f1 0 13).toInt = (f 0 13).toInt + 1)) ∨ (r = 0 ∧ ((f1 0 13).toInt = (f 0 13).toInt)))))) 0 0 (sgA 26 h sz) := by
  refine sg_ofWz (cc := cX12_takes) (maxL := 2) RX12 (by decide) rfl rfl (Nat.le_of_ble_eq_true rfl) ?_
  intro p e s m below meth cd Qz ls hx hb hml hown hts hK hZ hP hS hl hret
  have hA := sgY.self (n := 26) (h := h) (sz := s.heap.size)
  have hl : lv_has ls 2 [(0, .ref (h 0)), (1, .int 59)] := hl
  obtain ⟨H, hH⟩ : ∃ z : Heap, z = s.heap := ⟨_, rfl⟩
  obtain ⟨locs, hlo⟩ : ∃ z : List Loc, z = [] := ⟨_, rfl⟩
  have hP : va_P D vwCl (sgw 26 h (eM ca h) f L Q) H := by rw [hH]; exact hP
  have hS : va_S (sgA 26 h s.heap.size) s.heap H locs := by rw [hH, hlo]; exact hS
  suffices hgo : W p l e ({ frames := 1, cells := 0, slots := 0, locals := 20 }) s m ([.ref (h 0), .int 59] : List Value).toArray below meth cd H locs 0 0 Qz (F0 m 0 ls []) by rw [hH, hlo] at hgo; exact hgo
  clear hH hlo
  obtain ⟨v_1, ev_1⟩ : ∃ z : Int32, z = f 0 15 := ⟨_, rfl⟩
  have q_2 : (-1) ≤ v_1.toInt ∧ v_1.toInt ≤ 120 := by rw [ev_1]; exact hI 0 15
  obtain ⟨v_3, ev_3⟩ : ∃ z : Int32, z = f 0 13 := ⟨_, rfl⟩
  have q_4 : 0 ≤ v_3.toInt ∧ v_3.toInt ≤ 120 := by rw [ev_3]; exact hI 0 13
  obtain ⟨v_5, ev_5⟩ : ∃ z : Int32, z = f 0 14 := ⟨_, rfl⟩
  have q_6 : 0 ≤ v_5.toInt ∧ v_5.toInt ≤ 120 := by rw [ev_5]; exact hI 0 14
  have o_7 : (f 0 15).toInt = v_1.toInt := (congrArg Int32.toInt (show f 0 15 = v_1 from ev_1.symm))
  have o_8 : (f 0 13).toInt = v_3.toInt := (congrArg Int32.toInt (show f 0 13 = v_3 from ev_3.symm))
  have o_9 : (f 0 14).toInt = v_5.toInt := (congrArg Int32.toInt (show f 0 14 = v_5 from ev_5.symm))
  have hF : sgK WkX12_takes_59 f f := sgK.rf
  refine lv_aload_n hx hb dX12_takes_0 rfl (lv_at hl 0 rfl) ?_
  refine sg_get (ci := 12) (v := .int v_1) (C := RX12) (T := TX12) (N := 55) hx hb hts (fun w h => List.mem_cons_of_mem _ (gx_12 w h)) hown hK hP 0 (by decide) rfl rfl 15 (by decide) (hts _ (List.mem_cons_of_mem _ mw_627)) (fun _ h9 => h9) (congrArg (fun z => some (Value.int z)) (show f 0 15 = v_1 from ev_1.symm)) dX12_takes_1 ?_
  refine lv_if_ge (tgt := 15) hx hb dX12_takes_4 (by decide) (fun c => ?_) (fun c => ?_)
  · skip
    have c_10 : 0 ≤ v_1.toInt := (by have z := bn_le c; have k1 : (0 : Int32).toInt = 0 := (by decide); omega)
    refine lv_iconst (v := 0) hx hb dX12_takes_15 (by decide) ?_
    have q_12 : (f 0 13).toInt = v_3.toInt := (congrArg Int32.toInt (show f 0 13 = v_3 from ev_3.symm))
    have q_13 : (f 0 13).toInt = v_3.toInt := (congrArg Int32.toInt (show f 0 13 = v_3 from ev_3.symm))
    have k99 : (0 : Int32).toInt = 0 := (by decide)
    exact hret _ _ _ _ (0) f L Q dX12_takes_16 (by decide) hP hS ⟨⟨hI, hF, rfl, rfl⟩, Or.inr (⟨rfl, by omega⟩)⟩
  · skip
    have c_11 : v_1.toInt < 0 := (by have z := bn_nle c; have k1 : (0 : Int32).toInt = 0 := (by decide); omega)
    refine lv_aload_n hx hb dX12_takes_7 rfl (lv_at hl 0 rfl) ?_
    have q_14 : (f 0 13).toInt = v_3.toInt := (congrArg Int32.toInt (show f 0 13 = v_3 from ev_3.symm))
    have q_15 : (f 0 14).toInt = v_5.toInt := (congrArg Int32.toInt (show f 0 14 = v_5 from ev_5.symm))
    refine sg_calli (va_runV (As := []) (rest := []) ⟨hx, hb, hml, hown, hts⟩ (kX12_byteAt l D ca za h hh f L Q hI H.size) (cwV 0 hts (gw_V (fun _ h => List.mem_cons_of_mem _ h) mw_840 mw_841 mw_842 mw_619 mw_839) rfl rfl rfl (by decide +kernel) ⟨Nat.le_of_ble_eq_true rfl, Nat.le_of_ble_eq_true rfl⟩) (sg_preV (ci := 12) (C := RX12) (T := TX12) (N := 55) hA hK hP hS hZ 0 (by decide) rfl rfl) rfl rfl hl.1 rfl (lv_room (Nat.le_of_ble_eq_true rfl)) dX12_takes_8 ⟨Nat.le_refl _, Nat.le_refl _⟩) hA hS (fun r_19 f_16 L_17 Q_18 H locs hq hP hS => ?_)
    obtain ⟨⟨ef9, eL9, eQ9⟩, hq, p_20⟩ := hq
    rw [ef9, eL9, eQ9] at hP; clear ef9 eL9 eQ9
    refine lv_iload_n hx hb dX12_takes_11 rfl (lv_at hl 1 rfl) ?_
    refine lv_icmp_eq (tgt := 17) hx hb dX12_takes_12 (by decide) (fun c => ?_) (fun c => ?_)
    · skip
      have c_21 : r_19.toInt = 59 := (by have z := Int32.toInt_inj.mpr c; have k1 : (59 : Int32).toInt = 59 := (by decide); omega)
      refine lv_aload_n hx hb dX12_takes_17 rfl (lv_at hl 0 rfl) ?_
      refine lv_dup hx hb dX12_takes_18 rfl ?_
      refine sg_get (ci := 12) (v := .int v_3) (C := RX12) (T := TX12) (N := 55) hx hb hts (fun w h => List.mem_cons_of_mem _ (gx_12 w h)) hown hK hP 0 (by decide) rfl rfl 13 (by decide) (hts _ (List.mem_cons_of_mem _ mw_625)) (fun _ h9 => h9) (congrArg (fun z => some (Value.int z)) (show f 0 13 = v_3 from ev_3.symm)) dX12_takes_19 ?_
      refine lv_iconst (v := 1) hx hb dX12_takes_22 (by decide) ?_
      refine lv_iadd hx hb dX12_takes_23 ?_
      refine lv_topi (fun v_23 ev_23 => ?_)
      have q_24 : v_23.toInt = v_3.toInt + 1 := by rw [ev_23]; have k1 : (1 : Int32).toInt = 1 := (by decide); exact (bn_addI (by omega) (by omega)).trans (by omega)
      refine sg_put (ci := 12) (x := v_23) (ty := .int) (C := RX12) (T := TX12) (N := 55) hx hb hts (fun w h => List.mem_cons_of_mem _ (gx_12 w h)) tyX12 tyX12_ok nmX12 hown hh hA hK hP hS 0 (by decide) rfl rfl 13 (by decide) (hts _ (List.mem_cons_of_mem _ mw_625)) (fun _ h9 => h9) rfl rfl (by decide +kernel) rfl rfl (Nat.le_of_ble_eq_true rfl) dX12_takes_24 (fun f_25 H locs ef_25 hP hS => ?_)
      have hI : sgI loM hiM f_25 := by rw [ef_25]; exact sgI.put hI 0 13 (show 0 ≤ (v_23 : Int32).toInt ∧ (v_23 : Int32).toInt ≤ 120 from by omega)
      have hF : sgK WkX12_takes_59 f f_25 := sgK.put hF ef_25 (by rfl)
      refine lv_iconst (v := 1) hx hb dX12_takes_27 (by decide) ?_
      have q_26 : (f_25 0 13).toInt = v_23.toInt := (congrArg Int32.toInt (show f_25 0 13 = v_23 from (by rw [ef_25, sg_up_s, sgu_s])))
      have q_27 : (f_25 0 13).toInt = v_23.toInt := (congrArg Int32.toInt (show f_25 0 13 = v_23 from (by rw [ef_25, sg_up_s, sgu_s])))
      have k99 : (1 : Int32).toInt = 1 := (by decide)
      exact hret _ _ _ _ (1) f_25 L Q dX12_takes_28 (by decide) hP hS ⟨⟨hI, hF, rfl, rfl⟩, Or.inl ⟨rfl, by omega⟩⟩
    · skip
      have c_22 : r_19.toInt ≠ 59 := (by have z := bn_ne c; have k1 : (59 : Int32).toInt = 59 := (by decide); omega)
      refine lv_iconst (v := 0) hx hb dX12_takes_15 (by decide) ?_
      have q_28 : (f 0 13).toInt = v_3.toInt := (congrArg Int32.toInt (show f 0 13 = v_3 from ev_3.symm))
      have q_29 : (f 0 13).toInt = v_3.toInt := (congrArg Int32.toInt (show f 0 13 = v_3 from ev_3.symm))
      have k99 : (0 : Int32).toInt = 0 := (by decide)
      exact hret _ _ _ _ (0) f L Q dX12_takes_16 (by decide) hP hS ⟨⟨hI, hF, rfl, rfl⟩, Or.inr (⟨rfl, by omega⟩)⟩

abbrev WkX12_workOut : List (Nat × Nat × Option Nat) := [(0, 0, some 12), (0, 0, some 13), (0, 0, some 14), (0, 0, some 15), (0, 0, some 16)]
set_option maxHeartbeats 4000000 in
set_option maxRecDepth 100000 in
theorem kX12_workOut (l : Launch) (D : va_G) (ca : Nat → ClassId) (za h : Nat → Nat) (hh : sgH 26 h) (f : sg_F) (L : sg_L) (Q : sg_Q) (hI : sgI loM hiM f) (x0 : Int32) (x1 : Int32) (b0 : (-1) ≤ x0.toInt ∧ x0.toInt ≤ 0) (b1 : 0 ≤ x1.toInt ∧ x1.toInt ≤ 120) (sz : Nat) : Met l yX12_workOut gwX12_workOut { frames := 43, cells := 0, slots := 0, locals := 979 } (sgP D vwCl (tyX ca) 26 h (eM ca h) zcM za f L Q sz [.ref (h 0), .int x0, .int x1]) (sgQi D vwCl 26 h (eM ca h) sz (fun r f1 L1 Q1 => ((sgI loM hiM f1 ∧ sgK WkX12_workOut f f1 ∧ L1 = L ∧ Q1 = Q) ∧ True))) 0 0 (sgA 26 h sz) := by
  refine sg_ofWi (cc := cX12_workOut) (maxL := 8) RX12 (by decide) rfl rfl (Nat.le_of_ble_eq_true rfl) ?_
  intro p e s m below meth cd Qz ls hx hb hml hown hts hK hZ hP hS hl hret
  have hA := sgY.self (n := 26) (h := h) (sz := s.heap.size)
  have hl : lv_has ls 8 [(0, .ref (h 0)), (1, .int x0), (2, .int x1)] := hl
  obtain ⟨H, hH⟩ : ∃ z : Heap, z = s.heap := ⟨_, rfl⟩
  obtain ⟨locs, hlo⟩ : ∃ z : List Loc, z = [] := ⟨_, rfl⟩
  have hP : va_P D vwCl (sgw 26 h (eM ca h) f L Q) H := by rw [hH]; exact hP
  have hS : va_S (sgA 26 h s.heap.size) s.heap H locs := by rw [hH, hlo]; exact hS
  suffices hgo : W p l e ({ frames := 43, cells := 0, slots := 0, locals := 979 }) s m ([.ref (h 0), .int x0, .int x1] : List Value).toArray below meth cd H locs 0 0 Qz (F0 m 0 ls []) by rw [hH, hlo] at hgo; exact hgo
  clear hH hlo
  obtain ⟨v_1, ev_1⟩ : ∃ z : Int32, z = f 0 15 := ⟨_, rfl⟩
  have q_2 : (-1) ≤ v_1.toInt ∧ v_1.toInt ≤ 120 := by rw [ev_1]; exact hI 0 15
  obtain ⟨v_3, ev_3⟩ : ∃ z : Int32, z = f 0 16 := ⟨_, rfl⟩
  have q_4 : 0 ≤ v_3.toInt ∧ v_3.toInt ≤ 6 := by rw [ev_3]; exact hI 0 16
  have o_5 : (f 0 15).toInt = v_1.toInt := (congrArg Int32.toInt (show f 0 15 = v_1 from ev_1.symm))
  have o_6 : (f 0 16).toInt = v_3.toInt := (congrArg Int32.toInt (show f 0 16 = v_3 from ev_3.symm))
  have hF : sgK WkX12_workOut f f := sgK.rf
  have loop_33 : ∀ (n_33 : Nat) (y3_33 : Int32) (y4_33 : Int32) (y5_33 : Int32) (fp_33 : sg_F) (H : Heap) (locs : List Loc) (ls : Array Slot), 2 * (120 - (fp_33 0 13).toInt) + y5_33.toInt < (n_33 : Int) → 0 ≤ y3_33.toInt ∧ y3_33.toInt ≤ 1 → 0 ≤ y5_33.toInt ∧ y5_33.toInt ≤ 1 → 0 ≤ (fp_33 0 15).toInt ∨ (fp_33 0 16).toInt = 0 → sgI loM hiM fp_33 → sgK WkX12_workOut f fp_33 → va_P D vwCl (sgw 26 h (eM ca h) fp_33 L Q) H → va_S (sgA 26 h s.heap.size) s.heap H locs → lv_has ls 8 [(0, .ref (h 0)), (3, .int y3_33), (4, .int y4_33), (5, .int y5_33)] → W p l e ({ frames := 43, cells := 0, slots := 0, locals := 979 }) s m ([.ref (h 0), .int x0, .int x1] : List Value).toArray below meth cd H locs 0 0 Qz (F0 m 33 ls []) := by
    intro n_33
    induction n_33 with
    | zero => intro y3_33 y4_33 y5_33 fp_33 H locs ls hm_33 hy0_33 hy1_33 hg0_33 hI hF hP hS hl; have zb := (show 0 ≤ (fp_33 0 13).toInt ∧ (fp_33 0 13).toInt ≤ 120 from hI 0 13); exact absurd hm_33 (by omega)
    | succ n_33 ih_33 =>
      have blk_96 : ∀ (y3_96 : Int32) (y4_96 : Int32) (fp_96 : sg_F) (H : Heap) (locs : List Loc) (ls : Array Slot), 2 * (120 - (fp_96 0 13).toInt) + 1 < ((n_33 + 1 : Nat) : Int) → 0 ≤ y3_96.toInt ∧ y3_96.toInt ≤ 1 → 0 ≤ (fp_96 0 15).toInt ∨ (fp_96 0 16).toInt = 0 → sgI loM hiM fp_96 → sgK WkX12_workOut f fp_96 → va_P D vwCl (sgw 26 h (eM ca h) fp_96 L Q) H → va_S (sgA 26 h s.heap.size) s.heap H locs → lv_has ls 8 [(0, .ref (h 0)), (3, .int y3_96), (4, .int y4_96)] → W p l e ({ frames := 43, cells := 0, slots := 0, locals := 979 }) s m ([.ref (h 0), .int x0, .int x1] : List Value).toArray below meth cd H locs 0 0 Qz (F0 m 96 ls []) := by
        intro y3_96 y4_96 fp_96 H locs ls hm_33 hy0_96 hg0_96 hI hF hP hS hl
        obtain ⟨v_7, ev_7⟩ : ∃ z : Int32, z = fp_96 0 15 := ⟨_, rfl⟩
        have q_8 : (-1) ≤ v_7.toInt ∧ v_7.toInt ≤ 120 := by rw [ev_7]; exact hI 0 15
        have q_9 : (fp_96 0 15).toInt = v_7.toInt := by rw [ev_7]
        obtain ⟨v_10, ev_10⟩ : ∃ z : Int32, z = fp_96 0 16 := ⟨_, rfl⟩
        have q_11 : 0 ≤ v_10.toInt ∧ v_10.toInt ≤ 6 := by rw [ev_10]; exact hI 0 16
        have q_12 : (fp_96 0 16).toInt = v_10.toInt := by rw [ev_10]
        obtain ⟨v_13, ev_13⟩ : ∃ z : Int32, z = fp_96 0 13 := ⟨_, rfl⟩
        have q_14 : 0 ≤ v_13.toInt ∧ v_13.toInt ≤ 120 := by rw [ev_13]; exact hI 0 13
        have q_15 : (fp_96 0 13).toInt = v_13.toInt := by rw [ev_13]
        refine lv_aload_n hx hb dX12_workOut_96 rfl (lv_at hl 0 rfl) ?_
        refine lv_bipush (v := 59) hx hb dX12_workOut_97 (by decide) ?_
        have q_16 : (fp_96 0 15).toInt = v_7.toInt := (congrArg Int32.toInt (show fp_96 0 15 = v_7 from ev_7.symm))
        have q_17 : (fp_96 0 13).toInt = v_13.toInt := (congrArg Int32.toInt (show fp_96 0 13 = v_13 from ev_13.symm))
        obtain ⟨v_18, ev_18⟩ : ∃ z : Int32, z = fp_96 0 14 := ⟨_, rfl⟩
        have q_19 : 0 ≤ v_18.toInt ∧ v_18.toInt ≤ 120 := by rw [ev_18]; exact hI 0 14
        have q_20 : (fp_96 0 14).toInt = v_18.toInt := (congrArg Int32.toInt (show fp_96 0 14 = v_18 from ev_18.symm))
        have q_21 : (fp_96 0 13).toInt = v_13.toInt := (congrArg Int32.toInt (show fp_96 0 13 = v_13 from ev_13.symm))
        have q_22 : (fp_96 0 13).toInt = v_13.toInt := (congrArg Int32.toInt (show fp_96 0 13 = v_13 from ev_13.symm))
        refine sg_calli (va_runV (As := [.int 59]) (rest := []) ⟨hx, hb, hml, hown, hts⟩ (kX12_takes_59 l D ca za h hh fp_96 L Q hI H.size) (cwV 1 hts (gw_V (fun _ h => List.mem_cons_of_mem _ h) mw_877 mw_878 mw_879 mw_619 mw_876) rfl rfl rfl (by decide +kernel) ⟨Nat.le_of_ble_eq_true rfl, Nat.le_of_ble_eq_true rfl⟩) (sg_preV (ci := 12) (C := RX12) (T := TX12) (N := 55) hA hK hP hS hZ 0 (by decide) rfl rfl) rfl rfl hl.1 rfl (lv_room (Nat.le_of_ble_eq_true rfl)) dX12_workOut_99 ⟨Nat.le_refl _, Nat.le_refl _⟩) hA hS (fun r_26 f_23 L_24 Q_25 H locs hq hP hS => ?_)
        obtain ⟨⟨hI, hk_f_23, eL9, eQ9⟩, hq⟩ := hq
        rw [eL9, eQ9] at hP; clear eL9 eQ9
        have hF : sgK WkX12_workOut f f_23 := sgK.tr hF hk_f_23 (by decide)
        obtain ⟨v_27, ev_27⟩ : ∃ z : Int32, z = f_23 0 13 := ⟨_, rfl⟩
        have q_28 : 0 ≤ v_27.toInt ∧ v_27.toInt ≤ 120 := by rw [ev_27]; exact hI 0 13
        have q_29 : (f_23 0 13).toInt = v_27.toInt := (congrArg Int32.toInt (show f_23 0 13 = v_27 from ev_27.symm))
        have q_30 : (f_23 0 13).toInt = v_27.toInt := (congrArg Int32.toInt (show f_23 0 13 = v_27 from ev_27.symm))
        have k_31 : (59 : Int32).toInt = 59 := by decide
        rcases hq with ⟨rfl, hq⟩ | ⟨rfl, hq⟩
        · skip
          have q_32 := hq
          refine lv_istore (lv' := [(5, .int 1), (0, .ref (h 0)), (3, .int y3_96), (4, .int y4_96)]) hx hb dX12_workOut_102 hl (by decide) rfl (fun ls hl => ?_)
          refine lv_goto (tgt := 33) hx hb dX12_workOut_104 (by decide) ?_
          exact ih_33 y3_96 y4_96 1 f_23 _ _ _ (by have kc2 : (1 : Int32).toInt = 1 := (by decide); have zz0_13 : (f_23 0 13).toInt = v_27.toInt := (congrArg Int32.toInt (show f_23 0 13 = v_27 from ev_27.symm)); omega) (by omega) (by decide) (by have kc2 : (1 : Int32).toInt = 1 := (by decide); have zz0_15 : (f_23 0 15).toInt = v_7.toInt := (congrArg Int32.toInt (show f_23 0 15 = v_7 from ((hk_f_23 0 15 (by decide)).trans ev_7.symm))); have zz0_16 : (f_23 0 16).toInt = v_10.toInt := (congrArg Int32.toInt (show f_23 0 16 = v_10 from ((hk_f_23 0 16 (by decide)).trans ev_10.symm))); omega) hI hF hP hS (lv_sub hl [1, 2, 3, 0] rfl)
        · skip
          have q_33 := hq
          refine lv_istore (lv' := [(5, .int 0), (0, .ref (h 0)), (3, .int y3_96), (4, .int y4_96)]) hx hb dX12_workOut_102 hl (by decide) rfl (fun ls hl => ?_)
          refine lv_goto (tgt := 33) hx hb dX12_workOut_104 (by decide) ?_
          exact ih_33 y3_96 y4_96 0 f_23 _ _ _ (by have kc2 : (0 : Int32).toInt = 0 := (by decide); have zz0_13 : (f_23 0 13).toInt = v_27.toInt := (congrArg Int32.toInt (show f_23 0 13 = v_27 from ev_27.symm)); omega) (by omega) (by decide) (by have kc2 : (0 : Int32).toInt = 0 := (by decide); have zz0_15 : (f_23 0 15).toInt = v_7.toInt := (congrArg Int32.toInt (show f_23 0 15 = v_7 from ((hk_f_23 0 15 (by decide)).trans ev_7.symm))); have zz0_16 : (f_23 0 16).toInt = v_10.toInt := (congrArg Int32.toInt (show f_23 0 16 = v_10 from ((hk_f_23 0 16 (by decide)).trans ev_10.symm))); omega) hI hF hP hS (lv_sub hl [1, 2, 3, 0] rfl)
      have blk_74 : ∀ (y3_74 : Int32) (y4_74 : Int32) (y6_74 : Int32) (y7_74 : Int32) (fp_74 : sg_F) (H : Heap) (locs : List Loc) (ls : Array Slot), 2 * (120 - (fp_74 0 13).toInt) + 1 < ((n_33 + 1 : Nat) : Int) → 0 ≤ y3_74.toInt ∧ y3_74.toInt ≤ 1 → 0 ≤ y7_74.toInt ∧ y7_74.toInt ≤ 1 → 0 ≤ (fp_74 0 15).toInt ∨ (fp_74 0 16).toInt = 0 → sgI loM hiM fp_74 → sgK WkX12_workOut f fp_74 → va_P D vwCl (sgw 26 h (eM ca h) fp_74 L Q) H → va_S (sgA 26 h s.heap.size) s.heap H locs → lv_has ls 8 [(0, .ref (h 0)), (3, .int y3_74), (4, .int y4_74), (6, .int y6_74), (7, .int y7_74)] → W p l e ({ frames := 43, cells := 0, slots := 0, locals := 979 }) s m ([.ref (h 0), .int x0, .int x1] : List Value).toArray below meth cd H locs 0 0 Qz (F0 m 74 ls []) := by
        intro y3_74 y4_74 y6_74 y7_74 fp_74 H locs ls hm_33 hy0_74 hy1_74 hg0_74 hI hF hP hS hl
        obtain ⟨v_34, ev_34⟩ : ∃ z : Int32, z = fp_74 0 15 := ⟨_, rfl⟩
        have q_35 : (-1) ≤ v_34.toInt ∧ v_34.toInt ≤ 120 := by rw [ev_34]; exact hI 0 15
        have q_36 : (fp_74 0 15).toInt = v_34.toInt := by rw [ev_34]
        obtain ⟨v_37, ev_37⟩ : ∃ z : Int32, z = fp_74 0 16 := ⟨_, rfl⟩
        have q_38 : 0 ≤ v_37.toInt ∧ v_37.toInt ≤ 6 := by rw [ev_37]; exact hI 0 16
        have q_39 : (fp_74 0 16).toInt = v_37.toInt := by rw [ev_37]
        obtain ⟨v_40, ev_40⟩ : ∃ z : Int32, z = fp_74 0 13 := ⟨_, rfl⟩
        have q_41 : 0 ≤ v_40.toInt ∧ v_40.toInt ≤ 120 := by rw [ev_40]; exact hI 0 13
        have q_42 : (fp_74 0 13).toInt = v_40.toInt := by rw [ev_40]
        refine lv_aload_n hx hb dX12_workOut_74 rfl (lv_at hl 0 rfl) ?_
        refine sg_get (ci := 12) (v := .int v_34) (C := RX12) (T := TX12) (N := 55) hx hb hts (fun w h => List.mem_cons_of_mem _ (gx_12 w h)) hown hK hP 0 (by decide) rfl rfl 15 (by decide) (hts _ (List.mem_cons_of_mem _ mw_627)) (fun _ h9 => h9) (congrArg (fun z => some (Value.int z)) (show fp_74 0 15 = v_34 from ev_34.symm)) dX12_workOut_75 ?_
        refine lv_if_ge (tgt := 96) hx hb dX12_workOut_78 (by decide) (fun c => ?_) (fun c => ?_)
        · skip
          have c_43 : 0 ≤ v_34.toInt := (by have z := bn_le c; have k1 : (0 : Int32).toInt = 0 := (by decide); omega)
          exact blk_96 y3_74 y4_74 fp_74 _ _ _ (by have zz0_13 : (fp_74 0 13).toInt = v_40.toInt := (congrArg Int32.toInt (show fp_74 0 13 = v_40 from ev_40.symm)); omega) (by omega) (by have zz0_15 : (fp_74 0 15).toInt = v_34.toInt := (congrArg Int32.toInt (show fp_74 0 15 = v_34 from ev_34.symm)); have zz0_16 : (fp_74 0 16).toInt = v_37.toInt := (congrArg Int32.toInt (show fp_74 0 16 = v_37 from ev_37.symm)); omega) hI hF hP hS (lv_sub hl [0, 1, 2] rfl)
        · skip
          have c_44 : v_34.toInt < 0 := (by have z := bn_nle c; have k1 : (0 : Int32).toInt = 0 := (by decide); omega)
          refine lv_iload hx hb dX12_workOut_81 (lv_at hl 4 rfl) ?_
          refine lv_if_eq (tgt := 96) hx hb dX12_workOut_83 (by decide) (fun c => ?_) (fun c => ?_)
          · skip
            have c_45 : y7_74.toInt = 0 := (by have z := Int32.toInt_inj.mpr c; have k1 : (0 : Int32).toInt = 0 := (by decide); omega)
            exact blk_96 y3_74 y4_74 fp_74 _ _ _ (by have zz0_13 : (fp_74 0 13).toInt = v_40.toInt := (congrArg Int32.toInt (show fp_74 0 13 = v_40 from ev_40.symm)); omega) (by omega) (by have zz0_15 : (fp_74 0 15).toInt = v_34.toInt := (congrArg Int32.toInt (show fp_74 0 15 = v_34 from ev_34.symm)); have zz0_16 : (fp_74 0 16).toInt = v_37.toInt := (congrArg Int32.toInt (show fp_74 0 16 = v_37 from ev_37.symm)); omega) hI hF hP hS (lv_sub hl [0, 1, 2] rfl)
          · skip
            have c_46 : y7_74.toInt ≠ 0 := (by have z := bn_ne c; have k1 : (0 : Int32).toInt = 0 := (by decide); omega)
            refine lv_iload_n hx hb dX12_workOut_86 rfl (lv_at hl 1 rfl) ?_
            refine lv_if_ne (tgt := 96) hx hb dX12_workOut_87 (by decide) (fun c => ?_) (fun c => ?_)
            · skip
              have c_47 : y3_74.toInt ≠ 0 := (by have z := bn_ne c; have k1 : (0 : Int32).toInt = 0 := (by decide); omega)
              exact blk_96 y3_74 y4_74 fp_74 _ _ _ (by have zz0_13 : (fp_74 0 13).toInt = v_40.toInt := (congrArg Int32.toInt (show fp_74 0 13 = v_40 from ev_40.symm)); omega) (by omega) (by have zz0_15 : (fp_74 0 15).toInt = v_34.toInt := (congrArg Int32.toInt (show fp_74 0 15 = v_34 from ev_34.symm)); have zz0_16 : (fp_74 0 16).toInt = v_37.toInt := (congrArg Int32.toInt (show fp_74 0 16 = v_37 from ev_37.symm)); omega) hI hF hP hS (lv_sub hl [0, 1, 2] rfl)
            · skip
              have c_48 : y3_74.toInt = 0 := (by have z := Int32.toInt_inj.mpr c; have k1 : (0 : Int32).toInt = 0 := (by decide); omega)
              refine lv_iconst (v := 1) hx hb dX12_workOut_90 (by decide) ?_
              refine lv_istore_n (lv' := [(3, .int 1), (0, .ref (h 0)), (4, .int y4_74), (6, .int y6_74), (7, .int y7_74)]) hx hb dX12_workOut_91 rfl hl (by decide) rfl (fun ls hl => ?_)
              refine lv_iload hx hb dX12_workOut_92 (lv_at hl 3 rfl) ?_
              refine lv_istore (lv' := [(4, .int y6_74), (3, .int 1), (0, .ref (h 0)), (6, .int y6_74), (7, .int y7_74)]) hx hb dX12_workOut_94 hl (by decide) rfl (fun ls hl => ?_)
              exact blk_96 1 y6_74 fp_74 _ _ _ (by have kc0 : (1 : Int32).toInt = 1 := (by decide); have zz0_13 : (fp_74 0 13).toInt = v_40.toInt := (congrArg Int32.toInt (show fp_74 0 13 = v_40 from ev_40.symm)); omega) (by decide) (by have kc0 : (1 : Int32).toInt = 1 := (by decide); have zz0_15 : (fp_74 0 15).toInt = v_34.toInt := (congrArg Int32.toInt (show fp_74 0 15 = v_34 from ev_34.symm)); have zz0_16 : (fp_74 0 16).toInt = v_37.toInt := (congrArg Int32.toInt (show fp_74 0 16 = v_37 from ev_37.symm)); omega) hI hF hP hS (lv_sub hl [2, 1, 0] rfl)
      intro y3_33 y4_33 y5_33 fp_33 H locs ls hm_33 hy0_33 hy1_33 hg0_33 hI hF hP hS hl
      obtain ⟨v_49, ev_49⟩ : ∃ z : Int32, z = fp_33 0 15 := ⟨_, rfl⟩
      have q_50 : (-1) ≤ v_49.toInt ∧ v_49.toInt ≤ 120 := by rw [ev_49]; exact hI 0 15
      have q_51 : (fp_33 0 15).toInt = v_49.toInt := by rw [ev_49]
      obtain ⟨v_52, ev_52⟩ : ∃ z : Int32, z = fp_33 0 16 := ⟨_, rfl⟩
      have q_53 : 0 ≤ v_52.toInt ∧ v_52.toInt ≤ 6 := by rw [ev_52]; exact hI 0 16
      have q_54 : (fp_33 0 16).toInt = v_52.toInt := by rw [ev_52]
      obtain ⟨v_55, ev_55⟩ : ∃ z : Int32, z = fp_33 0 13 := ⟨_, rfl⟩
      have q_56 : 0 ≤ v_55.toInt ∧ v_55.toInt ≤ 120 := by rw [ev_55]; exact hI 0 13
      have q_57 : (fp_33 0 13).toInt = v_55.toInt := by rw [ev_55]
      refine lv_iload hx hb dX12_workOut_33 (lv_at hl 3 rfl) ?_
      refine lv_if_eq (tgt := 107) hx hb dX12_workOut_35 (by decide) (fun c => ?_) (fun c => ?_)
      · skip
        have c_58 : y5_33.toInt = 0 := (by have z := Int32.toInt_inj.mpr c; have k1 : (0 : Int32).toInt = 0 := (by decide); omega)
        refine lv_aload_n hx hb dX12_workOut_107 rfl (lv_at hl 0 rfl) ?_
        refine sg_get (ci := 12) (v := .int v_49) (C := RX12) (T := TX12) (N := 55) hx hb hts (fun w h => List.mem_cons_of_mem _ (gx_12 w h)) hown hK hP 0 (by decide) rfl rfl 15 (by decide) (hts _ (List.mem_cons_of_mem _ mw_627)) (fun _ h9 => h9) (congrArg (fun z => some (Value.int z)) (show fp_33 0 15 = v_49 from ev_49.symm)) dX12_workOut_108 ?_
        refine lv_if_ge (tgt := 130) hx hb dX12_workOut_111 (by decide) (fun c => ?_) (fun c => ?_)
        · skip
          have c_60 : 0 ≤ v_49.toInt := (by have z := bn_le c; have k1 : (0 : Int32).toInt = 0 := (by decide); omega)
          refine lv_iload hx hb dX12_workOut_130 (lv_at hl 2 rfl) ?_
          exact hret _ _ _ _ (y4_33) fp_33 L Q dX12_workOut_132 hP hS ⟨⟨hI, hF, rfl, rfl⟩, trivial⟩
        · skip
          have c_61 : v_49.toInt < 0 := (by have z := bn_nle c; have k1 : (0 : Int32).toInt = 0 := (by decide); omega)
          refine lv_aload_n hx hb dX12_workOut_114 rfl (lv_at hl 0 rfl) ?_
          refine sg_get (ci := 12) (v := .int v_55) (C := RX12) (T := TX12) (N := 55) hx hb hts (fun w h => List.mem_cons_of_mem _ (gx_12 w h)) hown hK hP 0 (by decide) rfl rfl 13 (by decide) (hts _ (List.mem_cons_of_mem _ mw_625)) (fun _ h9 => h9) (congrArg (fun z => some (Value.int z)) (show fp_33 0 13 = v_55 from ev_55.symm)) dX12_workOut_115 ?_
          refine lv_aload_n hx hb dX12_workOut_118 rfl (lv_at hl 0 rfl) ?_
          refine sg_get (ci := 12) (v := .int (fp_33 0 14)) (C := RX12) (T := TX12) (N := 55) hx hb hts (fun w h => List.mem_cons_of_mem _ (gx_12 w h)) hown hK hP 0 (by decide) rfl rfl 14 (by decide) (hts _ (List.mem_cons_of_mem _ mw_626)) (fun _ h9 => h9) rfl dX12_workOut_119 ?_
          refine lv_topi (fun v_62 ev_62 => ?_)
          have q_63 : 0 ≤ v_62.toInt ∧ v_62.toInt ≤ 120 := by rw [ev_62]; exact hI 0 14
          refine lv_icmp_ge (tgt := 130) hx hb dX12_workOut_122 (by decide) (fun c => ?_) (fun c => ?_)
          · skip
            have c_64 : v_62.toInt ≤ v_55.toInt := (by have z := bn_le c; omega)
            refine lv_iload hx hb dX12_workOut_130 (lv_at hl 2 rfl) ?_
            exact hret _ _ _ _ (y4_33) fp_33 L Q dX12_workOut_132 hP hS ⟨⟨hI, hF, rfl, rfl⟩, trivial⟩
          · skip
            have c_65 : v_55.toInt < v_62.toInt := (by have z := bn_nle c; omega)
            refine lv_aload_n hx hb dX12_workOut_125 rfl (lv_at hl 0 rfl) ?_
            refine sg_calli (va_runV (As := []) (rest := []) ⟨hx, hb, hml, hown, hts⟩ (kX12_wrong l D ca za h hh fp_33 L Q hI H.size) (cwV 0 hts (gw_V (fun _ h => List.mem_cons_of_mem _ h) mw_889 mw_890 mw_891 mw_619 mw_888) rfl rfl rfl (by decide +kernel) ⟨Nat.le_of_ble_eq_true rfl, Nat.le_of_ble_eq_true rfl⟩) (sg_preV (ci := 12) (C := RX12) (T := TX12) (N := 55) hA hK hP hS hZ 0 (by decide) rfl rfl) rfl rfl hl.1 rfl (lv_room (Nat.le_of_ble_eq_true rfl)) dX12_workOut_126 ⟨Nat.le_refl _, Nat.le_refl _⟩) hA hS (fun r_69 f_66 L_67 Q_68 H locs hq hP hS => ?_)
            obtain ⟨⟨hI, hk_f_66, eL9, eQ9⟩, hq, p_70⟩ := hq
            rw [eL9, eQ9] at hP; clear eL9 eQ9
            have hF : sgK WkX12_workOut f f_66 := sgK.tr hF hk_f_66 (by decide)
            obtain ⟨v_71, ev_71⟩ : ∃ z : Int32, z = f_66 0 15 := ⟨_, rfl⟩
            have q_72 : (-1) ≤ v_71.toInt ∧ v_71.toInt ≤ 120 := by rw [ev_71]; exact hI 0 15
            have q_73 : (f_66 0 15).toInt = v_71.toInt := (congrArg Int32.toInt (show f_66 0 15 = v_71 from ev_71.symm))
            obtain rfl : r_69 = 0 := Int32.toInt_inj.mp (by have k9 : (0 : Int32).toInt = 0 := (by decide); omega)
            have k99 : (0 : Int32).toInt = 0 := (by decide)
            exact hret _ _ _ _ (0) f_66 L Q dX12_workOut_129 hP hS ⟨⟨hI, hF, rfl, rfl⟩, trivial⟩
      · skip
        have c_59 : y5_33.toInt ≠ 0 := (by have z := bn_ne c; have k1 : (0 : Int32).toInt = 0 := (by decide); omega)
        refine lv_aload_n hx hb dX12_workOut_38 rfl (lv_at hl 0 rfl) ?_
        have q_74 : (fp_33 0 16).toInt = v_52.toInt := (congrArg Int32.toInt (show fp_33 0 16 = v_52 from ev_52.symm))
        have q_75 : (fp_33 0 15).toInt = v_49.toInt := (congrArg Int32.toInt (show fp_33 0 15 = v_49 from ev_49.symm))
        have q_76 : (fp_33 0 16).toInt = v_52.toInt := (congrArg Int32.toInt (show fp_33 0 16 = v_52 from ev_52.symm))
        have q_77 : (fp_33 0 13).toInt = v_55.toInt := (congrArg Int32.toInt (show fp_33 0 13 = v_55 from ev_55.symm))
        refine sg_calli (va_runV (As := []) (rest := []) ⟨hx, hb, hml, hown, hts⟩ (kX12_either_0 l D ca za h hh fp_33 L Q hI (by omega) (by omega) H.size) (cwV 0 hts (gw_V (fun _ h => List.mem_cons_of_mem _ h) mw_893 mw_894 mw_895 mw_619 mw_892) rfl rfl rfl (by decide +kernel) ⟨Nat.le_of_ble_eq_true rfl, Nat.le_of_ble_eq_true rfl⟩) (sg_preV (ci := 12) (C := RX12) (T := TX12) (N := 55) hA hK hP hS hZ 0 (by decide) rfl rfl) rfl rfl hl.1 rfl (lv_room (Nat.le_of_ble_eq_true rfl)) dX12_workOut_39 ⟨Nat.le_refl _, Nat.le_refl _⟩) hA hS (fun r_81 f_78 L_79 Q_80 H locs hq hP hS => ?_)
        obtain ⟨⟨hI, hk_f_78, eL9, eQ9⟩, hq, p_82, p_83, p_84⟩ := hq
        rw [eL9, eQ9] at hP; clear eL9 eQ9
        have hF : sgK WkX12_workOut f f_78 := sgK.tr hF hk_f_78 (by decide)
        obtain ⟨v_85, ev_85⟩ : ∃ z : Int32, z = f_78 0 13 := ⟨_, rfl⟩
        have q_86 : 0 ≤ v_85.toInt ∧ v_85.toInt ≤ 120 := by rw [ev_85]; exact hI 0 13
        have q_87 : (f_78 0 13).toInt = v_85.toInt := (congrArg Int32.toInt (show f_78 0 13 = v_85 from ev_85.symm))
        obtain ⟨v_88, ev_88⟩ : ∃ z : Int32, z = f_78 0 16 := ⟨_, rfl⟩
        have q_89 : 0 ≤ v_88.toInt ∧ v_88.toInt ≤ 6 := by rw [ev_88]; exact hI 0 16
        have q_90 : (f_78 0 16).toInt = v_88.toInt := (congrArg Int32.toInt (show f_78 0 16 = v_88 from ev_88.symm))
        obtain ⟨v_91, ev_91⟩ : ∃ z : Int32, z = f_78 0 15 := ⟨_, rfl⟩
        have q_92 : (-1) ≤ v_91.toInt ∧ v_91.toInt ≤ 120 := by rw [ev_91]; exact hI 0 15
        have q_93 : (f_78 0 15).toInt = v_91.toInt := (congrArg Int32.toInt (show f_78 0 15 = v_91 from ev_91.symm))
        have q_94 : (f_78 0 16).toInt = v_88.toInt := (congrArg Int32.toInt (show f_78 0 16 = v_88 from ev_88.symm))
        refine lv_istore (lv' := [(6, .int r_81), (0, .ref (h 0)), (3, .int y3_33), (4, .int y4_33), (5, .int y5_33)]) hx hb dX12_workOut_42 hl (by decide) rfl (fun ls hl => ?_)
        refine lv_iconst (v := 1) hx hb dX12_workOut_44 (by decide) ?_
        refine lv_istore (lv' := [(7, .int 1), (6, .int r_81), (0, .ref (h 0)), (3, .int y3_33), (4, .int y4_33), (5, .int y5_33)]) hx hb dX12_workOut_45 hl (by decide) rfl (fun ls hl => ?_)
        refine lv_aload_n hx hb dX12_workOut_47 rfl (lv_at hl 2 rfl) ?_
        refine lv_bipush (v := 63) hx hb dX12_workOut_48 (by decide) ?_
        have q_95 : (f_78 0 15).toInt = v_91.toInt := (congrArg Int32.toInt (show f_78 0 15 = v_91 from ev_91.symm))
        have q_96 : (f_78 0 13).toInt = v_85.toInt := (congrArg Int32.toInt (show f_78 0 13 = v_85 from ev_85.symm))
        obtain ⟨v_97, ev_97⟩ : ∃ z : Int32, z = f_78 0 14 := ⟨_, rfl⟩
        have q_98 : 0 ≤ v_97.toInt ∧ v_97.toInt ≤ 120 := by rw [ev_97]; exact hI 0 14
        have q_99 : (f_78 0 14).toInt = v_97.toInt := (congrArg Int32.toInt (show f_78 0 14 = v_97 from ev_97.symm))
        have q_100 : (f_78 0 13).toInt = v_85.toInt := (congrArg Int32.toInt (show f_78 0 13 = v_85 from ev_85.symm))
        have q_101 : (f_78 0 13).toInt = v_85.toInt := (congrArg Int32.toInt (show f_78 0 13 = v_85 from ev_85.symm))
        refine sg_calli (va_runV (As := [.int 63]) (rest := []) ⟨hx, hb, hml, hown, hts⟩ (kX12_takes_63 l D ca za h hh f_78 L Q hI H.size) (cwV 1 hts (gw_V (fun _ h => List.mem_cons_of_mem _ h) mw_877 mw_878 mw_879 mw_619 mw_876) rfl rfl rfl (by decide +kernel) ⟨Nat.le_of_ble_eq_true rfl, Nat.le_of_ble_eq_true rfl⟩) (sg_preV (ci := 12) (C := RX12) (T := TX12) (N := 55) hA hK hP hS hZ 0 (by decide) rfl rfl) rfl rfl hl.1 rfl (lv_room (Nat.le_of_ble_eq_true rfl)) dX12_workOut_50 ⟨Nat.le_refl _, Nat.le_refl _⟩) hA hS (fun r_105 f_102 L_103 Q_104 H locs hq hP hS => ?_)
        obtain ⟨⟨hI, hk_f_102, eL9, eQ9⟩, hq⟩ := hq
        rw [eL9, eQ9] at hP; clear eL9 eQ9
        have hF : sgK WkX12_workOut f f_102 := sgK.tr hF hk_f_102 (by decide)
        obtain ⟨v_106, ev_106⟩ : ∃ z : Int32, z = f_102 0 13 := ⟨_, rfl⟩
        have q_107 : 0 ≤ v_106.toInt ∧ v_106.toInt ≤ 120 := by rw [ev_106]; exact hI 0 13
        have q_108 : (f_102 0 13).toInt = v_106.toInt := (congrArg Int32.toInt (show f_102 0 13 = v_106 from ev_106.symm))
        have q_109 : (f_102 0 13).toInt = v_106.toInt := (congrArg Int32.toInt (show f_102 0 13 = v_106 from ev_106.symm))
        have k_110 : (63 : Int32).toInt = 63 := by decide
        rcases hq with ⟨rfl, hq⟩ | ⟨rfl, hq⟩
        · skip
          have q_111 := hq
          refine lv_if_eq (tgt := 74) hx hb dX12_workOut_53 (by decide) (fun c => absurd c (by decide)) (fun c => ?_)
          refine lv_iload hx hb dX12_workOut_56 (lv_at hl 1 rfl) ?_
          refine lv_if_eq (tgt := 65) hx hb dX12_workOut_58 (by decide) (fun c => ?_) (fun c => ?_)
          · skip
            have c_112 : r_81.toInt = 0 := (by have z := Int32.toInt_inj.mpr c; have k1 : (0 : Int32).toInt = 0 := (by decide); omega)
            refine lv_iconst (v := 0) hx hb dX12_workOut_65 (by decide) ?_
            refine lv_istore (lv' := [(7, .int 0), (6, .int r_81), (0, .ref (h 0)), (3, .int y3_33), (4, .int y4_33), (5, .int y5_33)]) hx hb dX12_workOut_66 hl (by decide) rfl (fun ls hl => ?_)
            refine lv_aload_n hx hb dX12_workOut_68 rfl (lv_at hl 2 rfl) ?_
            have q_114 : (f_102 0 16).toInt = v_88.toInt := (congrArg Int32.toInt (show f_102 0 16 = v_88 from ((hk_f_102 0 16 (by decide)).trans ev_88.symm)))
            have q_115 : (f_102 0 15).toInt = v_91.toInt := (congrArg Int32.toInt (show f_102 0 15 = v_91 from ((hk_f_102 0 15 (by decide)).trans ev_91.symm)))
            have q_116 : (f_102 0 16).toInt = v_88.toInt := (congrArg Int32.toInt (show f_102 0 16 = v_88 from ((hk_f_102 0 16 (by decide)).trans ev_88.symm)))
            have q_117 : (f_102 0 13).toInt = v_106.toInt := (congrArg Int32.toInt (show f_102 0 13 = v_106 from ev_106.symm))
            refine sg_calli (va_runV (As := []) (rest := []) ⟨hx, hb, hml, hown, hts⟩ (kX12_either_0 l D ca za h hh f_102 L Q hI (by omega) (by omega) H.size) (cwV 0 hts (gw_V (fun _ h => List.mem_cons_of_mem _ h) mw_893 mw_894 mw_895 mw_619 mw_892) rfl rfl rfl (by decide +kernel) ⟨Nat.le_of_ble_eq_true rfl, Nat.le_of_ble_eq_true rfl⟩) (sg_preV (ci := 12) (C := RX12) (T := TX12) (N := 55) hA hK hP hS hZ 0 (by decide) rfl rfl) rfl rfl hl.1 rfl (lv_room (Nat.le_of_ble_eq_true rfl)) dX12_workOut_69 ⟨Nat.le_refl _, Nat.le_refl _⟩) hA hS (fun r_121 f_118 L_119 Q_120 H locs hq hP hS => ?_)
            obtain ⟨⟨hI, hk_f_118, eL9, eQ9⟩, hq, p_122, p_123, p_124⟩ := hq
            rw [eL9, eQ9] at hP; clear eL9 eQ9
            have hF : sgK WkX12_workOut f f_118 := sgK.tr hF hk_f_118 (by decide)
            obtain ⟨v_125, ev_125⟩ : ∃ z : Int32, z = f_118 0 13 := ⟨_, rfl⟩
            have q_126 : 0 ≤ v_125.toInt ∧ v_125.toInt ≤ 120 := by rw [ev_125]; exact hI 0 13
            have q_127 : (f_118 0 13).toInt = v_125.toInt := (congrArg Int32.toInt (show f_118 0 13 = v_125 from ev_125.symm))
            obtain ⟨v_128, ev_128⟩ : ∃ z : Int32, z = f_118 0 16 := ⟨_, rfl⟩
            have q_129 : 0 ≤ v_128.toInt ∧ v_128.toInt ≤ 6 := by rw [ev_128]; exact hI 0 16
            have q_130 : (f_118 0 16).toInt = v_128.toInt := (congrArg Int32.toInt (show f_118 0 16 = v_128 from ev_128.symm))
            obtain ⟨v_131, ev_131⟩ : ∃ z : Int32, z = f_118 0 15 := ⟨_, rfl⟩
            have q_132 : (-1) ≤ v_131.toInt ∧ v_131.toInt ≤ 120 := by rw [ev_131]; exact hI 0 15
            have q_133 : (f_118 0 15).toInt = v_131.toInt := (congrArg Int32.toInt (show f_118 0 15 = v_131 from ev_131.symm))
            have q_134 : (f_118 0 16).toInt = v_128.toInt := (congrArg Int32.toInt (show f_118 0 16 = v_128 from ev_128.symm))
            refine lv_istore (lv' := [(6, .int r_121), (7, .int 0), (0, .ref (h 0)), (3, .int y3_33), (4, .int y4_33), (5, .int y5_33)]) hx hb dX12_workOut_72 hl (by decide) rfl (fun ls hl => ?_)
            exact blk_74 y3_33 y4_33 r_121 0 f_118 _ _ _ (by have kc3 : (0 : Int32).toInt = 0 := (by decide); have zz0_13 : (f_118 0 13).toInt = v_125.toInt := (congrArg Int32.toInt (show f_118 0 13 = v_125 from ev_125.symm)); omega) (by omega) (by decide) (by have kc3 : (0 : Int32).toInt = 0 := (by decide); have zz0_15 : (f_118 0 15).toInt = v_131.toInt := (congrArg Int32.toInt (show f_118 0 15 = v_131 from ev_131.symm)); have zz0_16 : (f_118 0 16).toInt = v_128.toInt := (congrArg Int32.toInt (show f_118 0 16 = v_128 from ev_128.symm)); omega) hI hF hP hS (lv_sub hl [2, 3, 4, 0, 1] rfl)
          · skip
            have c_113 : r_81.toInt ≠ 0 := (by have z := bn_ne c; have k1 : (0 : Int32).toInt = 0 := (by decide); omega)
            refine lv_iconst (v := 1) hx hb dX12_workOut_61 (by decide) ?_
            refine lv_goto (tgt := 66) hx hb dX12_workOut_62 (by decide) ?_
            refine lv_istore (lv' := [(7, .int 1), (6, .int r_81), (0, .ref (h 0)), (3, .int y3_33), (4, .int y4_33), (5, .int y5_33)]) hx hb dX12_workOut_66 hl (by decide) rfl (fun ls hl => ?_)
            refine lv_aload_n hx hb dX12_workOut_68 rfl (lv_at hl 2 rfl) ?_
            have q_135 : (f_102 0 16).toInt = v_88.toInt := (congrArg Int32.toInt (show f_102 0 16 = v_88 from ((hk_f_102 0 16 (by decide)).trans ev_88.symm)))
            have q_136 : (f_102 0 15).toInt = v_91.toInt := (congrArg Int32.toInt (show f_102 0 15 = v_91 from ((hk_f_102 0 15 (by decide)).trans ev_91.symm)))
            have q_137 : (f_102 0 16).toInt = v_88.toInt := (congrArg Int32.toInt (show f_102 0 16 = v_88 from ((hk_f_102 0 16 (by decide)).trans ev_88.symm)))
            have q_138 : (f_102 0 13).toInt = v_106.toInt := (congrArg Int32.toInt (show f_102 0 13 = v_106 from ev_106.symm))
            refine sg_calli (va_runV (As := []) (rest := []) ⟨hx, hb, hml, hown, hts⟩ (kX12_either_0 l D ca za h hh f_102 L Q hI (by omega) (by omega) H.size) (cwV 0 hts (gw_V (fun _ h => List.mem_cons_of_mem _ h) mw_893 mw_894 mw_895 mw_619 mw_892) rfl rfl rfl (by decide +kernel) ⟨Nat.le_of_ble_eq_true rfl, Nat.le_of_ble_eq_true rfl⟩) (sg_preV (ci := 12) (C := RX12) (T := TX12) (N := 55) hA hK hP hS hZ 0 (by decide) rfl rfl) rfl rfl hl.1 rfl (lv_room (Nat.le_of_ble_eq_true rfl)) dX12_workOut_69 ⟨Nat.le_refl _, Nat.le_refl _⟩) hA hS (fun r_142 f_139 L_140 Q_141 H locs hq hP hS => ?_)
            obtain ⟨⟨hI, hk_f_139, eL9, eQ9⟩, hq, p_143, p_144, p_145⟩ := hq
            rw [eL9, eQ9] at hP; clear eL9 eQ9
            have hF : sgK WkX12_workOut f f_139 := sgK.tr hF hk_f_139 (by decide)
            obtain ⟨v_146, ev_146⟩ : ∃ z : Int32, z = f_139 0 13 := ⟨_, rfl⟩
            have q_147 : 0 ≤ v_146.toInt ∧ v_146.toInt ≤ 120 := by rw [ev_146]; exact hI 0 13
            have q_148 : (f_139 0 13).toInt = v_146.toInt := (congrArg Int32.toInt (show f_139 0 13 = v_146 from ev_146.symm))
            obtain ⟨v_149, ev_149⟩ : ∃ z : Int32, z = f_139 0 16 := ⟨_, rfl⟩
            have q_150 : 0 ≤ v_149.toInt ∧ v_149.toInt ≤ 6 := by rw [ev_149]; exact hI 0 16
            have q_151 : (f_139 0 16).toInt = v_149.toInt := (congrArg Int32.toInt (show f_139 0 16 = v_149 from ev_149.symm))
            obtain ⟨v_152, ev_152⟩ : ∃ z : Int32, z = f_139 0 15 := ⟨_, rfl⟩
            have q_153 : (-1) ≤ v_152.toInt ∧ v_152.toInt ≤ 120 := by rw [ev_152]; exact hI 0 15
            have q_154 : (f_139 0 15).toInt = v_152.toInt := (congrArg Int32.toInt (show f_139 0 15 = v_152 from ev_152.symm))
            have q_155 : (f_139 0 16).toInt = v_149.toInt := (congrArg Int32.toInt (show f_139 0 16 = v_149 from ev_149.symm))
            refine lv_istore (lv' := [(6, .int r_142), (7, .int 1), (0, .ref (h 0)), (3, .int y3_33), (4, .int y4_33), (5, .int y5_33)]) hx hb dX12_workOut_72 hl (by decide) rfl (fun ls hl => ?_)
            exact blk_74 y3_33 y4_33 r_142 1 f_139 _ _ _ (by have kc3 : (1 : Int32).toInt = 1 := (by decide); have zz0_13 : (f_139 0 13).toInt = v_146.toInt := (congrArg Int32.toInt (show f_139 0 13 = v_146 from ev_146.symm)); omega) (by omega) (by decide) (by have kc3 : (1 : Int32).toInt = 1 := (by decide); have zz0_15 : (f_139 0 15).toInt = v_152.toInt := (congrArg Int32.toInt (show f_139 0 15 = v_152 from ev_152.symm)); have zz0_16 : (f_139 0 16).toInt = v_149.toInt := (congrArg Int32.toInt (show f_139 0 16 = v_149 from ev_149.symm)); omega) hI hF hP hS (lv_sub hl [2, 3, 4, 0, 1] rfl)
        · skip
          have q_156 := hq
          refine lv_if_eq (tgt := 74) hx hb dX12_workOut_53 (by decide) (fun c => ?_) (fun c => absurd c (by decide))
          exact blk_74 y3_33 y4_33 r_81 1 f_102 _ _ _ (by have kc3 : (1 : Int32).toInt = 1 := (by decide); have zz0_13 : (f_102 0 13).toInt = v_106.toInt := (congrArg Int32.toInt (show f_102 0 13 = v_106 from ev_106.symm)); omega) (by omega) (by decide) (by have kc3 : (1 : Int32).toInt = 1 := (by decide); have zz0_15 : (f_102 0 15).toInt = v_91.toInt := (congrArg Int32.toInt (show f_102 0 15 = v_91 from ((hk_f_102 0 15 (by decide)).trans ev_91.symm))); have zz0_16 : (f_102 0 16).toInt = v_88.toInt := (congrArg Int32.toInt (show f_102 0 16 = v_88 from ((hk_f_102 0 16 (by decide)).trans ev_88.symm))); omega) hI hF hP hS (lv_sub hl [2, 3, 4, 1, 0] rfl)
  refine lv_aload_n hx hb dX12_workOut_0 rfl (lv_at hl 0 rfl) ?_
  refine lv_iload_n hx hb dX12_workOut_1 rfl (lv_at hl 1 rfl) ?_
  refine sg_put (ci := 12) (x := x0) (ty := .int) (C := RX12) (T := TX12) (N := 55) hx hb hts (fun w h => List.mem_cons_of_mem _ (gx_12 w h)) tyX12 tyX12_ok nmX12 hown hh hA hK hP hS 0 (by decide) rfl rfl 12 (by decide) (hts _ (List.mem_cons_of_mem _ mw_624)) (fun _ h9 => h9) rfl rfl (by decide +kernel) rfl rfl (Nat.le_of_ble_eq_true rfl) dX12_workOut_2 (fun f_157 H locs ef_157 hP hS => ?_)
  have hI : sgI loM hiM f_157 := by rw [ef_157]; exact sgI.put hI 0 12 (show (-1) ≤ (x0 : Int32).toInt ∧ (x0 : Int32).toInt ≤ 0 from by omega)
  have hF : sgK WkX12_workOut f f_157 := sgK.put hF ef_157 (by rfl)
  refine lv_aload_n hx hb dX12_workOut_5 rfl (lv_at hl 0 rfl) ?_
  refine lv_iconst (v := 0) hx hb dX12_workOut_6 (by decide) ?_
  refine sg_put (ci := 12) (x := 0) (ty := .int) (C := RX12) (T := TX12) (N := 55) hx hb hts (fun w h => List.mem_cons_of_mem _ (gx_12 w h)) tyX12 tyX12_ok nmX12 hown hh hA hK hP hS 0 (by decide) rfl rfl 13 (by decide) (hts _ (List.mem_cons_of_mem _ mw_625)) (fun _ h9 => h9) rfl rfl (by decide +kernel) rfl rfl (Nat.le_of_ble_eq_true rfl) dX12_workOut_7 (fun f_158 H locs ef_158 hP hS => ?_)
  have hI : sgI loM hiM f_158 := by rw [ef_158]; exact sgI.put hI 0 13 (show 0 ≤ (0 : Int32).toInt ∧ (0 : Int32).toInt ≤ 120 from by decide)
  have hF : sgK WkX12_workOut f f_158 := sgK.put hF ef_158 (by rfl)
  refine lv_aload_n hx hb dX12_workOut_10 rfl (lv_at hl 0 rfl) ?_
  refine lv_iload_n hx hb dX12_workOut_11 rfl (lv_at hl 2 rfl) ?_
  refine sg_put (ci := 12) (x := x1) (ty := .int) (C := RX12) (T := TX12) (N := 55) hx hb hts (fun w h => List.mem_cons_of_mem _ (gx_12 w h)) tyX12 tyX12_ok nmX12 hown hh hA hK hP hS 0 (by decide) rfl rfl 14 (by decide) (hts _ (List.mem_cons_of_mem _ mw_626)) (fun _ h9 => h9) rfl rfl (by decide +kernel) rfl rfl (Nat.le_of_ble_eq_true rfl) dX12_workOut_12 (fun f_159 H locs ef_159 hP hS => ?_)
  have hI : sgI loM hiM f_159 := by rw [ef_159]; exact sgI.put hI 0 14 (show 0 ≤ (x1 : Int32).toInt ∧ (x1 : Int32).toInt ≤ 120 from by omega)
  have hF : sgK WkX12_workOut f f_159 := sgK.put hF ef_159 (by rfl)
  refine lv_aload_n hx hb dX12_workOut_15 rfl (lv_at hl 0 rfl) ?_
  refine lv_iconst (v := (-1)) hx hb dX12_workOut_16 (by decide) ?_
  refine sg_put (ci := 12) (x := (-1)) (ty := .int) (C := RX12) (T := TX12) (N := 55) hx hb hts (fun w h => List.mem_cons_of_mem _ (gx_12 w h)) tyX12 tyX12_ok nmX12 hown hh hA hK hP hS 0 (by decide) rfl rfl 15 (by decide) (hts _ (List.mem_cons_of_mem _ mw_627)) (fun _ h9 => h9) rfl rfl (by decide +kernel) rfl rfl (Nat.le_of_ble_eq_true rfl) dX12_workOut_17 (fun f_160 H locs ef_160 hP hS => ?_)
  have hI : sgI loM hiM f_160 := by rw [ef_160]; exact sgI.put hI 0 15 (show (-1) ≤ ((-1) : Int32).toInt ∧ ((-1) : Int32).toInt ≤ 120 from by decide)
  have hF : sgK WkX12_workOut f f_160 := sgK.put hF ef_160 (by rfl)
  refine lv_aload_n hx hb dX12_workOut_20 rfl (lv_at hl 0 rfl) ?_
  refine lv_iconst (v := 0) hx hb dX12_workOut_21 (by decide) ?_
  refine sg_put (ci := 12) (x := 0) (ty := .int) (C := RX12) (T := TX12) (N := 55) hx hb hts (fun w h => List.mem_cons_of_mem _ (gx_12 w h)) tyX12 tyX12_ok nmX12 hown hh hA hK hP hS 0 (by decide) rfl rfl 16 (by decide) (hts _ (List.mem_cons_of_mem _ mw_628)) (fun _ h9 => h9) rfl rfl (by decide +kernel) rfl rfl (Nat.le_of_ble_eq_true rfl) dX12_workOut_22 (fun f_161 H locs ef_161 hP hS => ?_)
  have hI : sgI loM hiM f_161 := by rw [ef_161]; exact sgI.put hI 0 16 (show 0 ≤ (0 : Int32).toInt ∧ (0 : Int32).toInt ≤ 6 from by decide)
  have hF : sgK WkX12_workOut f f_161 := sgK.put hF ef_161 (by rfl)
  refine lv_iconst (v := 0) hx hb dX12_workOut_25 (by decide) ?_
  refine lv_istore_n (lv' := [(3, .int 0), (0, .ref (h 0)), (1, .int x0), (2, .int x1)]) hx hb dX12_workOut_26 rfl hl (by decide) rfl (fun ls hl => ?_)
  refine lv_iconst (v := 0) hx hb dX12_workOut_27 (by decide) ?_
  refine lv_istore (lv' := [(4, .int 0), (3, .int 0), (0, .ref (h 0)), (1, .int x0), (2, .int x1)]) hx hb dX12_workOut_28 hl (by decide) rfl (fun ls hl => ?_)
  refine lv_iconst (v := 1) hx hb dX12_workOut_30 (by decide) ?_
  refine lv_istore (lv' := [(5, .int 1), (4, .int 0), (3, .int 0), (0, .ref (h 0)), (1, .int x0), (2, .int x1)]) hx hb dX12_workOut_31 hl (by decide) rfl (fun ls hl => ?_)
  exact loop_33 300 0 0 1 f_161 _ _ _ (by have kc0 : (0 : Int32).toInt = 0 := (by decide); have kc1 : (0 : Int32).toInt = 0 := (by decide); have kc2 : (1 : Int32).toInt = 1 := (by decide); have zz0_13 : (f_161 0 13).toInt = 0 := (congrArg Int32.toInt (show f_161 0 13 = 0 from (by rw [ef_161, sg_up_s, sgu_n (by decide)]; exact (by rw [ef_160, sg_up_s, sgu_n (by decide)]; exact (by rw [ef_159, sg_up_s, sgu_n (by decide)]; exact (by rw [ef_158, sg_up_s, sgu_s])))))).trans (by decide); omega) (by decide) (by decide) (by have kc0 : (0 : Int32).toInt = 0 := (by decide); have kc1 : (0 : Int32).toInt = 0 := (by decide); have kc2 : (1 : Int32).toInt = 1 := (by decide); have zz0_15 : (f_161 0 15).toInt = (-1) := (congrArg Int32.toInt (show f_161 0 15 = (-1) from (by rw [ef_161, sg_up_s, sgu_n (by decide)]; exact (by rw [ef_160, sg_up_s, sgu_s])))).trans (by decide); have zz0_16 : (f_161 0 16).toInt = 0 := (congrArg Int32.toInt (show f_161 0 16 = 0 from (by rw [ef_161, sg_up_s, sgu_s]))).trans (by decide); omega) hI hF hP hS (lv_sub hl [3, 2, 1, 0] rfl)

abbrev WkX12_law : List (Nat × Nat × Option Nat) := [(0, 0, some 9), (0, 0, some 11), (0, 0, some 12), (0, 0, some 13), (0, 0, some 14), (0, 0, some 15), (0, 0, some 16), (7, 7, none)]
set_option maxHeartbeats 4000000 in
set_option maxRecDepth 100000 in
theorem kX12_law (l : Launch) (D : va_G) (ca : Nat → ClassId) (za h : Nat → Nat) (hh : sgH 26 h) (f : sg_F) (L : sg_L) (Q : sg_Q) (hI : sgI loM hiM f) (sz : Nat) : Met l yX12_law gwX12_law { frames := 44, cells := 0, slots := 0, locals := 1006 } (sgP D vwCl (tyX ca) 26 h (eM ca h) zcM za f L Q sz [.ref (h 0)]) (sgQi D vwCl 26 h (eM ca h) sz (fun r f1 L1 Q1 => ((sgI loM hiM f1 ∧ sgK WkX12_law f f1 ∧ L1 = L ∧ Q1 = Q) ∧ ((-220) ≤ r.toInt ∧ r.toInt ≤ 1)))) 0 0 (sgA 26 h sz) := by
  refine sg_ofWi (cc := cX12_law) (maxL := 4) RX12 (by decide) rfl rfl (Nat.le_of_ble_eq_true rfl) ?_
  intro p e s m below meth cd Qz ls hx hb hml hown hts hK hZ hP hS hl hret
  have hA := sgY.self (n := 26) (h := h) (sz := s.heap.size)
  have hl : lv_has ls 4 [(0, .ref (h 0))] := hl
  obtain ⟨H, hH⟩ : ∃ z : Heap, z = s.heap := ⟨_, rfl⟩
  obtain ⟨locs, hlo⟩ : ∃ z : List Loc, z = [] := ⟨_, rfl⟩
  have hP : va_P D vwCl (sgw 26 h (eM ca h) f L Q) H := by rw [hH]; exact hP
  have hS : va_S (sgA 26 h s.heap.size) s.heap H locs := by rw [hH, hlo]; exact hS
  suffices hgo : W p l e ({ frames := 44, cells := 0, slots := 0, locals := 1006 }) s m ([.ref (h 0)] : List Value).toArray below meth cd H locs 0 0 Qz (F0 m 0 ls []) by rw [hH, hlo] at hgo; exact hgo
  clear hH hlo
  have hF : sgK WkX12_law f f := sgK.rf
  have loop_37 : ∀ (n_37 : Nat) (y2_37 : Int32) (y3_37 : Int32) (fp_37 : sg_F) (H : Heap) (locs : List Loc) (ls : Array Slot), 120 - y3_37.toInt < (n_37 : Int) → (-1) ≤ (fp_37 0 15).toInt ∧ (fp_37 0 15).toInt ≤ (-1) → 0 ≤ (fp_37 0 9).toInt ∧ (fp_37 0 9).toInt ≤ 0 → 0 ≤ y2_37.toInt ∧ y2_37.toInt ≤ 120 → 0 ≤ y3_37.toInt ∧ y3_37.toInt ≤ 120 → sgI loM hiM fp_37 → sgK WkX12_law f fp_37 → va_P D vwCl (sgw 26 h (eM ca h) fp_37 L Q) H → va_S (sgA 26 h s.heap.size) s.heap H locs → lv_has ls 4 [(0, .ref (h 0)), (2, .int y2_37), (3, .int y3_37)] → W p l e ({ frames := 44, cells := 0, slots := 0, locals := 1006 }) s m ([.ref (h 0)] : List Value).toArray below meth cd H locs 0 0 Qz (F0 m 37 ls []) := by
    intro n_37
    induction n_37 with
    | zero => intro y2_37 y3_37 fp_37 H locs ls hm_37 hy0_37 hy1_37 hy2_37 hy3_37 hI hF hP hS hl; exact absurd hm_37 (by omega)
    | succ n_37 ih_37 =>
      intro y2_37 y3_37 fp_37 H locs ls hm_37 hy0_37 hy1_37 hy2_37 hy3_37 hI hF hP hS hl
      obtain ⟨v_1, ev_1⟩ : ∃ z : Int32, z = fp_37 0 15 := ⟨_, rfl⟩
      have q_2 : (-1) ≤ v_1.toInt ∧ v_1.toInt ≤ 120 := by rw [ev_1]; exact hI 0 15
      have q_3 : (fp_37 0 15).toInt = v_1.toInt := by rw [ev_1]
      obtain ⟨v_4, ev_4⟩ : ∃ z : Int32, z = fp_37 0 9 := ⟨_, rfl⟩
      have q_5 : 0 ≤ v_4.toInt ∧ v_4.toInt ≤ 120 := by rw [ev_4]; exact hI 0 9
      have q_6 : (fp_37 0 9).toInt = v_4.toInt := by rw [ev_4]
      refine lv_iload_n hx hb dX12_law_37 rfl (lv_at hl 2 rfl) ?_
      refine lv_iload_n hx hb dX12_law_38 rfl (lv_at hl 1 rfl) ?_
      refine lv_icmp_ge (tgt := 60) hx hb dX12_law_39 (by decide) (fun c => ?_) (fun c => ?_)
      · skip
        have c_7 : y2_37.toInt ≤ y3_37.toInt := (by have z := bn_le c; omega)
        refine lv_aload_n hx hb dX12_law_60 rfl (lv_at hl 0 rfl) ?_
        refine lv_iload_n hx hb dX12_law_61 rfl (lv_at hl 1 rfl) ?_
        refine sg_put (ci := 12) (x := y2_37) (ty := .int) (C := RX12) (T := TX12) (N := 55) hx hb hts (fun w h => List.mem_cons_of_mem _ (gx_12 w h)) tyX12 tyX12_ok nmX12 hown hh hA hK hP hS 0 (by decide) rfl rfl 11 (by decide) (hts _ (List.mem_cons_of_mem _ mw_723)) (fun _ h9 => h9) rfl rfl (by decide +kernel) rfl rfl (Nat.le_of_ble_eq_true rfl) dX12_law_62 (fun f_9 H locs ef_9 hP hS => ?_)
        have hI : sgI loM hiM f_9 := by rw [ef_9]; exact sgI.put hI 0 11 (show (-1) ≤ (y2_37 : Int32).toInt ∧ (y2_37 : Int32).toInt ≤ 120 from by omega)
        have hF : sgK WkX12_law f f_9 := sgK.put hF ef_9 (by rfl)
        refine lv_iconst (v := 1) hx hb dX12_law_65 (by decide) ?_
        have k99 : (1 : Int32).toInt = 1 := (by decide)
        exact hret _ _ _ _ (1) f_9 L Q dX12_law_66 hP hS ⟨⟨hI, hF, rfl, rfl⟩, (by decide)⟩
      · skip
        have c_8 : y3_37.toInt < y2_37.toInt := (by have z := bn_nle c; omega)
        refine lv_aload_n hx hb dX12_law_42 rfl (lv_at hl 0 rfl) ?_
        refine sg_get (ci := 12) (v := .ref (h 7)) (C := RX12) (T := TX12) (N := 55) hx hb hts (fun w h => List.mem_cons_of_mem _ (gx_12 w h)) hown hK hP 0 (by decide) rfl rfl 10 (by decide) (hts _ (List.mem_cons_of_mem _ mw_830)) (fun _ h9 => h9) rfl dX12_law_43 ?_
        refine lv_iload_n hx hb dX12_law_46 rfl (lv_at hl 2 rfl) ?_
        refine lv_aload_n hx hb dX12_law_47 rfl (lv_at hl 0 rfl) ?_
        refine sg_get (ci := 12) (v := .ref (h 6)) (C := RX12) (T := TX12) (N := 55) hx hb hts (fun w h => List.mem_cons_of_mem _ (gx_12 w h)) hown hK hP 0 (by decide) rfl rfl 8 (by decide) (hts _ (List.mem_cons_of_mem _ mw_655)) (fun _ h9 => h9) rfl dX12_law_48 ?_
        refine lv_iload_n hx hb dX12_law_51 rfl (lv_at hl 2 rfl) ?_
        refine sg_iald hx hb hK hP 6 (by decide) 0 rfl rfl (i := y3_37) (vp_in_iff.mpr ⟨by omega, by omega⟩) dX12_law_52 ?_
        refine lv_topi (fun v_10 ev_10 => ?_)
        have q_11 : 0 ≤ v_10.toInt ∧ v_10.toInt ≤ 255 := by rw [ev_10]; exact hI 6 _
        refine sg_iast hx hb hh hA hK hP hS 7 (by decide) 0 (fun _ => rfl) rfl (i := y3_37) (x := v_10) (vp_in_iff.mpr ⟨by omega, by omega⟩) dX12_law_53 (fun f_12 H locs ef_12 hP hS => ?_)
        have hI : sgI loM hiM f_12 := by rw [ef_12]; exact sgI.put hI 7 y3_37.toNatClampNeg (show 0 ≤ (v_10 : Int32).toInt ∧ (v_10 : Int32).toInt ≤ 255 from by omega)
        have hF : sgK WkX12_law f f_12 := sgK.put hF ef_12 (by rfl)
        obtain ⟨v_13, ev_13⟩ : ∃ z : Int32, z = y3_37 + 1 := ⟨_, rfl⟩
        have q_14 : v_13.toInt = y3_37.toInt + 1 := by rw [ev_13]; exact (bn_addc y3_37 1 (by decide) (by omega) (by omega))
        refine lv_iinc (v := v_13) (lv' := [(3, .int v_13), (0, .ref (h 0)), (2, .int y2_37)]) hx hb dX12_law_54 hl (k := 2) rfl (by rw [ev_13]; rfl) (by decide) rfl (fun ls hl => ?_)
        refine lv_goto (tgt := 37) hx hb dX12_law_57 (by decide) ?_
        exact ih_37 y2_37 v_13 f_12 _ _ _ (by omega) (by have zz0_15 : (f_12 0 15).toInt = v_1.toInt := (congrArg Int32.toInt (show f_12 0 15 = v_1 from (by rw [ef_12, sg_up_n (by decide)]; exact ev_1.symm))); omega) (by have zz0_9 : (f_12 0 9).toInt = v_4.toInt := (congrArg Int32.toInt (show f_12 0 9 = v_4 from (by rw [ef_12, sg_up_n (by decide)]; exact ev_4.symm))); omega) (by omega) (by omega) hI hF hP hS (lv_sub hl [1, 2, 0] rfl)
  refine lv_aload_n hx hb dX12_law_0 rfl (lv_at hl 0 rfl) ?_
  refine lv_iconst (v := (-1)) hx hb dX12_law_1 (by decide) ?_
  refine lv_aload_n hx hb dX12_law_2 rfl (lv_at hl 0 rfl) ?_
  refine sg_get (ci := 12) (v := .int (f 0 9)) (C := RX12) (T := TX12) (N := 55) hx hb hts (fun w h => List.mem_cons_of_mem _ (gx_12 w h)) hown hK hP 0 (by decide) rfl rfl 9 (by decide) (hts _ (List.mem_cons_of_mem _ mw_606)) (fun _ h9 => h9) rfl dX12_law_3 ?_
  refine lv_topi (fun v_15 ev_15 => ?_)
  have q_16 : 0 ≤ v_15.toInt ∧ v_15.toInt ≤ 120 := by rw [ev_15]; exact hI 0 9
  refine sg_calli (va_runV (As := [.int (-1), .int v_15]) (rest := []) ⟨hx, hb, hml, hown, hts⟩ (kX12_workOut l D ca za h hh f L Q hI (-1) v_15 (by decide) (by omega) H.size) (cwV 2 hts (gw_V (fun _ h => List.mem_cons_of_mem _ h) mw_897 mw_898 mw_899 mw_619 mw_896) rfl rfl rfl (by decide +kernel) ⟨Nat.le_of_ble_eq_true rfl, Nat.le_of_ble_eq_true rfl⟩) (sg_preV (ci := 12) (C := RX12) (T := TX12) (N := 55) hA hK hP hS hZ 0 (by decide) rfl rfl) rfl rfl hl.1 rfl (lv_room (Nat.le_of_ble_eq_true rfl)) dX12_law_6 ⟨Nat.le_refl _, Nat.le_refl _⟩) hA hS (fun r_20 f_17 L_18 Q_19 H locs hq hP hS => ?_)
  obtain ⟨⟨hI, hk_f_17, eL9, eQ9⟩, hq⟩ := hq
  rw [eL9, eQ9] at hP; clear eL9 eQ9
  have hF : sgK WkX12_law f f_17 := sgK.tr hF hk_f_17 (by decide)
  refine lv_istore_n (lv' := [(1, .int r_20), (0, .ref (h 0))]) hx hb dX12_law_9 rfl hl (by decide) rfl (fun ls hl => ?_)
  refine lv_aload_n hx hb dX12_law_10 rfl (lv_at hl 1 rfl) ?_
  refine sg_get (ci := 12) (v := .int v_15) (C := RX12) (T := TX12) (N := 55) hx hb hts (fun w h => List.mem_cons_of_mem _ (gx_12 w h)) hown hK hP 0 (by decide) rfl rfl 9 (by decide) (hts _ (List.mem_cons_of_mem _ mw_606)) (fun _ h9 => h9) (congrArg (fun z => some (Value.int z)) (show f_17 0 9 = v_15 from ((hk_f_17 0 9 (by decide)).trans ev_15.symm))) dX12_law_11 ?_
  refine lv_istore_n (lv' := [(2, .int v_15), (1, .int r_20), (0, .ref (h 0))]) hx hb dX12_law_14 rfl hl (by decide) rfl (fun ls hl => ?_)
  refine lv_aload_n hx hb dX12_law_15 rfl (lv_at hl 2 rfl) ?_
  refine lv_iconst (v := 0) hx hb dX12_law_16 (by decide) ?_
  refine sg_put (ci := 12) (x := 0) (ty := .int) (C := RX12) (T := TX12) (N := 55) hx hb hts (fun w h => List.mem_cons_of_mem _ (gx_12 w h)) tyX12 tyX12_ok nmX12 hown hh hA hK hP hS 0 (by decide) rfl rfl 9 (by decide) (hts _ (List.mem_cons_of_mem _ mw_606)) (fun _ h9 => h9) rfl rfl (by decide +kernel) rfl rfl (Nat.le_of_ble_eq_true rfl) dX12_law_17 (fun f_21 H locs ef_21 hP hS => ?_)
  have hI : sgI loM hiM f_21 := by rw [ef_21]; exact sgI.put hI 0 9 (show 0 ≤ (0 : Int32).toInt ∧ (0 : Int32).toInt ≤ 120 from by decide)
  have hF : sgK WkX12_law f f_21 := sgK.put hF ef_21 (by rfl)
  refine lv_aload_n hx hb dX12_law_20 rfl (lv_at hl 2 rfl) ?_
  refine sg_get (ci := 12) (v := .int (f_21 0 15)) (C := RX12) (T := TX12) (N := 55) hx hb hts (fun w h => List.mem_cons_of_mem _ (gx_12 w h)) hown hK hP 0 (by decide) rfl rfl 15 (by decide) (hts _ (List.mem_cons_of_mem _ mw_627)) (fun _ h9 => h9) rfl dX12_law_21 ?_
  refine lv_topi (fun v_22 ev_22 => ?_)
  have q_23 : (-1) ≤ v_22.toInt ∧ v_22.toInt ≤ 120 := by rw [ev_22]; exact hI 0 15
  refine lv_if_lt (tgt := 35) hx hb dX12_law_24 (by decide) (fun c => ?_) (fun c => ?_)
  · skip
    have c_24 : v_22.toInt < 0 := (by have z := bn_lt c; have k1 : (0 : Int32).toInt = 0 := (by decide); omega)
    refine lv_iconst (v := 0) hx hb dX12_law_35 (by decide) ?_
    refine lv_istore_n (lv' := [(3, .int 0), (2, .int v_15), (1, .int r_20), (0, .ref (h 0))]) hx hb dX12_law_36 rfl hl (by decide) rfl (fun ls hl => ?_)
    exact loop_37 121 v_15 0 f_21 _ _ _ (by have kc1 : (0 : Int32).toInt = 0 := (by decide); omega) (by have zz0_15 : (f_21 0 15).toInt = v_22.toInt := (congrArg Int32.toInt (show f_21 0 15 = v_22 from ev_22.symm)); omega) (by have zz0_9 : (f_21 0 9).toInt = 0 := (congrArg Int32.toInt (show f_21 0 9 = 0 from (by rw [ef_21, sg_up_s, sgu_s]))).trans (by decide); omega) (by omega) (by decide) hI hF hP hS (lv_sub hl [3, 1, 0] rfl)
  · skip
    have c_25 : 0 ≤ v_22.toInt := (by have z := bn_nlt c; have k1 : (0 : Int32).toInt = 0 := (by decide); omega)
    refine lv_bipush (v := (-100)) hx hb dX12_law_27 (by decide) ?_
    refine lv_aload_n hx hb dX12_law_29 rfl (lv_at hl 2 rfl) ?_
    refine sg_get (ci := 12) (v := .int v_22) (C := RX12) (T := TX12) (N := 55) hx hb hts (fun w h => List.mem_cons_of_mem _ (gx_12 w h)) hown hK hP 0 (by decide) rfl rfl 15 (by decide) (hts _ (List.mem_cons_of_mem _ mw_627)) (fun _ h9 => h9) (congrArg (fun z => some (Value.int z)) (show f_21 0 15 = v_22 from ev_22.symm)) dX12_law_30 ?_
    refine lv_isub hx hb dX12_law_33 ?_
    refine lv_topi (fun v_26 ev_26 => ?_)
    have q_27 : v_26.toInt = (-100) - v_22.toInt := by rw [ev_26]; have k0 : ((-100) : Int32).toInt = (-100) := (by decide); exact (bn_subI (by omega) (by omega)).trans (by omega)
    exact hret _ _ _ _ (v_26) f_21 L Q dX12_law_34 hP hS ⟨⟨hI, hF, rfl, rfl⟩, (by omega)⟩

set_option maxHeartbeats 4000000 in
set_option maxRecDepth 100000 in
theorem kX12_numberOf (l : Launch) (D : va_G) (ca : Nat → ClassId) (za h : Nat → Nat) (hh : sgH 26 h) (f : sg_F) (L : sg_L) (Q : sg_Q) (hI : sgI loM hiM f) (x0 : Int32) (x1 : Int32) (b0 : 0 ≤ x0.toInt ∧ x0.toInt ≤ 7) (b1 : 0 ≤ x1.toInt ∧ x1.toInt ≤ 7) (sz : Nat) : Met l yX12_numberOf gwX12_numberOf { frames := 0, cells := 0, slots := 0, locals := 0 } (sgP D vwCl (tyX ca) 26 h (eM ca h) zcM za f L Q sz [.ref (h 0), .int x0, .int x1]) (sgQi D vwCl 26 h (eM ca h) sz (fun r f1 L1 Q1 => ((f1 = f ∧ L1 = L ∧ Q1 = Q) ∧ (0 ≤ r.toInt ∧ r.toInt ≤ 60)))) 0 0 (sgA 26 h sz) := by
  refine sg_ofWi (cc := cX12_numberOf) (maxL := 3) RX12 (by decide) rfl rfl (Nat.le_of_ble_eq_true rfl) ?_
  intro p e s m below meth cd Qz ls hx hb hml hown hts hK hZ hP hS hl hret
  have hA := sgY.self (n := 26) (h := h) (sz := s.heap.size)
  have hl : lv_has ls 3 [(0, .ref (h 0)), (1, .int x0), (2, .int x1)] := hl
  obtain ⟨H, hH⟩ : ∃ z : Heap, z = s.heap := ⟨_, rfl⟩
  obtain ⟨locs, hlo⟩ : ∃ z : List Loc, z = [] := ⟨_, rfl⟩
  have hP : va_P D vwCl (sgw 26 h (eM ca h) f L Q) H := by rw [hH]; exact hP
  have hS : va_S (sgA 26 h s.heap.size) s.heap H locs := by rw [hH, hlo]; exact hS
  suffices hgo : W p l e ({ frames := 0, cells := 0, slots := 0, locals := 0 }) s m ([.ref (h 0), .int x0, .int x1] : List Value).toArray below meth cd H locs 0 0 Qz (F0 m 0 ls []) by rw [hH, hlo] at hgo; exact hgo
  clear hH hlo
  refine lv_aload_n hx hb dX12_numberOf_0 rfl (lv_at hl 0 rfl) ?_
  refine sg_get (ci := 12) (v := .ref (h 1)) (C := RX12) (T := TX12) (N := 55) hx hb hts (fun w h => List.mem_cons_of_mem _ (gx_12 w h)) hown hK hP 0 (by decide) rfl rfl 0 (by decide) (hts _ (List.mem_cons_of_mem _ mw_600)) (fun _ h9 => h9) rfl dX12_numberOf_1 ?_
  refine lv_bipush (v := 8) hx hb dX12_numberOf_4 (by decide) ?_
  refine lv_iload_n hx hb dX12_numberOf_6 rfl (lv_at hl 2 rfl) ?_
  refine lv_imul hx hb dX12_numberOf_7 ?_
  refine lv_topi (fun v_1 ev_1 => ?_)
  have q_2 : v_1.toInt = 8 * x1.toInt := by rw [ev_1]; exact bn_mulJ (by decide) (by omega) (by omega)
  refine lv_iload_n hx hb dX12_numberOf_8 rfl (lv_at hl 1 rfl) ?_
  refine lv_iadd hx hb dX12_numberOf_9 ?_
  refine lv_topi (fun v_3 ev_3 => ?_)
  have q_4 : v_3.toInt = v_1.toInt + x0.toInt := by rw [ev_3]; exact (bn_addI (by omega) (by omega)).trans (by omega)
  refine sg_iald hx hb hK hP 1 (by decide) 0 rfl rfl (i := v_3) (vp_in_iff.mpr ⟨by omega, by omega⟩) dX12_numberOf_10 ?_
  refine lv_topi (fun v_5 ev_5 => ?_)
  have q_6 : v_3.toInt < 64 → v_5.toInt ≤ 60 := by rw [ev_5]; have z1 := segM1_r hI (j := Int32.toNatClampNeg v_3); have z2 := bn_clI (x := v_3) (by omega); intro z3; exact (z1.2.2 (by omega)).2
  have q_7 : 0 ≤ v_5.toInt ∧ v_5.toInt ≤ 60 := by rw [ev_5]; have z1 := segM1_r hI (j := Int32.toNatClampNeg v_3); have z2 := bn_clI (x := v_3) (by omega); omega
  exact hret _ _ _ _ (v_5) f L Q dX12_numberOf_11 hP hS ⟨⟨rfl, rfl, rfl⟩, (by omega)⟩

set_option maxHeartbeats 4000000 in
set_option maxRecDepth 100000 in
theorem kX12_sizeOf (l : Launch) (D : va_G) (ca : Nat → ClassId) (za h : Nat → Nat) (hh : sgH 26 h) (f : sg_F) (L : sg_L) (Q : sg_Q) (hI : sgI loM hiM f) (x0 : Int32) (b0 : (-60) ≤ x0.toInt ∧ x0.toInt ≤ 60) (sz : Nat) : Met l yX12_sizeOf gwX12_sizeOf { frames := 0, cells := 0, slots := 0, locals := 0 } (sgP D vwCl (tyX ca) 26 h (eM ca h) zcM za f L Q sz [.int x0]) (sgQi D vwCl 26 h (eM ca h) sz (fun r f1 L1 Q1 => ((f1 = f ∧ L1 = L ∧ Q1 = Q) ∧ (0 ≤ r.toInt ∧ r.toInt ≤ 60)))) 0 0 (sgA 26 h sz) := by
  refine sg_ofWi (cc := cX12_sizeOf) (maxL := 1) RX12 (by decide) rfl rfl (Nat.le_of_ble_eq_true rfl) ?_
  intro p e s m below meth cd Qz ls hx hb hml hown hts hK hZ hP hS hl hret
  have hA := sgY.self (n := 26) (h := h) (sz := s.heap.size)
  have hl : lv_has ls 1 [(0, .int x0)] := hl
  obtain ⟨H, hH⟩ : ∃ z : Heap, z = s.heap := ⟨_, rfl⟩
  obtain ⟨locs, hlo⟩ : ∃ z : List Loc, z = [] := ⟨_, rfl⟩
  have hP : va_P D vwCl (sgw 26 h (eM ca h) f L Q) H := by rw [hH]; exact hP
  have hS : va_S (sgA 26 h s.heap.size) s.heap H locs := by rw [hH, hlo]; exact hS
  suffices hgo : W p l e ({ frames := 0, cells := 0, slots := 0, locals := 0 }) s m ([.int x0] : List Value).toArray below meth cd H locs 0 0 Qz (F0 m 0 ls []) by rw [hH, hlo] at hgo; exact hgo
  clear hH hlo
  refine lv_iload_n hx hb dX12_sizeOf_0 rfl (lv_at hl 0 rfl) ?_
  refine lv_if_ge (tgt := 9) hx hb dX12_sizeOf_1 (by decide) (fun c => ?_) (fun c => ?_)
  · skip
    have c_1 : 0 ≤ x0.toInt := (by have z := bn_le c; have k1 : (0 : Int32).toInt = 0 := (by decide); omega)
    refine lv_iload_n hx hb dX12_sizeOf_9 rfl (lv_at hl 0 rfl) ?_
    exact hret _ _ _ _ (x0) f L Q dX12_sizeOf_10 hP hS ⟨⟨rfl, rfl, rfl⟩, (by omega)⟩
  · skip
    have c_2 : x0.toInt < 0 := (by have z := bn_nle c; have k1 : (0 : Int32).toInt = 0 := (by decide); omega)
    refine lv_iload_n hx hb dX12_sizeOf_4 rfl (lv_at hl 0 rfl) ?_
    refine lv_ineg hx hb dX12_sizeOf_5 ?_
    refine lv_topi (fun v_3 ev_3 => ?_)
    have q_4 : v_3.toInt = -x0.toInt := by rw [ev_3]; exact bn_negI (by omega)
    refine lv_goto (tgt := 10) hx hb dX12_sizeOf_6 (by decide) ?_
    exact hret _ _ _ _ (v_3) f L Q dX12_sizeOf_10 hP hS ⟨⟨rfl, rfl, rfl⟩, (by omega)⟩

abbrev WkX12_lossOf : List (Nat × Nat × Option Nat) := [(0, 0, some 12), (0, 0, some 13), (0, 0, some 14), (0, 0, some 15), (0, 0, some 16), (8, 8, none)]
set_option maxHeartbeats 4000000 in
set_option maxRecDepth 100000 in
theorem kX12_lossOf (l : Launch) (D : va_G) (ca : Nat → ClassId) (za h : Nat → Nat) (hh : sgH 26 h) (f : sg_F) (L : sg_L) (Q : sg_Q) (hI : sgI loM hiM f) (x0 : Int32) (x1 : Int32) (x2 : Int32) (b0 : 0 ≤ x0.toInt ∧ x0.toInt ≤ 7) (b1 : 0 ≤ x1.toInt ∧ x1.toInt ≤ 2) (b2 : 0 ≤ x2.toInt ∧ x2.toInt ≤ 60) (sz : Nat) : Met l yX12_lossOf gwX12_lossOf { frames := 44, cells := 0, slots := 0, locals := 1006 } (sgP D vwCl (tyX ca) 26 h (eM ca h) zcM za f L Q sz [.ref (h 0), .int x0, .int x1, .int x2]) (sgQi D vwCl 26 h (eM ca h) sz (fun r f1 L1 Q1 => ((sgI loM hiM f1 ∧ sgK WkX12_lossOf f f1 ∧ L1 = L ∧ Q1 = Q) ∧ True))) 0 0 (sgA 26 h sz) := by
  refine sg_ofWi (cc := cX12_lossOf) (maxL := 7) RX12 (by decide) rfl rfl (Nat.le_of_ble_eq_true rfl) ?_
  intro p e s m below meth cd Qz ls hx hb hml hown hts hK hZ hP hS hl hret
  have hA := sgY.self (n := 26) (h := h) (sz := s.heap.size)
  have hl : lv_has ls 7 [(0, .ref (h 0)), (1, .int x0), (2, .int x1), (3, .int x2)] := hl
  obtain ⟨H, hH⟩ : ∃ z : Heap, z = s.heap := ⟨_, rfl⟩
  obtain ⟨locs, hlo⟩ : ∃ z : List Loc, z = [] := ⟨_, rfl⟩
  have hP : va_P D vwCl (sgw 26 h (eM ca h) f L Q) H := by rw [hH]; exact hP
  have hS : va_S (sgA 26 h s.heap.size) s.heap H locs := by rw [hH, hlo]; exact hS
  suffices hgo : W p l e ({ frames := 44, cells := 0, slots := 0, locals := 1006 }) s m ([.ref (h 0), .int x0, .int x1, .int x2] : List Value).toArray below meth cd H locs 0 0 Qz (F0 m 0 ls []) by rw [hH, hlo] at hgo; exact hgo
  clear hH hlo
  have hF : sgK WkX12_lossOf f f := sgK.rf
  refine lv_aload_n hx hb dX12_lossOf_0 rfl (lv_at hl 0 rfl) ?_
  refine lv_iload_n hx hb dX12_lossOf_1 rfl (lv_at hl 1 rfl) ?_
  refine lv_iload_n hx hb dX12_lossOf_2 rfl (lv_at hl 2 rfl) ?_
  refine sg_calli (va_runV (As := [.int x0, .int x1]) (rest := []) ⟨hx, hb, hml, hown, hts⟩ (kX12_numberOf l D ca za h hh f L Q hI x0 x1 (by omega) (by omega) H.size) (cwV 2 hts (gw_V (fun _ h => List.mem_cons_of_mem _ h) mw_720 mw_721 mw_722 mw_619 mw_719) rfl rfl rfl (by decide +kernel) ⟨Nat.le_of_ble_eq_true rfl, Nat.le_of_ble_eq_true rfl⟩) (sg_preV (ci := 12) (C := RX12) (T := TX12) (N := 55) hA hK hP hS hZ 0 (by decide) rfl rfl) rfl rfl hl.1 rfl (lv_room (Nat.le_of_ble_eq_true rfl)) dX12_lossOf_3 ⟨Nat.le_refl _, Nat.le_refl _⟩) hA hS (fun r_4 f_1 L_2 Q_3 H locs hq hP hS => ?_)
  obtain ⟨⟨ef9, eL9, eQ9⟩, hq⟩ := hq
  rw [ef9, eL9, eQ9] at hP; clear ef9 eL9 eQ9
  refine lv_istore (lv' := [(4, .int r_4), (0, .ref (h 0)), (1, .int x0), (2, .int x1), (3, .int x2)]) hx hb dX12_lossOf_6 hl (by decide) rfl (fun ls hl => ?_)
  refine lv_iload_n hx hb dX12_lossOf_8 rfl (lv_at hl 4 rfl) ?_
  refine lv_iload hx hb dX12_lossOf_9 (lv_at hl 0 rfl) ?_
  refine lv_isub hx hb dX12_lossOf_11 ?_
  refine lv_topi (fun v_5 ev_5 => ?_)
  have q_6 : v_5.toInt = x2.toInt - r_4.toInt := by rw [ev_5]; exact (bn_subI (by omega) (by omega)).trans (by omega)
  refine sg_calli (va_runS (As := [.int v_5]) (rest := []) ⟨hx, hb, hml, hown, hts⟩ (kX12_sizeOf l D ca za h hh f L Q hI v_5 (by omega) H.size) (va_cwS 1 hts (gw_S (fun _ h => List.mem_cons_of_mem _ h) mw_682 mw_683 mw_619 mw_681) rfl rfl rfl (by decide +kernel) ⟨Nat.le_of_ble_eq_true rfl, Nat.le_of_ble_eq_true rfl⟩) (sg_preS hA hK hP hS hZ) rfl rfl hl.1 rfl (lv_room (Nat.le_of_ble_eq_true rfl)) dX12_lossOf_12 ⟨Nat.le_refl _, Nat.le_refl _⟩) hA hS (fun r_10 f_7 L_8 Q_9 H locs hq hP hS => ?_)
  obtain ⟨⟨ef9, eL9, eQ9⟩, hq⟩ := hq
  rw [ef9, eL9, eQ9] at hP; clear ef9 eL9 eQ9
  refine lv_istore (lv' := [(5, .int r_10), (4, .int r_4), (0, .ref (h 0)), (1, .int x0), (2, .int x1), (3, .int x2)]) hx hb dX12_lossOf_15 hl (by decide) rfl (fun ls hl => ?_)
  refine lv_aload_n hx hb dX12_lossOf_17 rfl (lv_at hl 2 rfl) ?_
  refine sg_get (ci := 12) (v := .int (f 0 11)) (C := RX12) (T := TX12) (N := 55) hx hb hts (fun w h => List.mem_cons_of_mem _ (gx_12 w h)) hown hK hP 0 (by decide) rfl rfl 11 (by decide) (hts _ (List.mem_cons_of_mem _ mw_723)) (fun _ h9 => h9) rfl dX12_lossOf_18 ?_
  refine lv_topi (fun v_11 ev_11 => ?_)
  have q_12 : (-1) ≤ v_11.toInt ∧ v_11.toInt ≤ 120 := by rw [ev_11]; exact hI 0 11
  refine lv_if_ge (tgt := 51) hx hb dX12_lossOf_21 (by decide) (fun c => ?_) (fun c => ?_)
  · skip
    have c_13 : 0 ≤ v_11.toInt := (by have z := bn_le c; have k1 : (0 : Int32).toInt = 0 := (by decide); omega)
    refine lv_aload_n hx hb dX12_lossOf_51 rfl (lv_at hl 2 rfl) ?_
    refine sg_get (ci := 12) (v := .ref (h 8)) (C := RX12) (T := TX12) (N := 55) hx hb hts (fun w h => List.mem_cons_of_mem _ (gx_12 w h)) hown hK hP 0 (by decide) rfl rfl 17 (by decide) (hts _ (List.mem_cons_of_mem _ mw_871)) (fun _ h9 => h9) rfl dX12_lossOf_52 ?_
    refine lv_iconst (v := 0) hx hb dX12_lossOf_55 (by decide) ?_
    refine lv_iload hx hb dX12_lossOf_56 (lv_at hl 0 rfl) ?_
    refine sg_iast hx hb hh hA hK hP hS 8 (by decide) 0 (fun _ => rfl) rfl (i := 0) (x := r_10) (vp_in_iff.mpr (by decide)) dX12_lossOf_58 (fun f_15 H locs ef_15 hP hS => ?_)
    have hI : sgI loM hiM f_15 := by rw [ef_15]; exact sgI.put hI 8 (Int32.toNatClampNeg 0) (show 0 ≤ (r_10 : Int32).toInt ∧ (r_10 : Int32).toInt ≤ 60 from by omega)
    have hF : sgK WkX12_lossOf f f_15 := sgK.put hF ef_15 (by rfl)
    refine lv_aload_n hx hb dX12_lossOf_59 rfl (lv_at hl 2 rfl) ?_
    refine sg_get (ci := 12) (v := .ref (h 8)) (C := RX12) (T := TX12) (N := 55) hx hb hts (fun w h => List.mem_cons_of_mem _ (gx_12 w h)) hown hK hP 0 (by decide) rfl rfl 17 (by decide) (hts _ (List.mem_cons_of_mem _ mw_871)) (fun _ h9 => h9) rfl dX12_lossOf_60 ?_
    refine lv_iconst (v := 1) hx hb dX12_lossOf_63 (by decide) ?_
    refine lv_iload_n hx hb dX12_lossOf_64 rfl (lv_at hl 5 rfl) ?_
    refine lv_iload hx hb dX12_lossOf_65 (lv_at hl 1 rfl) ?_
    refine lv_icmp_le (tgt := 74) hx hb dX12_lossOf_67 (by decide) (fun c => ?_) (fun c => ?_)
    · skip
      have c_16 : x2.toInt ≤ r_4.toInt := (by have z := bn_le c; omega)
      refine lv_iconst (v := 0) hx hb dX12_lossOf_74 (by decide) ?_
      refine sg_iast hx hb hh hA hK hP hS 8 (by decide) 0 (fun _ => rfl) rfl (i := 1) (x := 0) (vp_in_iff.mpr (by decide)) dX12_lossOf_75 (fun f_18 H locs ef_18 hP hS => ?_)
      have hI : sgI loM hiM f_18 := by rw [ef_18]; exact sgI.put hI 8 (Int32.toNatClampNeg 1) (show 0 ≤ (0 : Int32).toInt ∧ (0 : Int32).toInt ≤ 60 from by decide)
      have hF : sgK WkX12_lossOf f f_18 := sgK.put hF ef_18 (by rfl)
      refine lv_aload_n hx hb dX12_lossOf_76 rfl (lv_at hl 2 rfl) ?_
      refine sg_get (ci := 12) (v := .ref (h 8)) (C := RX12) (T := TX12) (N := 55) hx hb hts (fun w h => List.mem_cons_of_mem _ (gx_12 w h)) hown hK hP 0 (by decide) rfl rfl 17 (by decide) (hts _ (List.mem_cons_of_mem _ mw_871)) (fun _ h9 => h9) rfl dX12_lossOf_77 ?_
      refine lv_iconst (v := 2) hx hb dX12_lossOf_80 (by decide) ?_
      refine lv_iload_n hx hb dX12_lossOf_81 rfl (lv_at hl 5 rfl) ?_
      refine sg_iast hx hb hh hA hK hP hS 8 (by decide) 0 (fun _ => rfl) rfl (i := 2) (x := x2) (vp_in_iff.mpr (by decide)) dX12_lossOf_82 (fun f_19 H locs ef_19 hP hS => ?_)
      have hI : sgI loM hiM f_19 := by rw [ef_19]; exact sgI.put hI 8 (Int32.toNatClampNeg 2) (show 0 ≤ (x2 : Int32).toInt ∧ (x2 : Int32).toInt ≤ 60 from by omega)
      have hF : sgK WkX12_lossOf f f_19 := sgK.put hF ef_19 (by rfl)
      refine lv_aload_n hx hb dX12_lossOf_83 rfl (lv_at hl 2 rfl) ?_
      refine sg_get (ci := 12) (v := .ref (h 8)) (C := RX12) (T := TX12) (N := 55) hx hb hts (fun w h => List.mem_cons_of_mem _ (gx_12 w h)) hown hK hP 0 (by decide) rfl rfl 17 (by decide) (hts _ (List.mem_cons_of_mem _ mw_871)) (fun _ h9 => h9) rfl dX12_lossOf_84 ?_
      refine lv_iconst (v := 3) hx hb dX12_lossOf_87 (by decide) ?_
      refine lv_iload hx hb dX12_lossOf_88 (lv_at hl 1 rfl) ?_
      refine sg_iast hx hb hh hA hK hP hS 8 (by decide) 0 (fun _ => rfl) rfl (i := 3) (x := r_4) (vp_in_iff.mpr (by decide)) dX12_lossOf_90 (fun f_20 H locs ef_20 hP hS => ?_)
      have hI : sgI loM hiM f_20 := by rw [ef_20]; exact sgI.put hI 8 (Int32.toNatClampNeg 3) (show 0 ≤ (r_4 : Int32).toInt ∧ (r_4 : Int32).toInt ≤ 60 from by omega)
      have hF : sgK WkX12_lossOf f f_20 := sgK.put hF ef_20 (by rfl)
      refine lv_aload_n hx hb dX12_lossOf_91 rfl (lv_at hl 2 rfl) ?_
      refine sg_get (ci := 12) (v := .ref (h 8)) (C := RX12) (T := TX12) (N := 55) hx hb hts (fun w h => List.mem_cons_of_mem _ (gx_12 w h)) hown hK hP 0 (by decide) rfl rfl 17 (by decide) (hts _ (List.mem_cons_of_mem _ mw_871)) (fun _ h9 => h9) rfl dX12_lossOf_92 ?_
      refine lv_iconst (v := 4) hx hb dX12_lossOf_95 (by decide) ?_
      refine lv_aload_n hx hb dX12_lossOf_96 rfl (lv_at hl 2 rfl) ?_
      refine lv_iload_n hx hb dX12_lossOf_97 rfl (lv_at hl 3 rfl) ?_
      refine lv_iconst (v := 5) hx hb dX12_lossOf_98 (by decide) ?_
      refine sg_calli (va_runV (As := [.int x0, .int 5]) (rest := [.int 4, .ref (h 8)]) ⟨hx, hb, hml, hown, hts⟩ (kX12_numberOf l D ca za h hh f_20 L Q hI x0 5 (by omega) (by decide) H.size) (cwV 2 hts (gw_V (fun _ h => List.mem_cons_of_mem _ h) mw_720 mw_721 mw_722 mw_619 mw_719) rfl rfl rfl (by decide +kernel) ⟨Nat.le_of_ble_eq_true rfl, Nat.le_of_ble_eq_true rfl⟩) (sg_preV (ci := 12) (C := RX12) (T := TX12) (N := 55) hA hK hP hS hZ 0 (by decide) rfl rfl) rfl rfl hl.1 rfl (lv_room (Nat.le_of_ble_eq_true rfl)) dX12_lossOf_99 ⟨Nat.le_refl _, Nat.le_refl _⟩) hA hS (fun r_24 f_21 L_22 Q_23 H locs hq hP hS => ?_)
      obtain ⟨⟨ef9, eL9, eQ9⟩, hq⟩ := hq
      rw [ef9, eL9, eQ9] at hP; clear ef9 eL9 eQ9
      refine sg_iast hx hb hh hA hK hP hS 8 (by decide) 0 (fun _ => rfl) rfl (i := 4) (x := r_24) (vp_in_iff.mpr (by decide)) dX12_lossOf_102 (fun f_25 H locs ef_25 hP hS => ?_)
      have hI : sgI loM hiM f_25 := by rw [ef_25]; exact sgI.put hI 8 (Int32.toNatClampNeg 4) (show 0 ≤ (r_24 : Int32).toInt ∧ (r_24 : Int32).toInt ≤ 60 from by omega)
      have hF : sgK WkX12_lossOf f f_25 := sgK.put hF ef_25 (by rfl)
      refine lv_aload_n hx hb dX12_lossOf_103 rfl (lv_at hl 2 rfl) ?_
      refine sg_get (ci := 12) (v := .ref (h 8)) (C := RX12) (T := TX12) (N := 55) hx hb hts (fun w h => List.mem_cons_of_mem _ (gx_12 w h)) hown hK hP 0 (by decide) rfl rfl 17 (by decide) (hts _ (List.mem_cons_of_mem _ mw_871)) (fun _ h9 => h9) rfl dX12_lossOf_104 ?_
      refine lv_iconst (v := 5) hx hb dX12_lossOf_107 (by decide) ?_
      refine lv_iload_n hx hb dX12_lossOf_108 rfl (lv_at hl 4 rfl) ?_
      refine sg_iast hx hb hh hA hK hP hS 8 (by decide) 0 (fun _ => rfl) rfl (i := 5) (x := x1) (vp_in_iff.mpr (by decide)) dX12_lossOf_109 (fun f_26 H locs ef_26 hP hS => ?_)
      have hI : sgI loM hiM f_26 := by rw [ef_26]; exact sgI.put hI 8 (Int32.toNatClampNeg 5) (show 0 ≤ (x1 : Int32).toInt ∧ (x1 : Int32).toInt ≤ 60 from by omega)
      have hF : sgK WkX12_lossOf f f_26 := sgK.put hF ef_26 (by rfl)
      refine lv_aload_n hx hb dX12_lossOf_110 rfl (lv_at hl 2 rfl) ?_
      refine lv_iconst (v := 0) hx hb dX12_lossOf_111 (by decide) ?_
      refine lv_aload_n hx hb dX12_lossOf_112 rfl (lv_at hl 2 rfl) ?_
      refine sg_get (ci := 12) (v := .int v_11) (C := RX12) (T := TX12) (N := 55) hx hb hts (fun w h => List.mem_cons_of_mem _ (gx_12 w h)) hown hK hP 0 (by decide) rfl rfl 11 (by decide) (hts _ (List.mem_cons_of_mem _ mw_723)) (fun _ h9 => h9) (congrArg (fun z => some (Value.int z)) (show f_26 0 11 = v_11 from (by rw [ef_26, sg_up_n (by decide)]; exact (by rw [ef_25, sg_up_n (by decide)]; exact (by rw [ef_20, sg_up_n (by decide)]; exact (by rw [ef_19, sg_up_n (by decide)]; exact (by rw [ef_18, sg_up_n (by decide)]; exact (by rw [ef_15, sg_up_n (by decide)]; exact ev_11.symm)))))))) dX12_lossOf_113 ?_
      refine sg_calli (va_runV (As := [.int 0, .int v_11]) (rest := []) ⟨hx, hb, hml, hown, hts⟩ (kX12_workOut l D ca za h hh f_26 L Q hI 0 v_11 (by decide) (by omega) H.size) (cwV 2 hts (gw_V (fun _ h => List.mem_cons_of_mem _ h) mw_897 mw_898 mw_899 mw_619 mw_896) rfl rfl rfl (by decide +kernel) ⟨Nat.le_of_ble_eq_true rfl, Nat.le_of_ble_eq_true rfl⟩) (sg_preV (ci := 12) (C := RX12) (T := TX12) (N := 55) hA hK hP hS hZ 0 (by decide) rfl rfl) rfl rfl hl.1 rfl (lv_room (Nat.le_of_ble_eq_true rfl)) dX12_lossOf_116 ⟨Nat.le_refl _, Nat.le_refl _⟩) hA hS (fun r_30 f_27 L_28 Q_29 H locs hq hP hS => ?_)
      obtain ⟨⟨hI, hk_f_27, eL9, eQ9⟩, hq⟩ := hq
      rw [eL9, eQ9] at hP; clear eL9 eQ9
      have hF : sgK WkX12_lossOf f f_27 := sgK.tr hF hk_f_27 (by decide)
      refine lv_istore (lv' := [(6, .int r_30), (5, .int r_10), (4, .int r_4), (0, .ref (h 0)), (1, .int x0), (2, .int x1), (3, .int x2)]) hx hb dX12_lossOf_119 hl (by decide) rfl (fun ls hl => ?_)
      refine lv_iload hx hb dX12_lossOf_121 (lv_at hl 0 rfl) ?_
      refine lv_if_ge (tgt := 130) hx hb dX12_lossOf_123 (by decide) (fun c => ?_) (fun c => ?_)
      · skip
        have c_31 : 0 ≤ r_30.toInt := (by have z := bn_le c; have k1 : (0 : Int32).toInt = 0 := (by decide); omega)
        refine lv_iload hx hb dX12_lossOf_130 (lv_at hl 0 rfl) ?_
        refine lv_sipush (v := 9999) hx hb dX12_lossOf_132 (by decide) ?_
        refine lv_icmp_le (tgt := 144) hx hb dX12_lossOf_135 (by decide) (fun c => ?_) (fun c => ?_)
        · skip
          have c_33 : r_30.toInt ≤ 9999 := (by have z := bn_le c; have k1 : (9999 : Int32).toInt = 9999 := (by decide); omega)
          refine lv_iload hx hb dX12_lossOf_144 (lv_at hl 0 rfl) ?_
          exact hret _ _ _ _ (r_30) f_27 L Q dX12_lossOf_146 hP hS ⟨⟨hI, hF, rfl, rfl⟩, trivial⟩
        · skip
          have c_34 : 9999 < r_30.toInt := (by have z := bn_nle c; have k1 : (9999 : Int32).toInt = 9999 := (by decide); omega)
          refine lv_sipush (v := 9999) hx hb dX12_lossOf_138 (by decide) ?_
          refine lv_goto (tgt := 146) hx hb dX12_lossOf_141 (by decide) ?_
          have k99 : (9999 : Int32).toInt = 9999 := (by decide)
          exact hret _ _ _ _ (9999) f_27 L Q dX12_lossOf_146 hP hS ⟨⟨hI, hF, rfl, rfl⟩, trivial⟩
      · skip
        have c_32 : r_30.toInt < 0 := (by have z := bn_nle c; have k1 : (0 : Int32).toInt = 0 := (by decide); omega)
        refine lv_iconst (v := 0) hx hb dX12_lossOf_126 (by decide) ?_
        refine lv_goto (tgt := 146) hx hb dX12_lossOf_127 (by decide) ?_
        have k99 : (0 : Int32).toInt = 0 := (by decide)
        exact hret _ _ _ _ (0) f_27 L Q dX12_lossOf_146 hP hS ⟨⟨hI, hF, rfl, rfl⟩, trivial⟩
    · skip
      have c_17 : r_4.toInt < x2.toInt := (by have z := bn_nle c; omega)
      refine lv_iconst (v := 1) hx hb dX12_lossOf_70 (by decide) ?_
      refine lv_goto (tgt := 75) hx hb dX12_lossOf_71 (by decide) ?_
      refine sg_iast hx hb hh hA hK hP hS 8 (by decide) 0 (fun _ => rfl) rfl (i := 1) (x := 1) (vp_in_iff.mpr (by decide)) dX12_lossOf_75 (fun f_35 H locs ef_35 hP hS => ?_)
      have hI : sgI loM hiM f_35 := by rw [ef_35]; exact sgI.put hI 8 (Int32.toNatClampNeg 1) (show 0 ≤ (1 : Int32).toInt ∧ (1 : Int32).toInt ≤ 60 from by decide)
      have hF : sgK WkX12_lossOf f f_35 := sgK.put hF ef_35 (by rfl)
      refine lv_aload_n hx hb dX12_lossOf_76 rfl (lv_at hl 2 rfl) ?_
      refine sg_get (ci := 12) (v := .ref (h 8)) (C := RX12) (T := TX12) (N := 55) hx hb hts (fun w h => List.mem_cons_of_mem _ (gx_12 w h)) hown hK hP 0 (by decide) rfl rfl 17 (by decide) (hts _ (List.mem_cons_of_mem _ mw_871)) (fun _ h9 => h9) rfl dX12_lossOf_77 ?_
      refine lv_iconst (v := 2) hx hb dX12_lossOf_80 (by decide) ?_
      refine lv_iload_n hx hb dX12_lossOf_81 rfl (lv_at hl 5 rfl) ?_
      refine sg_iast hx hb hh hA hK hP hS 8 (by decide) 0 (fun _ => rfl) rfl (i := 2) (x := x2) (vp_in_iff.mpr (by decide)) dX12_lossOf_82 (fun f_36 H locs ef_36 hP hS => ?_)
      have hI : sgI loM hiM f_36 := by rw [ef_36]; exact sgI.put hI 8 (Int32.toNatClampNeg 2) (show 0 ≤ (x2 : Int32).toInt ∧ (x2 : Int32).toInt ≤ 60 from by omega)
      have hF : sgK WkX12_lossOf f f_36 := sgK.put hF ef_36 (by rfl)
      refine lv_aload_n hx hb dX12_lossOf_83 rfl (lv_at hl 2 rfl) ?_
      refine sg_get (ci := 12) (v := .ref (h 8)) (C := RX12) (T := TX12) (N := 55) hx hb hts (fun w h => List.mem_cons_of_mem _ (gx_12 w h)) hown hK hP 0 (by decide) rfl rfl 17 (by decide) (hts _ (List.mem_cons_of_mem _ mw_871)) (fun _ h9 => h9) rfl dX12_lossOf_84 ?_
      refine lv_iconst (v := 3) hx hb dX12_lossOf_87 (by decide) ?_
      refine lv_iload hx hb dX12_lossOf_88 (lv_at hl 1 rfl) ?_
      refine sg_iast hx hb hh hA hK hP hS 8 (by decide) 0 (fun _ => rfl) rfl (i := 3) (x := r_4) (vp_in_iff.mpr (by decide)) dX12_lossOf_90 (fun f_37 H locs ef_37 hP hS => ?_)
      have hI : sgI loM hiM f_37 := by rw [ef_37]; exact sgI.put hI 8 (Int32.toNatClampNeg 3) (show 0 ≤ (r_4 : Int32).toInt ∧ (r_4 : Int32).toInt ≤ 60 from by omega)
      have hF : sgK WkX12_lossOf f f_37 := sgK.put hF ef_37 (by rfl)
      refine lv_aload_n hx hb dX12_lossOf_91 rfl (lv_at hl 2 rfl) ?_
      refine sg_get (ci := 12) (v := .ref (h 8)) (C := RX12) (T := TX12) (N := 55) hx hb hts (fun w h => List.mem_cons_of_mem _ (gx_12 w h)) hown hK hP 0 (by decide) rfl rfl 17 (by decide) (hts _ (List.mem_cons_of_mem _ mw_871)) (fun _ h9 => h9) rfl dX12_lossOf_92 ?_
      refine lv_iconst (v := 4) hx hb dX12_lossOf_95 (by decide) ?_
      refine lv_aload_n hx hb dX12_lossOf_96 rfl (lv_at hl 2 rfl) ?_
      refine lv_iload_n hx hb dX12_lossOf_97 rfl (lv_at hl 3 rfl) ?_
      refine lv_iconst (v := 5) hx hb dX12_lossOf_98 (by decide) ?_
      refine sg_calli (va_runV (As := [.int x0, .int 5]) (rest := [.int 4, .ref (h 8)]) ⟨hx, hb, hml, hown, hts⟩ (kX12_numberOf l D ca za h hh f_37 L Q hI x0 5 (by omega) (by decide) H.size) (cwV 2 hts (gw_V (fun _ h => List.mem_cons_of_mem _ h) mw_720 mw_721 mw_722 mw_619 mw_719) rfl rfl rfl (by decide +kernel) ⟨Nat.le_of_ble_eq_true rfl, Nat.le_of_ble_eq_true rfl⟩) (sg_preV (ci := 12) (C := RX12) (T := TX12) (N := 55) hA hK hP hS hZ 0 (by decide) rfl rfl) rfl rfl hl.1 rfl (lv_room (Nat.le_of_ble_eq_true rfl)) dX12_lossOf_99 ⟨Nat.le_refl _, Nat.le_refl _⟩) hA hS (fun r_41 f_38 L_39 Q_40 H locs hq hP hS => ?_)
      obtain ⟨⟨ef9, eL9, eQ9⟩, hq⟩ := hq
      rw [ef9, eL9, eQ9] at hP; clear ef9 eL9 eQ9
      refine sg_iast hx hb hh hA hK hP hS 8 (by decide) 0 (fun _ => rfl) rfl (i := 4) (x := r_41) (vp_in_iff.mpr (by decide)) dX12_lossOf_102 (fun f_42 H locs ef_42 hP hS => ?_)
      have hI : sgI loM hiM f_42 := by rw [ef_42]; exact sgI.put hI 8 (Int32.toNatClampNeg 4) (show 0 ≤ (r_41 : Int32).toInt ∧ (r_41 : Int32).toInt ≤ 60 from by omega)
      have hF : sgK WkX12_lossOf f f_42 := sgK.put hF ef_42 (by rfl)
      refine lv_aload_n hx hb dX12_lossOf_103 rfl (lv_at hl 2 rfl) ?_
      refine sg_get (ci := 12) (v := .ref (h 8)) (C := RX12) (T := TX12) (N := 55) hx hb hts (fun w h => List.mem_cons_of_mem _ (gx_12 w h)) hown hK hP 0 (by decide) rfl rfl 17 (by decide) (hts _ (List.mem_cons_of_mem _ mw_871)) (fun _ h9 => h9) rfl dX12_lossOf_104 ?_
      refine lv_iconst (v := 5) hx hb dX12_lossOf_107 (by decide) ?_
      refine lv_iload_n hx hb dX12_lossOf_108 rfl (lv_at hl 4 rfl) ?_
      refine sg_iast hx hb hh hA hK hP hS 8 (by decide) 0 (fun _ => rfl) rfl (i := 5) (x := x1) (vp_in_iff.mpr (by decide)) dX12_lossOf_109 (fun f_43 H locs ef_43 hP hS => ?_)
      have hI : sgI loM hiM f_43 := by rw [ef_43]; exact sgI.put hI 8 (Int32.toNatClampNeg 5) (show 0 ≤ (x1 : Int32).toInt ∧ (x1 : Int32).toInt ≤ 60 from by omega)
      have hF : sgK WkX12_lossOf f f_43 := sgK.put hF ef_43 (by rfl)
      refine lv_aload_n hx hb dX12_lossOf_110 rfl (lv_at hl 2 rfl) ?_
      refine lv_iconst (v := 0) hx hb dX12_lossOf_111 (by decide) ?_
      refine lv_aload_n hx hb dX12_lossOf_112 rfl (lv_at hl 2 rfl) ?_
      refine sg_get (ci := 12) (v := .int v_11) (C := RX12) (T := TX12) (N := 55) hx hb hts (fun w h => List.mem_cons_of_mem _ (gx_12 w h)) hown hK hP 0 (by decide) rfl rfl 11 (by decide) (hts _ (List.mem_cons_of_mem _ mw_723)) (fun _ h9 => h9) (congrArg (fun z => some (Value.int z)) (show f_43 0 11 = v_11 from (by rw [ef_43, sg_up_n (by decide)]; exact (by rw [ef_42, sg_up_n (by decide)]; exact (by rw [ef_37, sg_up_n (by decide)]; exact (by rw [ef_36, sg_up_n (by decide)]; exact (by rw [ef_35, sg_up_n (by decide)]; exact (by rw [ef_15, sg_up_n (by decide)]; exact ev_11.symm)))))))) dX12_lossOf_113 ?_
      refine sg_calli (va_runV (As := [.int 0, .int v_11]) (rest := []) ⟨hx, hb, hml, hown, hts⟩ (kX12_workOut l D ca za h hh f_43 L Q hI 0 v_11 (by decide) (by omega) H.size) (cwV 2 hts (gw_V (fun _ h => List.mem_cons_of_mem _ h) mw_897 mw_898 mw_899 mw_619 mw_896) rfl rfl rfl (by decide +kernel) ⟨Nat.le_of_ble_eq_true rfl, Nat.le_of_ble_eq_true rfl⟩) (sg_preV (ci := 12) (C := RX12) (T := TX12) (N := 55) hA hK hP hS hZ 0 (by decide) rfl rfl) rfl rfl hl.1 rfl (lv_room (Nat.le_of_ble_eq_true rfl)) dX12_lossOf_116 ⟨Nat.le_refl _, Nat.le_refl _⟩) hA hS (fun r_47 f_44 L_45 Q_46 H locs hq hP hS => ?_)
      obtain ⟨⟨hI, hk_f_44, eL9, eQ9⟩, hq⟩ := hq
      rw [eL9, eQ9] at hP; clear eL9 eQ9
      have hF : sgK WkX12_lossOf f f_44 := sgK.tr hF hk_f_44 (by decide)
      refine lv_istore (lv' := [(6, .int r_47), (5, .int r_10), (4, .int r_4), (0, .ref (h 0)), (1, .int x0), (2, .int x1), (3, .int x2)]) hx hb dX12_lossOf_119 hl (by decide) rfl (fun ls hl => ?_)
      refine lv_iload hx hb dX12_lossOf_121 (lv_at hl 0 rfl) ?_
      refine lv_if_ge (tgt := 130) hx hb dX12_lossOf_123 (by decide) (fun c => ?_) (fun c => ?_)
      · skip
        have c_48 : 0 ≤ r_47.toInt := (by have z := bn_le c; have k1 : (0 : Int32).toInt = 0 := (by decide); omega)
        refine lv_iload hx hb dX12_lossOf_130 (lv_at hl 0 rfl) ?_
        refine lv_sipush (v := 9999) hx hb dX12_lossOf_132 (by decide) ?_
        refine lv_icmp_le (tgt := 144) hx hb dX12_lossOf_135 (by decide) (fun c => ?_) (fun c => ?_)
        · skip
          have c_50 : r_47.toInt ≤ 9999 := (by have z := bn_le c; have k1 : (9999 : Int32).toInt = 9999 := (by decide); omega)
          refine lv_iload hx hb dX12_lossOf_144 (lv_at hl 0 rfl) ?_
          exact hret _ _ _ _ (r_47) f_44 L Q dX12_lossOf_146 hP hS ⟨⟨hI, hF, rfl, rfl⟩, trivial⟩
        · skip
          have c_51 : 9999 < r_47.toInt := (by have z := bn_nle c; have k1 : (9999 : Int32).toInt = 9999 := (by decide); omega)
          refine lv_sipush (v := 9999) hx hb dX12_lossOf_138 (by decide) ?_
          refine lv_goto (tgt := 146) hx hb dX12_lossOf_141 (by decide) ?_
          have k99 : (9999 : Int32).toInt = 9999 := (by decide)
          exact hret _ _ _ _ (9999) f_44 L Q dX12_lossOf_146 hP hS ⟨⟨hI, hF, rfl, rfl⟩, trivial⟩
      · skip
        have c_49 : r_47.toInt < 0 := (by have z := bn_nle c; have k1 : (0 : Int32).toInt = 0 := (by decide); omega)
        refine lv_iconst (v := 0) hx hb dX12_lossOf_126 (by decide) ?_
        refine lv_goto (tgt := 146) hx hb dX12_lossOf_127 (by decide) ?_
        have k99 : (0 : Int32).toInt = 0 := (by decide)
        exact hret _ _ _ _ (0) f_44 L Q dX12_lossOf_146 hP hS ⟨⟨hI, hF, rfl, rfl⟩, trivial⟩
  · skip
    have c_14 : v_11.toInt < 0 := (by have z := bn_nle c; have k1 : (0 : Int32).toInt = 0 := (by decide); omega)
    refine lv_iload hx hb dX12_lossOf_24 (lv_at hl 0 rfl) ?_
    refine lv_aload_n hx hb dX12_lossOf_26 rfl (lv_at hl 2 rfl) ?_
    refine lv_iload_n hx hb dX12_lossOf_27 rfl (lv_at hl 3 rfl) ?_
    refine lv_iload_n hx hb dX12_lossOf_28 rfl (lv_at hl 5 rfl) ?_
    refine lv_iload hx hb dX12_lossOf_29 (lv_at hl 1 rfl) ?_
    refine lv_icmp_le (tgt := 38) hx hb dX12_lossOf_31 (by decide) (fun c => ?_) (fun c => ?_)
    · skip
      have c_52 : x2.toInt ≤ r_4.toInt := (by have z := bn_le c; omega)
      refine lv_iconst (v := 4) hx hb dX12_lossOf_38 (by decide) ?_
      refine sg_calli (va_runV (As := [.int x0, .int 4]) (rest := [.int r_10]) ⟨hx, hb, hml, hown, hts⟩ (kX12_numberOf l D ca za h hh f L Q hI x0 4 (by omega) (by decide) H.size) (cwV 2 hts (gw_V (fun _ h => List.mem_cons_of_mem _ h) mw_720 mw_721 mw_722 mw_619 mw_719) rfl rfl rfl (by decide +kernel) ⟨Nat.le_of_ble_eq_true rfl, Nat.le_of_ble_eq_true rfl⟩) (sg_preV (ci := 12) (C := RX12) (T := TX12) (N := 55) hA hK hP hS hZ 0 (by decide) rfl rfl) rfl rfl hl.1 rfl (lv_room (Nat.le_of_ble_eq_true rfl)) dX12_lossOf_39 ⟨Nat.le_refl _, Nat.le_refl _⟩) hA hS (fun r_57 f_54 L_55 Q_56 H locs hq hP hS => ?_)
      obtain ⟨⟨ef9, eL9, eQ9⟩, hq⟩ := hq
      rw [ef9, eL9, eQ9] at hP; clear ef9 eL9 eQ9
      refine lv_imul hx hb dX12_lossOf_42 ?_
      refine lv_topi (fun v_58 ev_58 => ?_)
      refine lv_aload_n hx hb dX12_lossOf_43 rfl (lv_at hl 2 rfl) ?_
      refine lv_iload_n hx hb dX12_lossOf_44 rfl (lv_at hl 3 rfl) ?_
      refine lv_iconst (v := 5) hx hb dX12_lossOf_45 (by decide) ?_
      refine sg_calli (va_runV (As := [.int x0, .int 5]) (rest := [.int v_58]) ⟨hx, hb, hml, hown, hts⟩ (kX12_numberOf l D ca za h hh f L Q hI x0 5 (by omega) (by decide) H.size) (cwV 2 hts (gw_V (fun _ h => List.mem_cons_of_mem _ h) mw_720 mw_721 mw_722 mw_619 mw_719) rfl rfl rfl (by decide +kernel) ⟨Nat.le_of_ble_eq_true rfl, Nat.le_of_ble_eq_true rfl⟩) (sg_preV (ci := 12) (C := RX12) (T := TX12) (N := 55) hA hK hP hS hZ 0 (by decide) rfl rfl) rfl rfl hl.1 rfl (lv_room (Nat.le_of_ble_eq_true rfl)) dX12_lossOf_46 ⟨Nat.le_refl _, Nat.le_refl _⟩) hA hS (fun r_62 f_59 L_60 Q_61 H locs hq hP hS => ?_)
      obtain ⟨⟨ef9, eL9, eQ9⟩, hq⟩ := hq
      rw [ef9, eL9, eQ9] at hP; clear ef9 eL9 eQ9
      refine lv_imul hx hb dX12_lossOf_49 ?_
      refine lv_topi (fun v_63 ev_63 => ?_)
      exact hret _ _ _ _ (v_63) f L Q dX12_lossOf_50 hP hS ⟨⟨hI, hF, rfl, rfl⟩, trivial⟩
    · skip
      have c_53 : r_4.toInt < x2.toInt := (by have z := bn_nle c; omega)
      refine lv_iconst (v := 3) hx hb dX12_lossOf_34 (by decide) ?_
      refine lv_goto (tgt := 39) hx hb dX12_lossOf_35 (by decide) ?_
      refine sg_calli (va_runV (As := [.int x0, .int 3]) (rest := [.int r_10]) ⟨hx, hb, hml, hown, hts⟩ (kX12_numberOf l D ca za h hh f L Q hI x0 3 (by omega) (by decide) H.size) (cwV 2 hts (gw_V (fun _ h => List.mem_cons_of_mem _ h) mw_720 mw_721 mw_722 mw_619 mw_719) rfl rfl rfl (by decide +kernel) ⟨Nat.le_of_ble_eq_true rfl, Nat.le_of_ble_eq_true rfl⟩) (sg_preV (ci := 12) (C := RX12) (T := TX12) (N := 55) hA hK hP hS hZ 0 (by decide) rfl rfl) rfl rfl hl.1 rfl (lv_room (Nat.le_of_ble_eq_true rfl)) dX12_lossOf_39 ⟨Nat.le_refl _, Nat.le_refl _⟩) hA hS (fun r_67 f_64 L_65 Q_66 H locs hq hP hS => ?_)
      obtain ⟨⟨ef9, eL9, eQ9⟩, hq⟩ := hq
      rw [ef9, eL9, eQ9] at hP; clear ef9 eL9 eQ9
      refine lv_imul hx hb dX12_lossOf_42 ?_
      refine lv_topi (fun v_68 ev_68 => ?_)
      refine lv_aload_n hx hb dX12_lossOf_43 rfl (lv_at hl 2 rfl) ?_
      refine lv_iload_n hx hb dX12_lossOf_44 rfl (lv_at hl 3 rfl) ?_
      refine lv_iconst (v := 5) hx hb dX12_lossOf_45 (by decide) ?_
      refine sg_calli (va_runV (As := [.int x0, .int 5]) (rest := [.int v_68]) ⟨hx, hb, hml, hown, hts⟩ (kX12_numberOf l D ca za h hh f L Q hI x0 5 (by omega) (by decide) H.size) (cwV 2 hts (gw_V (fun _ h => List.mem_cons_of_mem _ h) mw_720 mw_721 mw_722 mw_619 mw_719) rfl rfl rfl (by decide +kernel) ⟨Nat.le_of_ble_eq_true rfl, Nat.le_of_ble_eq_true rfl⟩) (sg_preV (ci := 12) (C := RX12) (T := TX12) (N := 55) hA hK hP hS hZ 0 (by decide) rfl rfl) rfl rfl hl.1 rfl (lv_room (Nat.le_of_ble_eq_true rfl)) dX12_lossOf_46 ⟨Nat.le_refl _, Nat.le_refl _⟩) hA hS (fun r_72 f_69 L_70 Q_71 H locs hq hP hS => ?_)
      obtain ⟨⟨ef9, eL9, eQ9⟩, hq⟩ := hq
      rw [ef9, eL9, eQ9] at hP; clear ef9 eL9 eQ9
      refine lv_imul hx hb dX12_lossOf_49 ?_
      refine lv_topi (fun v_73 ev_73 => ?_)
      exact hret _ _ _ _ (v_73) f L Q dX12_lossOf_50 hP hS ⟨⟨hI, hF, rfl, rfl⟩, trivial⟩

abbrev WkX12_loss : List (Nat × Nat × Option Nat) := [(0, 0, some 12), (0, 0, some 13), (0, 0, some 14), (0, 0, some 15), (0, 0, some 16), (8, 8, none)]
set_option maxHeartbeats 4000000 in
set_option maxRecDepth 100000 in
theorem kX12_loss (l : Launch) (D : va_G) (ca : Nat → ClassId) (za h : Nat → Nat) (hh : sgH 26 h) (f : sg_F) (L : sg_L) (Q : sg_Q) (hI : sgI loM hiM f) (x0 : Int32) (x1 : Int32) (x2 : Int32) (sz : Nat) : Met l yX12_loss gwX12_loss { frames := 45, cells := 0, slots := 0, locals := 1032 } (sgP D vwCl (tyX ca) 26 h (eM ca h) zcM za f L Q sz [.ref (h 0), .int x0, .int x1, .int x2]) (sgQi D vwCl 26 h (eM ca h) sz (fun r f1 L1 Q1 => ((sgI loM hiM f1 ∧ sgK WkX12_loss f f1 ∧ L1 = L ∧ Q1 = Q) ∧ True))) 0 0 (sgA 26 h sz) := by
  refine sg_ofWi (cc := cX12_loss) (maxL := 4) RX12 (by decide) rfl rfl (Nat.le_of_ble_eq_true rfl) ?_
  intro p e s m below meth cd Qz ls hx hb hml hown hts hK hZ hP hS hl hret
  have hA := sgY.self (n := 26) (h := h) (sz := s.heap.size)
  have hl : lv_has ls 4 [(0, .ref (h 0)), (1, .int x0), (2, .int x1), (3, .int x2)] := hl
  obtain ⟨H, hH⟩ : ∃ z : Heap, z = s.heap := ⟨_, rfl⟩
  obtain ⟨locs, hlo⟩ : ∃ z : List Loc, z = [] := ⟨_, rfl⟩
  have hP : va_P D vwCl (sgw 26 h (eM ca h) f L Q) H := by rw [hH]; exact hP
  have hS : va_S (sgA 26 h s.heap.size) s.heap H locs := by rw [hH, hlo]; exact hS
  suffices hgo : W p l e ({ frames := 45, cells := 0, slots := 0, locals := 1032 }) s m ([.ref (h 0), .int x0, .int x1, .int x2] : List Value).toArray below meth cd H locs 0 0 Qz (F0 m 0 ls []) by rw [hH, hlo] at hgo; exact hgo
  clear hH hlo
  have hF : sgK WkX12_loss f f := sgK.rf
  refine lv_aload_n hx hb dX12_loss_0 rfl (lv_at hl 0 rfl) ?_
  refine lv_iload_n hx hb dX12_loss_1 rfl (lv_at hl 1 rfl) ?_
  obtain ⟨w_1, ew_1⟩ : ∃ z : Int64, z = Int32.toInt64 x0 := ⟨_, rfl⟩
  have q_2 : w_1.toInt = x0.toInt := by rw [ew_1]; exact Int32.toInt_toInt64 _
  refine lv_i2l (v := w_1) hx hb dX12_loss_2 ew_1.symm ?_
  obtain ⟨v_3, ev_3⟩ : ∃ z : Int32, z = f 0 6 := ⟨_, rfl⟩
  have q_4 : 0 ≤ v_3.toInt ∧ v_3.toInt ≤ 8 := by rw [ev_3]; exact hI 0 6
  have q_5 : (f 0 6).toInt = v_3.toInt := (congrArg Int32.toInt (show f 0 6 = v_3 from ev_3.symm))
  have q_6 : (f 0 6).toInt = v_3.toInt := (congrArg Int32.toInt (show f 0 6 = v_3 from ev_3.symm))
  refine sg_calli (va_runV (As := [.long w_1]) (rest := []) ⟨hx, hb, hml, hown, hts⟩ (kX12_isSitter l D ca za h hh f L Q hI w_1 H.size) (cwV 1 hts (gw_V (fun _ h => List.mem_cons_of_mem _ h) mw_663 mw_664 mw_665 mw_619 mw_662) rfl rfl rfl (by decide +kernel) ⟨Nat.le_of_ble_eq_true rfl, Nat.le_of_ble_eq_true rfl⟩) (sg_preV (ci := 12) (C := RX12) (T := TX12) (N := 55) hA hK hP hS hZ 0 (by decide) rfl rfl) rfl rfl hl.1 rfl (lv_room (Nat.le_of_ble_eq_true rfl)) dX12_loss_3 ⟨Nat.le_refl _, Nat.le_refl _⟩) hA hS (fun r_10 f_7 L_8 Q_9 H locs hq hP hS => ?_)
  obtain ⟨⟨ef9, eL9, eQ9⟩, hq⟩ := hq
  rw [ef9, eL9, eQ9] at hP; clear ef9 eL9 eQ9
  rcases hq with ⟨rfl, hq⟩ | ⟨rfl, hq⟩
  · skip
    have q_11 := hq
    refine lv_if_eq (tgt := 34) hx hb dX12_loss_6 (by decide) (fun c => absurd c (by decide)) (fun c => ?_)
    refine lv_iload_n hx hb dX12_loss_9 rfl (lv_at hl 2 rfl) ?_
    refine sg_calli (va_runS (As := [.int x1]) (rest := []) ⟨hx, hb, hml, hown, hts⟩ (kX12_isPart l D ca za h hh f L Q hI x1 H.size) (va_cwS 1 hts (gw_S (fun _ h => List.mem_cons_of_mem _ h) mw_636 mw_637 mw_619 mw_635) rfl rfl rfl (by decide +kernel) ⟨Nat.le_of_ble_eq_true rfl, Nat.le_of_ble_eq_true rfl⟩) (sg_preS hA hK hP hS hZ) rfl rfl hl.1 rfl (lv_room (Nat.le_of_ble_eq_true rfl)) dX12_loss_10 ⟨Nat.le_refl _, Nat.le_refl _⟩) hA hS (fun r_15 f_12 L_13 Q_14 H locs hq hP hS => ?_)
    obtain ⟨⟨ef9, eL9, eQ9⟩, hq⟩ := hq
    rw [ef9, eL9, eQ9] at hP; clear ef9 eL9 eQ9
    rcases hq with ⟨rfl, hq⟩ | ⟨rfl, hq⟩
    · skip
      have q_16 := hq
      refine lv_if_eq (tgt := 34) hx hb dX12_loss_13 (by decide) (fun c => absurd c (by decide)) (fun c => ?_)
      refine lv_iload_n hx hb dX12_loss_16 rfl (lv_at hl 3 rfl) ?_
      obtain ⟨w_17, ew_17⟩ : ∃ z : Int64, z = Int32.toInt64 x2 := ⟨_, rfl⟩
      have q_18 : w_17.toInt = x2.toInt := by rw [ew_17]; exact Int32.toInt_toInt64 _
      refine lv_i2l (v := w_17) hx hb dX12_loss_17 ew_17.symm ?_
      refine sg_calli (va_runS (As := [.long w_17]) (rest := []) ⟨hx, hb, hml, hown, hts⟩ (kX12_isSetting l D ca za h hh f L Q hI w_17 H.size) (va_cwS 1 hts (gw_S (fun _ h => List.mem_cons_of_mem _ h) mw_653 mw_654 mw_619 mw_652) rfl rfl rfl (by decide +kernel) ⟨Nat.le_of_ble_eq_true rfl, Nat.le_of_ble_eq_true rfl⟩) (sg_preS hA hK hP hS hZ) rfl rfl hl.1 rfl (lv_room (Nat.le_of_ble_eq_true rfl)) dX12_loss_18 ⟨Nat.le_refl _, Nat.le_refl _⟩) hA hS (fun r_22 f_19 L_20 Q_21 H locs hq hP hS => ?_)
      obtain ⟨⟨ef9, eL9, eQ9⟩, hq⟩ := hq
      rw [ef9, eL9, eQ9] at hP; clear ef9 eL9 eQ9
      rcases hq with ⟨rfl, hq⟩ | ⟨rfl, hq⟩
      · skip
        have q_23 := hq
        refine lv_if_eq (tgt := 34) hx hb dX12_loss_21 (by decide) (fun c => absurd c (by decide)) (fun c => ?_)
        refine lv_aload_n hx hb dX12_loss_24 rfl (lv_at hl 0 rfl) ?_
        refine lv_iload_n hx hb dX12_loss_25 rfl (lv_at hl 1 rfl) ?_
        refine lv_iload_n hx hb dX12_loss_26 rfl (lv_at hl 2 rfl) ?_
        refine lv_iload_n hx hb dX12_loss_27 rfl (lv_at hl 3 rfl) ?_
        refine sg_calli (va_runV (As := [.int x0, .int x1, .int x2]) (rest := []) ⟨hx, hb, hml, hown, hts⟩ (kX12_lossOf l D ca za h hh f L Q hI x0 x1 x2 (by omega) (by omega) (by omega) H.size) (cwV 3 hts (gw_V (fun _ h => List.mem_cons_of_mem _ h) mw_729 mw_730 mw_731 mw_619 mw_728) rfl rfl rfl (by decide +kernel) ⟨Nat.le_of_ble_eq_true rfl, Nat.le_of_ble_eq_true rfl⟩) (sg_preV (ci := 12) (C := RX12) (T := TX12) (N := 55) hA hK hP hS hZ 0 (by decide) rfl rfl) rfl rfl hl.1 rfl (lv_room (Nat.le_of_ble_eq_true rfl)) dX12_loss_28 ⟨Nat.le_refl _, Nat.le_refl _⟩) hA hS (fun r_27 f_24 L_25 Q_26 H locs hq hP hS => ?_)
        obtain ⟨⟨hI, hk_f_24, eL9, eQ9⟩, hq⟩ := hq
        rw [eL9, eQ9] at hP; clear eL9 eQ9
        have hF : sgK WkX12_loss f f_24 := sgK.tr hF hk_f_24 (by decide)
        refine lv_goto (tgt := 35) hx hb dX12_loss_31 (by decide) ?_
        exact hret _ _ _ _ (r_27) f_24 L Q dX12_loss_35 hP hS ⟨⟨hI, hF, rfl, rfl⟩, trivial⟩
      · skip
        have q_28 := hq
        refine lv_if_eq (tgt := 34) hx hb dX12_loss_21 (by decide) (fun c => ?_) (fun c => absurd c (by decide))
        refine lv_iconst (v := (-1)) hx hb dX12_loss_34 (by decide) ?_
        have k99 : ((-1) : Int32).toInt = (-1) := (by decide)
        exact hret _ _ _ _ (-1) f L Q dX12_loss_35 hP hS ⟨⟨hI, hF, rfl, rfl⟩, trivial⟩
    · skip
      have q_29 := hq
      refine lv_if_eq (tgt := 34) hx hb dX12_loss_13 (by decide) (fun c => ?_) (fun c => absurd c (by decide))
      refine lv_iconst (v := (-1)) hx hb dX12_loss_34 (by decide) ?_
      have k99 : ((-1) : Int32).toInt = (-1) := (by decide)
      exact hret _ _ _ _ (-1) f L Q dX12_loss_35 hP hS ⟨⟨hI, hF, rfl, rfl⟩, trivial⟩
  · skip
    have q_30 := hq
    refine lv_if_eq (tgt := 34) hx hb dX12_loss_6 (by decide) (fun c => ?_) (fun c => absurd c (by decide))
    refine lv_iconst (v := (-1)) hx hb dX12_loss_34 (by decide) ?_
    have k99 : ((-1) : Int32).toInt = (-1) := (by decide)
    exact hret _ _ _ _ (-1) f L Q dX12_loss_35 hP hS ⟨⟨hI, hF, rfl, rfl⟩, trivial⟩

set_option maxHeartbeats 4000000 in
set_option maxRecDepth 100000 in
theorem kX12_bytesIs (l : Launch) (D : va_G) (ca : Nat → ClassId) (za h : Nat → Nat) (hh : sgH 26 h) (f : sg_F) (L : sg_L) (Q : sg_Q) (hI : sgI loM hiM f) (x0 : Int32) (sz : Nat) : Met l yX12_bytesIs gwX12_bytesIs { frames := 2, cells := 0, slots := 0, locals := 45 } (sgP D vwCl (tyX ca) 26 h (eM ca h) zcM za f L Q sz [.ref (h 0), .int x0]) (sgQi D vwCl 26 h (eM ca h) sz (fun r f1 L1 Q1 => ((f1 = f ∧ L1 = L ∧ Q1 = Q) ∧ ((r = 1 ∧ (0 ≤ x0.toInt ∧ x0.toInt ≤ 5)) ∨ ((r.toInt = -11 ∨ r.toInt = -12) ∧ 0 ≤ x0.toInt ∧ x0.toInt ≤ 5) ∨ (r = (-1) ∧ (True)))))) 0 0 (sgA 26 h sz) := by
  refine sg_ofWi (cc := cX12_bytesIs) (maxL := 2) RX12 (by decide) rfl rfl (Nat.le_of_ble_eq_true rfl) ?_
  intro p e s m below meth cd Qz ls hx hb hml hown hts hK hZ hP hS hl hret
  have hA := sgY.self (n := 26) (h := h) (sz := s.heap.size)
  have hl : lv_has ls 2 [(0, .ref (h 0)), (1, .int x0)] := hl
  obtain ⟨H, hH⟩ : ∃ z : Heap, z = s.heap := ⟨_, rfl⟩
  obtain ⟨locs, hlo⟩ : ∃ z : List Loc, z = [] := ⟨_, rfl⟩
  have hP : va_P D vwCl (sgw 26 h (eM ca h) f L Q) H := by rw [hH]; exact hP
  have hS : va_S (sgA 26 h s.heap.size) s.heap H locs := by rw [hH, hlo]; exact hS
  suffices hgo : W p l e ({ frames := 2, cells := 0, slots := 0, locals := 45 }) s m ([.ref (h 0), .int x0] : List Value).toArray below meth cd H locs 0 0 Qz (F0 m 0 ls []) by rw [hH, hlo] at hgo; exact hgo
  clear hH hlo
  refine lv_iload_n hx hb dX12_bytesIs_0 rfl (lv_at hl 1 rfl) ?_
  refine sg_calli (va_runS (As := [.int x0]) (rest := []) ⟨hx, hb, hml, hown, hts⟩ (kX12_isShelf l D ca za h hh f L Q hI x0 H.size) (va_cwS 1 hts (gw_S (fun _ h => List.mem_cons_of_mem _ h) mw_641 mw_642 mw_619 mw_640) rfl rfl rfl (by decide +kernel) ⟨Nat.le_of_ble_eq_true rfl, Nat.le_of_ble_eq_true rfl⟩) (sg_preS hA hK hP hS hZ) rfl rfl hl.1 rfl (lv_room (Nat.le_of_ble_eq_true rfl)) dX12_bytesIs_1 ⟨Nat.le_refl _, Nat.le_refl _⟩) hA hS (fun r_4 f_1 L_2 Q_3 H locs hq hP hS => ?_)
  obtain ⟨⟨ef9, eL9, eQ9⟩, hq⟩ := hq
  rw [ef9, eL9, eQ9] at hP; clear ef9 eL9 eQ9
  rcases hq with ⟨rfl, hq⟩ | ⟨rfl, hq⟩
  · skip
    have q_5 := hq
    refine lv_if_ne (tgt := 11) hx hb dX12_bytesIs_4 (by decide) (fun c => ?_) (fun c => absurd c (by decide))
    refine lv_aload_n hx hb dX12_bytesIs_11 rfl (lv_at hl 0 rfl) ?_
    refine sg_get (ci := 12) (v := .ref (h 22)) (C := RX12) (T := TX12) (N := 55) hx hb hts (fun w h => List.mem_cons_of_mem _ (gx_12 w h)) hown hK hP 0 (by decide) rfl rfl 51 (by decide) (hts _ (List.mem_cons_of_mem _ mw_643)) (fun _ h9 => h9) rfl dX12_bytesIs_12 ?_
    refine lv_iload_n hx hb dX12_bytesIs_15 rfl (lv_at hl 1 rfl) ?_
    refine sg_iald hx hb hK hP 22 (by decide) 0 rfl rfl (i := x0) (vp_in_iff.mpr ⟨by omega, by omega⟩) dX12_bytesIs_16 ?_
    refine lv_topi (fun v_6 ev_6 => ?_)
    have q_7 : (-1) ≤ v_6.toInt ∧ v_6.toInt ≤ 54 := by rw [ev_6]; exact hI 22 _
    refine lv_if_ge (tgt := 25) hx hb dX12_bytesIs_17 (by decide) (fun c => ?_) (fun c => ?_)
    · skip
      have c_8 : 0 ≤ v_6.toInt := (by have z := bn_le c; have k1 : (0 : Int32).toInt = 0 := (by decide); omega)
      refine lv_aload_n hx hb dX12_bytesIs_25 rfl (lv_at hl 0 rfl) ?_
      refine sg_get (ci := 12) (v := .ref (h 22)) (C := RX12) (T := TX12) (N := 55) hx hb hts (fun w h => List.mem_cons_of_mem _ (gx_12 w h)) hown hK hP 0 (by decide) rfl rfl 51 (by decide) (hts _ (List.mem_cons_of_mem _ mw_643)) (fun _ h9 => h9) rfl dX12_bytesIs_26 ?_
      refine lv_iload_n hx hb dX12_bytesIs_29 rfl (lv_at hl 1 rfl) ?_
      refine sg_iald hx hb hK hP 22 (by decide) 0 rfl rfl (i := x0) (vp_in_iff.mpr ⟨by omega, by omega⟩) dX12_bytesIs_30 ?_
      rw [← ev_6]
      refine lv_bipush (v := 50) hx hb dX12_bytesIs_31 (by decide) ?_
      refine lv_icmp_ne (tgt := 40) hx hb dX12_bytesIs_33 (by decide) (fun c => ?_) (fun c => ?_)
      · skip
        have c_10 : v_6.toInt ≠ 50 := (by have z := bn_ne c; have k1 : (50 : Int32).toInt = 50 := (by decide); omega)
        refine lv_bipush (v := (-12)) hx hb dX12_bytesIs_40 (by decide) ?_
        have k99 : ((-12) : Int32).toInt = (-12) := (by decide)
        exact hret _ _ _ _ (-12) f L Q dX12_bytesIs_42 hP hS ⟨⟨rfl, rfl, rfl⟩, Or.inr (Or.inl (by omega))⟩
      · skip
        have c_11 : v_6.toInt = 50 := (by have z := Int32.toInt_inj.mpr c; have k1 : (50 : Int32).toInt = 50 := (by decide); omega)
        refine lv_iconst (v := 1) hx hb dX12_bytesIs_36 (by decide) ?_
        refine lv_goto (tgt := 42) hx hb dX12_bytesIs_37 (by decide) ?_
        have k99 : (1 : Int32).toInt = 1 := (by decide)
        exact hret _ _ _ _ (1) f L Q dX12_bytesIs_42 hP hS ⟨⟨rfl, rfl, rfl⟩, (by first | exact Or.inl ⟨rfl, by omega⟩ | exact Or.inr (Or.inl (by omega)))⟩
    · skip
      have c_9 : v_6.toInt < 0 := (by have z := bn_nle c; have k1 : (0 : Int32).toInt = 0 := (by decide); omega)
      refine lv_bipush (v := (-11)) hx hb dX12_bytesIs_20 (by decide) ?_
      refine lv_goto (tgt := 42) hx hb dX12_bytesIs_22 (by decide) ?_
      have k99 : ((-11) : Int32).toInt = (-11) := (by decide)
      exact hret _ _ _ _ (-11) f L Q dX12_bytesIs_42 hP hS ⟨⟨rfl, rfl, rfl⟩, Or.inr (Or.inl (by omega))⟩
  · skip
    have q_12 := hq
    refine lv_if_ne (tgt := 11) hx hb dX12_bytesIs_4 (by decide) (fun c => absurd c (by decide)) (fun c => ?_)
    refine lv_iconst (v := (-1)) hx hb dX12_bytesIs_7 (by decide) ?_
    refine lv_goto (tgt := 42) hx hb dX12_bytesIs_8 (by decide) ?_
    have k99 : ((-1) : Int32).toInt = (-1) := (by decide)
    exact hret _ _ _ _ (-1) f L Q dX12_bytesIs_42 hP hS ⟨⟨rfl, rfl, rfl⟩, (by first | exact Or.inr (Or.inl (by omega)) | exact Or.inr (Or.inr (⟨rfl, trivial⟩)))⟩

set_option maxHeartbeats 4000000 in
set_option maxRecDepth 100000 in
theorem kX12_shiftsOf (l : Launch) (D : va_G) (ca : Nat → ClassId) (za h : Nat → Nat) (hh : sgH 26 h) (f : sg_F) (L : sg_L) (Q : sg_Q) (hI : sgI loM hiM f) (x0 : Int32) (b0 : 0 ≤ x0.toInt ∧ x0.toInt ≤ 5) (sz : Nat) : Met l yX12_shiftsOf gwX12_shiftsOf { frames := 0, cells := 0, slots := 0, locals := 0 } (sgP D vwCl (tyX ca) 26 h (eM ca h) zcM za f L Q sz [.ref (h 0), .int x0]) (sgQi D vwCl 26 h (eM ca h) sz (fun r f1 L1 Q1 => ((f1 = f ∧ L1 = L ∧ Q1 = Q) ∧ (0 ≤ r.toInt ∧ r.toInt ≤ 21)))) 0 0 (sgA 26 h sz) := by
  refine sg_ofWi (cc := cX12_shiftsOf) (maxL := 2) RX12 (by decide) rfl rfl (Nat.le_of_ble_eq_true rfl) ?_
  intro p e s m below meth cd Qz ls hx hb hml hown hts hK hZ hP hS hl hret
  have hA := sgY.self (n := 26) (h := h) (sz := s.heap.size)
  have hl : lv_has ls 2 [(0, .ref (h 0)), (1, .int x0)] := hl
  obtain ⟨H, hH⟩ : ∃ z : Heap, z = s.heap := ⟨_, rfl⟩
  obtain ⟨locs, hlo⟩ : ∃ z : List Loc, z = [] := ⟨_, rfl⟩
  have hP : va_P D vwCl (sgw 26 h (eM ca h) f L Q) H := by rw [hH]; exact hP
  have hS : va_S (sgA 26 h s.heap.size) s.heap H locs := by rw [hH, hlo]; exact hS
  suffices hgo : W p l e ({ frames := 0, cells := 0, slots := 0, locals := 0 }) s m ([.ref (h 0), .int x0] : List Value).toArray below meth cd H locs 0 0 Qz (F0 m 0 ls []) by rw [hH, hlo] at hgo; exact hgo
  clear hH hlo
  refine lv_aload_n hx hb dX12_shiftsOf_0 rfl (lv_at hl 0 rfl) ?_
  refine sg_get (ci := 12) (v := .ref (h 23)) (C := RX12) (T := TX12) (N := 55) hx hb hts (fun w h => List.mem_cons_of_mem _ (gx_12 w h)) hown hK hP 0 (by decide) rfl rfl 52 (by decide) (hts _ (List.mem_cons_of_mem _ mw_645)) (fun _ h9 => h9) rfl dX12_shiftsOf_1 ?_
  refine lv_iload_n hx hb dX12_shiftsOf_4 rfl (lv_at hl 1 rfl) ?_
  refine sg_iald hx hb hK hP 23 (by decide) 0 rfl rfl (i := x0) (vp_in_iff.mpr ⟨by omega, by omega⟩) dX12_shiftsOf_5 ?_
  refine lv_topi (fun v_1 ev_1 => ?_)
  have q_2 : 0 ≤ v_1.toInt ∧ v_1.toInt ≤ 60 := by rw [ev_1]; exact hI 23 _
  refine lv_bipush (v := 21) hx hb dX12_shiftsOf_6 (by decide) ?_
  refine lv_icmp_ge (tgt := 20) hx hb dX12_shiftsOf_8 (by decide) (fun c => ?_) (fun c => ?_)
  · skip
    have c_3 : 21 ≤ v_1.toInt := (by have z := bn_le c; have k1 : (21 : Int32).toInt = 21 := (by decide); omega)
    refine lv_bipush (v := 21) hx hb dX12_shiftsOf_20 (by decide) ?_
    have k99 : (21 : Int32).toInt = 21 := (by decide)
    exact hret _ _ _ _ (21) f L Q dX12_shiftsOf_22 hP hS ⟨⟨rfl, rfl, rfl⟩, (by decide)⟩
  · skip
    have c_4 : v_1.toInt < 21 := (by have z := bn_nle c; have k1 : (21 : Int32).toInt = 21 := (by decide); omega)
    refine lv_aload_n hx hb dX12_shiftsOf_11 rfl (lv_at hl 0 rfl) ?_
    refine sg_get (ci := 12) (v := .ref (h 23)) (C := RX12) (T := TX12) (N := 55) hx hb hts (fun w h => List.mem_cons_of_mem _ (gx_12 w h)) hown hK hP 0 (by decide) rfl rfl 52 (by decide) (hts _ (List.mem_cons_of_mem _ mw_645)) (fun _ h9 => h9) rfl dX12_shiftsOf_12 ?_
    refine lv_iload_n hx hb dX12_shiftsOf_15 rfl (lv_at hl 1 rfl) ?_
    refine sg_iald hx hb hK hP 23 (by decide) 0 rfl rfl (i := x0) (vp_in_iff.mpr ⟨by omega, by omega⟩) dX12_shiftsOf_16 ?_
    rw [← ev_1]
    refine lv_goto (tgt := 22) hx hb dX12_shiftsOf_17 (by decide) ?_
    exact hret _ _ _ _ (v_1) f L Q dX12_shiftsOf_22 hP hS ⟨⟨rfl, rfl, rfl⟩, (by omega)⟩

set_option maxHeartbeats 4000000 in
set_option maxRecDepth 100000 in
theorem kX12_whoSits (l : Launch) (D : va_G) (ca : Nat → ClassId) (za h : Nat → Nat) (hh : sgH 26 h) (f : sg_F) (L : sg_L) (Q : sg_Q) (hI : sgI loM hiM f) (x0 : Int32) (x1 : Int32) (b0 : 0 ≤ x0.toInt ∧ x0.toInt ≤ 5) (b1 : 0 ≤ x1.toInt ∧ x1.toInt ≤ 20) (sz : Nat) : Met l yX12_whoSits gwX12_whoSits { frames := 2, cells := 0, slots := 0, locals := 47 } (sgP D vwCl (tyX ca) 26 h (eM ca h) zcM za f L Q sz [.ref (h 0), .int x0, .int x1]) (sgQi D vwCl 26 h (eM ca h) sz (fun r f1 L1 Q1 => ((f1 = f ∧ L1 = L ∧ Q1 = Q) ∧ ((-1) ≤ r.toInt ∧ r.toInt ≤ 7) ∧ r = whoM f L x0 x1))) 0 0 (sgA 26 h sz) := by
  refine sg_ofWi (cc := cX12_whoSits) (maxL := 5) RX12 (by decide) rfl rfl (Nat.le_of_ble_eq_true rfl) ?_
  intro p e s m below meth cd Qz ls hx hb hml hown hts hK hZ hP hS hl hret
  have hA := sgY.self (n := 26) (h := h) (sz := s.heap.size)
  have hl : lv_has ls 5 [(0, .ref (h 0)), (1, .int x0), (2, .int x1)] := hl
  obtain ⟨H, hH⟩ : ∃ z : Heap, z = s.heap := ⟨_, rfl⟩
  obtain ⟨locs, hlo⟩ : ∃ z : List Loc, z = [] := ⟨_, rfl⟩
  have hP : va_P D vwCl (sgw 26 h (eM ca h) f L Q) H := by rw [hH]; exact hP
  have hS : va_S (sgA 26 h s.heap.size) s.heap H locs := by rw [hH, hlo]; exact hS
  suffices hgo : W p l e ({ frames := 2, cells := 0, slots := 0, locals := 47 }) s m ([.ref (h 0), .int x0, .int x1] : List Value).toArray below meth cd H locs 0 0 Qz (F0 m 0 ls []) by rw [hH, hlo] at hgo; exact hgo
  clear hH hlo
  refine lv_aload_n hx hb dX12_whoSits_0 rfl (lv_at hl 0 rfl) ?_
  refine sg_get (ci := 12) (v := .ref (h 24)) (C := RX12) (T := TX12) (N := 55) hx hb hts (fun w h => List.mem_cons_of_mem _ (gx_12 w h)) hown hK hP 0 (by decide) rfl rfl 53 (by decide) (hts _ (List.mem_cons_of_mem _ mw_646)) (fun _ h9 => h9) rfl dX12_whoSits_1 ?_
  refine lv_bipush (v := 60) hx hb dX12_whoSits_4 (by decide) ?_
  refine lv_iload_n hx hb dX12_whoSits_6 rfl (lv_at hl 1 rfl) ?_
  refine lv_imul hx hb dX12_whoSits_7 ?_
  refine lv_topi (fun v_1 ev_1 => ?_)
  have q_2 : v_1.toInt = 60 * x0.toInt := by rw [ev_1]; exact bn_mulJ (by decide) (by omega) (by omega)
  refine lv_iload_n hx hb dX12_whoSits_8 rfl (lv_at hl 2 rfl) ?_
  refine lv_iadd hx hb dX12_whoSits_9 ?_
  refine lv_topi (fun v_3 ev_3 => ?_)
  have q_4 : v_3.toInt = v_1.toInt + x1.toInt := by rw [ev_3]; exact (bn_addI (by omega) (by omega)).trans (by omega)
  refine sg_lald hx hb hK hP 24 (by decide) 1 rfl rfl (i := v_3) (vp_in_iff.mpr ⟨by omega, by omega⟩) dX12_whoSits_10 ?_
  obtain ⟨w_5, ew_5⟩ : ∃ z : Int64, z = L 24 (Int32.toNatClampNeg v_3) := ⟨_, rfl⟩
  rw [← ew_5]
  refine lv_lstore_n (lv' := [(3, .long w_5), (0, .ref (h 0)), (1, .int x0), (2, .int x1)]) hx hb dX12_whoSits_11 rfl hl (by decide) rfl (fun ls hl => ?_)
  refine lv_aload_n hx hb dX12_whoSits_12 rfl (lv_at hl 1 rfl) ?_
  refine lv_lload_n hx hb dX12_whoSits_13 rfl (lv_at hl 0 rfl) ?_
  obtain ⟨v_6, ev_6⟩ : ∃ z : Int32, z = f 0 6 := ⟨_, rfl⟩
  have q_7 : 0 ≤ v_6.toInt ∧ v_6.toInt ≤ 8 := by rw [ev_6]; exact hI 0 6
  have q_8 : (f 0 6).toInt = v_6.toInt := (congrArg Int32.toInt (show f 0 6 = v_6 from ev_6.symm))
  have q_9 : (f 0 6).toInt = v_6.toInt := (congrArg Int32.toInt (show f 0 6 = v_6 from ev_6.symm))
  refine sg_calli (va_runV (As := [.long w_5]) (rest := []) ⟨hx, hb, hml, hown, hts⟩ (kX12_isSitter l D ca za h hh f L Q hI w_5 H.size) (cwV 1 hts (gw_V (fun _ h => List.mem_cons_of_mem _ h) mw_663 mw_664 mw_665 mw_619 mw_662) rfl rfl rfl (by decide +kernel) ⟨Nat.le_of_ble_eq_true rfl, Nat.le_of_ble_eq_true rfl⟩) (sg_preV (ci := 12) (C := RX12) (T := TX12) (N := 55) hA hK hP hS hZ 0 (by decide) rfl rfl) rfl rfl hl.1 rfl (lv_room (Nat.le_of_ble_eq_true rfl)) dX12_whoSits_14 ⟨Nat.le_refl _, Nat.le_refl _⟩) hA hS (fun r_13 f_10 L_11 Q_12 H locs hq hP hS => ?_)
  obtain ⟨⟨ef9, eL9, eQ9⟩, hq⟩ := hq
  rw [ef9, eL9, eQ9] at hP; clear ef9 eL9 eQ9
  rcases hq with ⟨rfl, hq⟩ | ⟨rfl, hq⟩
  · skip
    have q_14 := hq
    refine lv_if_eq (tgt := 25) hx hb dX12_whoSits_17 (by decide) (fun c => absurd c (by decide)) (fun c => ?_)
    refine lv_lload_n hx hb dX12_whoSits_20 rfl (lv_at hl 0 rfl) ?_
    obtain ⟨v_15, ev_15⟩ : ∃ z : Int32, z = Int64.toInt32 w_5 := ⟨_, rfl⟩
    have q_16 : v_15.toInt = w_5.toInt := by rw [ev_15]; exact bn_l2i (by omega) (by omega)
    refine lv_l2i (v := v_15) hx hb dX12_whoSits_21 ev_15.symm ?_
    refine lv_goto (tgt := 26) hx hb dX12_whoSits_22 (by decide) ?_
    exact hret _ _ _ _ (v_15) f L Q dX12_whoSits_26 hP hS ⟨⟨rfl, rfl, rfl⟩, (by omega), (by unfold whoM; rw [← ev_1, ← ev_3, ← ew_5]; rw [if_pos ⟨by omega, by omega⟩]; exact ev_15)⟩
  · skip
    have q_17 := hq
    refine lv_if_eq (tgt := 25) hx hb dX12_whoSits_17 (by decide) (fun c => ?_) (fun c => absurd c (by decide))
    refine lv_iconst (v := (-1)) hx hb dX12_whoSits_25 (by decide) ?_
    have k99 : ((-1) : Int32).toInt = (-1) := (by decide)
    exact hret _ _ _ _ (-1) f L Q dX12_whoSits_26 hP hS ⟨⟨rfl, rfl, rfl⟩, (by decide), (by unfold whoM; rw [← ev_1, ← ev_3, ← ew_5]; rw [if_neg (by omega)])⟩

abbrev WkX12_neverOf : List (Nat × Nat × Option Nat) := [(0, 0, some 12), (0, 0, some 13), (0, 0, some 14), (0, 0, some 15), (0, 0, some 16), (8, 8, none)]
set_option maxHeartbeats 4000000 in
set_option maxRecDepth 100000 in
theorem kX12_neverOf (l : Launch) (D : va_G) (ca : Nat → ClassId) (za h : Nat → Nat) (hh : sgH 26 h) (f : sg_F) (L : sg_L) (Q : sg_Q) (hI : sgI loM hiM f) (x0 : Int32) (x1 : Int32) (x2 : Int32) (b0 : 0 ≤ x0.toInt ∧ x0.toInt ≤ 5) (b1 : 0 ≤ x1.toInt ∧ x1.toInt ≤ 2) (b2 : 0 ≤ x2.toInt ∧ x2.toInt ≤ 60) (sz : Nat) : Met l yX12_neverOf gwX12_neverOf { frames := 45, cells := 0, slots := 0, locals := 1032 } (sgP D vwCl (tyX ca) 26 h (eM ca h) zcM za f L Q sz [.ref (h 0), .int x0, .int x1, .int x2]) (sgQi D vwCl 26 h (eM ca h) sz (fun r f1 L1 Q1 => ((sgI loM hiM f1 ∧ sgK WkX12_neverOf f f1 ∧ L1 = L ∧ Q1 = Q) ∧ True))) 0 0 (sgA 26 h sz) := by
  refine sg_ofWi (cc := cX12_neverOf) (maxL := 6) RX12 (by decide) rfl rfl (Nat.le_of_ble_eq_true rfl) ?_
  intro p e s m below meth cd Qz ls hx hb hml hown hts hK hZ hP hS hl hret
  have hA := sgY.self (n := 26) (h := h) (sz := s.heap.size)
  have hl : lv_has ls 6 [(0, .ref (h 0)), (1, .int x0), (2, .int x1), (3, .int x2)] := hl
  obtain ⟨H, hH⟩ : ∃ z : Heap, z = s.heap := ⟨_, rfl⟩
  obtain ⟨locs, hlo⟩ : ∃ z : List Loc, z = [] := ⟨_, rfl⟩
  have hP : va_P D vwCl (sgw 26 h (eM ca h) f L Q) H := by rw [hH]; exact hP
  have hS : va_S (sgA 26 h s.heap.size) s.heap H locs := by rw [hH, hlo]; exact hS
  suffices hgo : W p l e ({ frames := 45, cells := 0, slots := 0, locals := 1032 }) s m ([.ref (h 0), .int x0, .int x1, .int x2] : List Value).toArray below meth cd H locs 0 0 Qz (F0 m 0 ls []) by rw [hH, hlo] at hgo; exact hgo
  clear hH hlo
  have hF : sgK WkX12_neverOf f f := sgK.rf
  have loop_6 : ∀ (n_6 : Nat) (y4_6 : Int32) (y5_6 : Int32) (fp_6 : sg_F) (H : Heap) (locs : List Loc) (ls : Array Slot), 21 - y5_6.toInt < (n_6 : Int) → 0 ≤ y5_6.toInt ∧ y5_6.toInt ≤ 21 → sgI loM hiM fp_6 → sgK WkX12_neverOf f fp_6 → va_P D vwCl (sgw 26 h (eM ca h) fp_6 L Q) H → va_S (sgA 26 h s.heap.size) s.heap H locs → lv_has ls 6 [(0, .ref (h 0)), (1, .int x0), (2, .int x1), (3, .int x2), (4, .int y4_6), (5, .int y5_6)] → W p l e ({ frames := 45, cells := 0, slots := 0, locals := 1032 }) s m ([.ref (h 0), .int x0, .int x1, .int x2] : List Value).toArray below meth cd H locs 0 0 Qz (F0 m 6 ls []) := by
    intro n_6
    induction n_6 with
    | zero => intro y4_6 y5_6 fp_6 H locs ls hm_6 hy0_6 hI hF hP hS hl; exact absurd hm_6 (by omega)
    | succ n_6 ih_6 =>
      intro y4_6 y5_6 fp_6 H locs ls hm_6 hy0_6 hI hF hP hS hl
      refine lv_iload hx hb dX12_neverOf_6 (lv_at hl 5 rfl) ?_
      refine lv_aload_n hx hb dX12_neverOf_8 rfl (lv_at hl 0 rfl) ?_
      refine lv_iload_n hx hb dX12_neverOf_9 rfl (lv_at hl 1 rfl) ?_
      refine sg_calli (va_runV (As := [.int x0]) (rest := [.int y5_6]) ⟨hx, hb, hml, hown, hts⟩ (kX12_shiftsOf l D ca za h hh fp_6 L Q hI x0 (by omega) H.size) (cwV 1 hts (gw_V (fun _ h => List.mem_cons_of_mem _ h) mw_714 mw_715 mw_716 mw_619 mw_713) rfl rfl rfl (by decide +kernel) ⟨Nat.le_of_ble_eq_true rfl, Nat.le_of_ble_eq_true rfl⟩) (sg_preV (ci := 12) (C := RX12) (T := TX12) (N := 55) hA hK hP hS hZ 0 (by decide) rfl rfl) rfl rfl hl.1 rfl (lv_room (Nat.le_of_ble_eq_true rfl)) dX12_neverOf_10 ⟨Nat.le_refl _, Nat.le_refl _⟩) hA hS (fun r_4 f_1 L_2 Q_3 H locs hq hP hS => ?_)
      obtain ⟨⟨ef9, eL9, eQ9⟩, hq⟩ := hq
      rw [ef9, eL9, eQ9] at hP; clear ef9 eL9 eQ9
      refine lv_icmp_ge (tgt := 54) hx hb dX12_neverOf_13 (by decide) (fun c => ?_) (fun c => ?_)
      · skip
        have c_5 : r_4.toInt ≤ y5_6.toInt := (by have z := bn_le c; omega)
        refine lv_iload hx hb dX12_neverOf_54 (lv_at hl 4 rfl) ?_
        exact hret _ _ _ _ (y4_6) fp_6 L Q dX12_neverOf_56 hP hS ⟨⟨hI, hF, rfl, rfl⟩, trivial⟩
      · skip
        have c_6 : y5_6.toInt < r_4.toInt := (by have z := bn_nle c; omega)
        refine lv_iload hx hb dX12_neverOf_16 (lv_at hl 4 rfl) ?_
        refine lv_aload_n hx hb dX12_neverOf_18 rfl (lv_at hl 0 rfl) ?_
        refine lv_iload_n hx hb dX12_neverOf_19 rfl (lv_at hl 1 rfl) ?_
        refine lv_iload hx hb dX12_neverOf_20 (lv_at hl 5 rfl) ?_
        refine sg_calli (va_runV (As := [.int x0, .int y5_6]) (rest := [.int y4_6]) ⟨hx, hb, hml, hown, hts⟩ (kX12_whoSits l D ca za h hh fp_6 L Q hI x0 y5_6 (by omega) (by omega) H.size) (cwV 2 hts (gw_V (fun _ h => List.mem_cons_of_mem _ h) mw_725 mw_726 mw_727 mw_619 mw_724) rfl rfl rfl (by decide +kernel) ⟨Nat.le_of_ble_eq_true rfl, Nat.le_of_ble_eq_true rfl⟩) (sg_preV (ci := 12) (C := RX12) (T := TX12) (N := 55) hA hK hP hS hZ 0 (by decide) rfl rfl) rfl rfl hl.1 rfl (lv_room (Nat.le_of_ble_eq_true rfl)) dX12_neverOf_22 ⟨Nat.le_refl _, Nat.le_refl _⟩) hA hS (fun r_10 f_7 L_8 Q_9 H locs hq hP hS => ?_)
        obtain ⟨⟨ef9, eL9, eQ9⟩, hq, u_11⟩ := hq
        rw [ef9, eL9, eQ9] at hP; clear ef9 eL9 eQ9
        refine lv_if_lt (tgt := 44) hx hb dX12_neverOf_25 (by decide) (fun c => ?_) (fun c => ?_)
        · skip
          have c_12 : r_10.toInt < 0 := (by have z := bn_lt c; have k1 : (0 : Int32).toInt = 0 := (by decide); omega)
          refine lv_iconst (v := 0) hx hb dX12_neverOf_44 (by decide) ?_
          refine lv_iadd hx hb dX12_neverOf_45 ?_
          refine W.eq (g2 := F0 m 46 ls [.int y4_6]) (by rw [Int32.add_zero]) ?_
          refine lv_istore (lv' := [(4, .int y4_6), (0, .ref (h 0)), (1, .int x0), (2, .int x1), (3, .int x2), (5, .int y5_6)]) hx hb dX12_neverOf_46 hl (by decide) rfl (fun ls hl => ?_)
          obtain ⟨v_14, ev_14⟩ : ∃ z : Int32, z = y5_6 + 1 := ⟨_, rfl⟩
          have q_15 : v_14.toInt = y5_6.toInt + 1 := by rw [ev_14]; exact (bn_addc y5_6 1 (by decide) (by omega) (by omega))
          refine lv_iinc (v := v_14) (lv' := [(5, .int v_14), (4, .int y4_6), (0, .ref (h 0)), (1, .int x0), (2, .int x1), (3, .int x2)]) hx hb dX12_neverOf_48 hl (k := 5) rfl (by rw [ev_14]; rfl) (by decide) rfl (fun ls hl => ?_)
          refine lv_goto (tgt := 6) hx hb dX12_neverOf_51 (by decide) ?_
          exact ih_6 y4_6 v_14 fp_6 _ _ _ (by omega) (by omega) hI hF hP hS (lv_sub hl [2, 3, 4, 5, 1, 0] rfl)
        · skip
          have c_13 : 0 ≤ r_10.toInt := (by have z := bn_nlt c; have k1 : (0 : Int32).toInt = 0 := (by decide); omega)
          refine lv_aload_n hx hb dX12_neverOf_28 rfl (lv_at hl 0 rfl) ?_
          refine lv_aload_n hx hb dX12_neverOf_29 rfl (lv_at hl 0 rfl) ?_
          refine lv_iload_n hx hb dX12_neverOf_30 rfl (lv_at hl 1 rfl) ?_
          refine lv_iload hx hb dX12_neverOf_31 (lv_at hl 5 rfl) ?_
          refine sg_calli (va_runV (As := [.int x0, .int y5_6]) (rest := [.ref (h 0), .int y4_6]) ⟨hx, hb, hml, hown, hts⟩ (kX12_whoSits l D ca za h hh fp_6 L Q hI x0 y5_6 (by omega) (by omega) H.size) (cwV 2 hts (gw_V (fun _ h => List.mem_cons_of_mem _ h) mw_725 mw_726 mw_727 mw_619 mw_724) rfl rfl rfl (by decide +kernel) ⟨Nat.le_of_ble_eq_true rfl, Nat.le_of_ble_eq_true rfl⟩) (sg_preV (ci := 12) (C := RX12) (T := TX12) (N := 55) hA hK hP hS hZ 0 (by decide) rfl rfl) rfl rfl hl.1 rfl (lv_room (Nat.le_of_ble_eq_true rfl)) dX12_neverOf_33 ⟨Nat.le_refl _, Nat.le_refl _⟩) hA hS (fun r_19 f_16 L_17 Q_18 H locs hq hP hS => ?_)
          obtain ⟨⟨ef9, eL9, eQ9⟩, hq, u_20⟩ := hq
          rw [ef9, eL9, eQ9] at hP; clear ef9 eL9 eQ9
          rw [show r_19 = r_10 from u_20.trans u_11.symm]
          refine lv_iload_n hx hb dX12_neverOf_36 rfl (lv_at hl 2 rfl) ?_
          refine lv_iload_n hx hb dX12_neverOf_37 rfl (lv_at hl 3 rfl) ?_
          refine sg_calli (va_runV (As := [.int r_10, .int x1, .int x2]) (rest := [.int y4_6]) ⟨hx, hb, hml, hown, hts⟩ (kX12_lossOf l D ca za h hh fp_6 L Q hI r_10 x1 x2 (by omega) (by omega) (by omega) H.size) (cwV 3 hts (gw_V (fun _ h => List.mem_cons_of_mem _ h) mw_729 mw_730 mw_731 mw_619 mw_728) rfl rfl rfl (by decide +kernel) ⟨Nat.le_of_ble_eq_true rfl, Nat.le_of_ble_eq_true rfl⟩) (sg_preV (ci := 12) (C := RX12) (T := TX12) (N := 55) hA hK hP hS hZ 0 (by decide) rfl rfl) rfl rfl hl.1 rfl (lv_room (Nat.le_of_ble_eq_true rfl)) dX12_neverOf_38 ⟨Nat.le_refl _, Nat.le_refl _⟩) hA hS (fun r_24 f_21 L_22 Q_23 H locs hq hP hS => ?_)
          obtain ⟨⟨hI, hk_f_21, eL9, eQ9⟩, hq⟩ := hq
          rw [eL9, eQ9] at hP; clear eL9 eQ9
          have hF : sgK WkX12_neverOf f f_21 := sgK.tr hF hk_f_21 (by decide)
          refine lv_goto (tgt := 45) hx hb dX12_neverOf_41 (by decide) ?_
          refine lv_iadd hx hb dX12_neverOf_45 ?_
          refine lv_topi (fun v_25 ev_25 => ?_)
          refine lv_istore (lv' := [(4, .int v_25), (0, .ref (h 0)), (1, .int x0), (2, .int x1), (3, .int x2), (5, .int y5_6)]) hx hb dX12_neverOf_46 hl (by decide) rfl (fun ls hl => ?_)
          obtain ⟨v_26, ev_26⟩ : ∃ z : Int32, z = y5_6 + 1 := ⟨_, rfl⟩
          have q_27 : v_26.toInt = y5_6.toInt + 1 := by rw [ev_26]; exact (bn_addc y5_6 1 (by decide) (by omega) (by omega))
          refine lv_iinc (v := v_26) (lv' := [(5, .int v_26), (4, .int v_25), (0, .ref (h 0)), (1, .int x0), (2, .int x1), (3, .int x2)]) hx hb dX12_neverOf_48 hl (k := 5) rfl (by rw [ev_26]; rfl) (by decide) rfl (fun ls hl => ?_)
          refine lv_goto (tgt := 6) hx hb dX12_neverOf_51 (by decide) ?_
          exact ih_6 v_25 v_26 f_21 _ _ _ (by omega) (by omega) hI hF hP hS (lv_sub hl [2, 3, 4, 5, 1, 0] rfl)
  refine lv_iconst (v := 0) hx hb dX12_neverOf_0 (by decide) ?_
  refine lv_istore (lv' := [(4, .int 0), (0, .ref (h 0)), (1, .int x0), (2, .int x1), (3, .int x2)]) hx hb dX12_neverOf_1 hl (by decide) rfl (fun ls hl => ?_)
  refine lv_iconst (v := 0) hx hb dX12_neverOf_3 (by decide) ?_
  refine lv_istore (lv' := [(5, .int 0), (4, .int 0), (0, .ref (h 0)), (1, .int x0), (2, .int x1), (3, .int x2)]) hx hb dX12_neverOf_4 hl (by decide) rfl (fun ls hl => ?_)
  exact loop_6 22 0 0 f _ _ _ (by have kc0 : (0 : Int32).toInt = 0 := (by decide); have kc1 : (0 : Int32).toInt = 0 := (by decide); omega) (by decide) hI hF hP hS (lv_sub hl [2, 3, 4, 5, 1, 0] rfl)

abbrev WkX12_never : List (Nat × Nat × Option Nat) := [(0, 0, some 12), (0, 0, some 13), (0, 0, some 14), (0, 0, some 15), (0, 0, some 16), (8, 8, none)]
set_option maxHeartbeats 4000000 in
set_option maxRecDepth 100000 in
theorem kX12_never (l : Launch) (D : va_G) (ca : Nat → ClassId) (za h : Nat → Nat) (hh : sgH 26 h) (f : sg_F) (L : sg_L) (Q : sg_Q) (hI : sgI loM hiM f) (x0 : Int32) (x1 : Int32) (x2 : Int32) (sz : Nat) : Met l yX12_never gwX12_never { frames := 46, cells := 0, slots := 0, locals := 1057 } (sgP D vwCl (tyX ca) 26 h (eM ca h) zcM za f L Q sz [.ref (h 0), .int x0, .int x1, .int x2]) (sgQi D vwCl 26 h (eM ca h) sz (fun r f1 L1 Q1 => ((sgI loM hiM f1 ∧ sgK WkX12_never f f1 ∧ L1 = L ∧ Q1 = Q) ∧ True))) 0 0 (sgA 26 h sz) := by
  refine sg_ofWi (cc := cX12_never) (maxL := 4) RX12 (by decide) rfl rfl (Nat.le_of_ble_eq_true rfl) ?_
  intro p e s m below meth cd Qz ls hx hb hml hown hts hK hZ hP hS hl hret
  have hA := sgY.self (n := 26) (h := h) (sz := s.heap.size)
  have hl : lv_has ls 4 [(0, .ref (h 0)), (1, .int x0), (2, .int x1), (3, .int x2)] := hl
  obtain ⟨H, hH⟩ : ∃ z : Heap, z = s.heap := ⟨_, rfl⟩
  obtain ⟨locs, hlo⟩ : ∃ z : List Loc, z = [] := ⟨_, rfl⟩
  have hP : va_P D vwCl (sgw 26 h (eM ca h) f L Q) H := by rw [hH]; exact hP
  have hS : va_S (sgA 26 h s.heap.size) s.heap H locs := by rw [hH, hlo]; exact hS
  suffices hgo : W p l e ({ frames := 46, cells := 0, slots := 0, locals := 1057 }) s m ([.ref (h 0), .int x0, .int x1, .int x2] : List Value).toArray below meth cd H locs 0 0 Qz (F0 m 0 ls []) by rw [hH, hlo] at hgo; exact hgo
  clear hH hlo
  have hF : sgK WkX12_never f f := sgK.rf
  refine lv_aload_n hx hb dX12_never_0 rfl (lv_at hl 0 rfl) ?_
  refine lv_iload_n hx hb dX12_never_1 rfl (lv_at hl 1 rfl) ?_
  refine sg_calli (va_runV (As := [.int x0]) (rest := []) ⟨hx, hb, hml, hown, hts⟩ (kX12_bytesIs l D ca za h hh f L Q hI x0 H.size) (cwV 1 hts (gw_V (fun _ h => List.mem_cons_of_mem _ h) mw_685 mw_686 mw_687 mw_619 mw_684) rfl rfl rfl (by decide +kernel) ⟨Nat.le_of_ble_eq_true rfl, Nat.le_of_ble_eq_true rfl⟩) (sg_preV (ci := 12) (C := RX12) (T := TX12) (N := 55) hA hK hP hS hZ 0 (by decide) rfl rfl) rfl rfl hl.1 rfl (lv_room (Nat.le_of_ble_eq_true rfl)) dX12_never_2 ⟨Nat.le_refl _, Nat.le_refl _⟩) hA hS (fun r_4 f_1 L_2 Q_3 H locs hq hP hS => ?_)
  obtain ⟨⟨ef9, eL9, eQ9⟩, hq⟩ := hq
  rw [ef9, eL9, eQ9] at hP; clear ef9 eL9 eQ9
  rcases hq with ⟨rfl, hq⟩ | hq | ⟨rfl, hq⟩
  · skip
    have q_5 := hq
    refine lv_iconst (v := (-1)) hx hb dX12_never_5 (by decide) ?_
    refine lv_icmp_eq (tgt := 24) hx hb dX12_never_6 (by decide) (fun c => absurd c (by decide)) (fun c => ?_)
    refine lv_iload_n hx hb dX12_never_9 rfl (lv_at hl 2 rfl) ?_
    refine sg_calli (va_runS (As := [.int x1]) (rest := []) ⟨hx, hb, hml, hown, hts⟩ (kX12_isPart l D ca za h hh f L Q hI x1 H.size) (va_cwS 1 hts (gw_S (fun _ h => List.mem_cons_of_mem _ h) mw_636 mw_637 mw_619 mw_635) rfl rfl rfl (by decide +kernel) ⟨Nat.le_of_ble_eq_true rfl, Nat.le_of_ble_eq_true rfl⟩) (sg_preS hA hK hP hS hZ) rfl rfl hl.1 rfl (lv_room (Nat.le_of_ble_eq_true rfl)) dX12_never_10 ⟨Nat.le_refl _, Nat.le_refl _⟩) hA hS (fun r_9 f_6 L_7 Q_8 H locs hq hP hS => ?_)
    obtain ⟨⟨ef9, eL9, eQ9⟩, hq⟩ := hq
    rw [ef9, eL9, eQ9] at hP; clear ef9 eL9 eQ9
    rcases hq with ⟨rfl, hq⟩ | ⟨rfl, hq⟩
    · skip
      have q_10 := hq
      refine lv_if_eq (tgt := 24) hx hb dX12_never_13 (by decide) (fun c => absurd c (by decide)) (fun c => ?_)
      refine lv_iload_n hx hb dX12_never_16 rfl (lv_at hl 3 rfl) ?_
      obtain ⟨w_11, ew_11⟩ : ∃ z : Int64, z = Int32.toInt64 x2 := ⟨_, rfl⟩
      have q_12 : w_11.toInt = x2.toInt := by rw [ew_11]; exact Int32.toInt_toInt64 _
      refine lv_i2l (v := w_11) hx hb dX12_never_17 ew_11.symm ?_
      refine sg_calli (va_runS (As := [.long w_11]) (rest := []) ⟨hx, hb, hml, hown, hts⟩ (kX12_isSetting l D ca za h hh f L Q hI w_11 H.size) (va_cwS 1 hts (gw_S (fun _ h => List.mem_cons_of_mem _ h) mw_653 mw_654 mw_619 mw_652) rfl rfl rfl (by decide +kernel) ⟨Nat.le_of_ble_eq_true rfl, Nat.le_of_ble_eq_true rfl⟩) (sg_preS hA hK hP hS hZ) rfl rfl hl.1 rfl (lv_room (Nat.le_of_ble_eq_true rfl)) dX12_never_18 ⟨Nat.le_refl _, Nat.le_refl _⟩) hA hS (fun r_16 f_13 L_14 Q_15 H locs hq hP hS => ?_)
      obtain ⟨⟨ef9, eL9, eQ9⟩, hq⟩ := hq
      rw [ef9, eL9, eQ9] at hP; clear ef9 eL9 eQ9
      rcases hq with ⟨rfl, hq⟩ | ⟨rfl, hq⟩
      · skip
        have q_17 := hq
        refine lv_if_ne (tgt := 26) hx hb dX12_never_21 (by decide) (fun c => ?_) (fun c => absurd c (by decide))
        refine lv_aload_n hx hb dX12_never_26 rfl (lv_at hl 0 rfl) ?_
        refine lv_iload_n hx hb dX12_never_27 rfl (lv_at hl 1 rfl) ?_
        refine sg_calli (va_runV (As := [.int x0]) (rest := []) ⟨hx, hb, hml, hown, hts⟩ (kX12_bytesIs l D ca za h hh f L Q hI x0 H.size) (cwV 1 hts (gw_V (fun _ h => List.mem_cons_of_mem _ h) mw_685 mw_686 mw_687 mw_619 mw_684) rfl rfl rfl (by decide +kernel) ⟨Nat.le_of_ble_eq_true rfl, Nat.le_of_ble_eq_true rfl⟩) (sg_preV (ci := 12) (C := RX12) (T := TX12) (N := 55) hA hK hP hS hZ 0 (by decide) rfl rfl) rfl rfl hl.1 rfl (lv_room (Nat.le_of_ble_eq_true rfl)) dX12_never_28 ⟨Nat.le_refl _, Nat.le_refl _⟩) hA hS (fun r_21 f_18 L_19 Q_20 H locs hq hP hS => ?_)
        obtain ⟨⟨ef9, eL9, eQ9⟩, hq⟩ := hq
        rw [ef9, eL9, eQ9] at hP; clear ef9 eL9 eQ9
        rcases hq with ⟨rfl, hq⟩ | hq | ⟨rfl, hq⟩
        · skip
          have q_22 := hq
          refine lv_if_ge (tgt := 42) hx hb dX12_never_31 (by decide) (fun c => ?_) (fun c => absurd c (by decide))
          refine lv_aload_n hx hb dX12_never_42 rfl (lv_at hl 0 rfl) ?_
          refine lv_iload_n hx hb dX12_never_43 rfl (lv_at hl 1 rfl) ?_
          refine lv_iload_n hx hb dX12_never_44 rfl (lv_at hl 2 rfl) ?_
          refine lv_iload_n hx hb dX12_never_45 rfl (lv_at hl 3 rfl) ?_
          refine sg_calli (va_runV (As := [.int x0, .int x1, .int x2]) (rest := []) ⟨hx, hb, hml, hown, hts⟩ (kX12_neverOf l D ca za h hh f L Q hI x0 x1 x2 (by omega) (by omega) (by omega) H.size) (cwV 3 hts (gw_V (fun _ h => List.mem_cons_of_mem _ h) mw_775 mw_776 mw_777 mw_619 mw_774) rfl rfl rfl (by decide +kernel) ⟨Nat.le_of_ble_eq_true rfl, Nat.le_of_ble_eq_true rfl⟩) (sg_preV (ci := 12) (C := RX12) (T := TX12) (N := 55) hA hK hP hS hZ 0 (by decide) rfl rfl) rfl rfl hl.1 rfl (lv_room (Nat.le_of_ble_eq_true rfl)) dX12_never_46 ⟨Nat.le_refl _, Nat.le_refl _⟩) hA hS (fun r_26 f_23 L_24 Q_25 H locs hq hP hS => ?_)
          obtain ⟨⟨hI, hk_f_23, eL9, eQ9⟩, hq⟩ := hq
          rw [eL9, eQ9] at hP; clear eL9 eQ9
          have hF : sgK WkX12_never f f_23 := sgK.tr hF hk_f_23 (by decide)
          exact hret _ _ _ _ (r_26) f_23 L Q dX12_never_49 hP hS ⟨⟨hI, hF, rfl, rfl⟩, trivial⟩
        · skip
          have q_27 := hq
          refine lv_if_ge (tgt := 42) hx hb dX12_never_31 (by decide) (fun c => ?_) (fun c => ?_)
          · skip
            exfalso; have c_28 : 0 ≤ r_21.toInt := (by have z := bn_le c; have k1 : (0 : Int32).toInt = 0 := (by decide); omega); omega
          · skip
            have c_29 : r_21.toInt < 0 := (by have z := bn_nle c; have k1 : (0 : Int32).toInt = 0 := (by decide); omega)
            refine lv_aload_n hx hb dX12_never_34 rfl (lv_at hl 0 rfl) ?_
            refine lv_iload_n hx hb dX12_never_35 rfl (lv_at hl 1 rfl) ?_
            refine sg_calli (va_runV (As := [.int x0]) (rest := []) ⟨hx, hb, hml, hown, hts⟩ (kX12_bytesIs l D ca za h hh f L Q hI x0 H.size) (cwV 1 hts (gw_V (fun _ h => List.mem_cons_of_mem _ h) mw_685 mw_686 mw_687 mw_619 mw_684) rfl rfl rfl (by decide +kernel) ⟨Nat.le_of_ble_eq_true rfl, Nat.le_of_ble_eq_true rfl⟩) (sg_preV (ci := 12) (C := RX12) (T := TX12) (N := 55) hA hK hP hS hZ 0 (by decide) rfl rfl) rfl rfl hl.1 rfl (lv_room (Nat.le_of_ble_eq_true rfl)) dX12_never_36 ⟨Nat.le_refl _, Nat.le_refl _⟩) hA hS (fun r_33 f_30 L_31 Q_32 H locs hq hP hS => ?_)
            obtain ⟨⟨ef9, eL9, eQ9⟩, hq⟩ := hq
            rw [ef9, eL9, eQ9] at hP; clear ef9 eL9 eQ9
            rcases hq with ⟨rfl, hq⟩ | hq | ⟨rfl, hq⟩
            · skip
              have q_34 := hq
              refine lv_goto (tgt := 49) hx hb dX12_never_39 (by decide) ?_
              have k99 : (1 : Int32).toInt = 1 := (by decide)
              exact hret _ _ _ _ (1) f L Q dX12_never_49 hP hS ⟨⟨hI, hF, rfl, rfl⟩, trivial⟩
            · skip
              have q_35 := hq
              refine lv_goto (tgt := 49) hx hb dX12_never_39 (by decide) ?_
              exact hret _ _ _ _ (r_33) f L Q dX12_never_49 hP hS ⟨⟨hI, hF, rfl, rfl⟩, trivial⟩
            · skip
              have q_36 := hq
              refine lv_goto (tgt := 49) hx hb dX12_never_39 (by decide) ?_
              have k99 : ((-1) : Int32).toInt = (-1) := (by decide)
              exact hret _ _ _ _ (-1) f L Q dX12_never_49 hP hS ⟨⟨hI, hF, rfl, rfl⟩, trivial⟩
        · skip
          have q_37 := hq
          refine lv_if_ge (tgt := 42) hx hb dX12_never_31 (by decide) (fun c => absurd c (by decide)) (fun c => ?_)
          refine lv_aload_n hx hb dX12_never_34 rfl (lv_at hl 0 rfl) ?_
          refine lv_iload_n hx hb dX12_never_35 rfl (lv_at hl 1 rfl) ?_
          refine sg_calli (va_runV (As := [.int x0]) (rest := []) ⟨hx, hb, hml, hown, hts⟩ (kX12_bytesIs l D ca za h hh f L Q hI x0 H.size) (cwV 1 hts (gw_V (fun _ h => List.mem_cons_of_mem _ h) mw_685 mw_686 mw_687 mw_619 mw_684) rfl rfl rfl (by decide +kernel) ⟨Nat.le_of_ble_eq_true rfl, Nat.le_of_ble_eq_true rfl⟩) (sg_preV (ci := 12) (C := RX12) (T := TX12) (N := 55) hA hK hP hS hZ 0 (by decide) rfl rfl) rfl rfl hl.1 rfl (lv_room (Nat.le_of_ble_eq_true rfl)) dX12_never_36 ⟨Nat.le_refl _, Nat.le_refl _⟩) hA hS (fun r_41 f_38 L_39 Q_40 H locs hq hP hS => ?_)
          obtain ⟨⟨ef9, eL9, eQ9⟩, hq⟩ := hq
          rw [ef9, eL9, eQ9] at hP; clear ef9 eL9 eQ9
          rcases hq with ⟨rfl, hq⟩ | hq | ⟨rfl, hq⟩
          · skip
            have q_42 := hq
            refine lv_goto (tgt := 49) hx hb dX12_never_39 (by decide) ?_
            have k99 : (1 : Int32).toInt = 1 := (by decide)
            exact hret _ _ _ _ (1) f L Q dX12_never_49 hP hS ⟨⟨hI, hF, rfl, rfl⟩, trivial⟩
          · skip
            have q_43 := hq
            refine lv_goto (tgt := 49) hx hb dX12_never_39 (by decide) ?_
            exact hret _ _ _ _ (r_41) f L Q dX12_never_49 hP hS ⟨⟨hI, hF, rfl, rfl⟩, trivial⟩
          · skip
            have q_44 := hq
            refine lv_goto (tgt := 49) hx hb dX12_never_39 (by decide) ?_
            have k99 : ((-1) : Int32).toInt = (-1) := (by decide)
            exact hret _ _ _ _ (-1) f L Q dX12_never_49 hP hS ⟨⟨hI, hF, rfl, rfl⟩, trivial⟩
      · skip
        have q_45 := hq
        refine lv_if_ne (tgt := 26) hx hb dX12_never_21 (by decide) (fun c => absurd c (by decide)) (fun c => ?_)
        refine lv_iconst (v := (-1)) hx hb dX12_never_24 (by decide) ?_
        have k99 : ((-1) : Int32).toInt = (-1) := (by decide)
        exact hret _ _ _ _ (-1) f L Q dX12_never_25 hP hS ⟨⟨hI, hF, rfl, rfl⟩, trivial⟩
    · skip
      have q_46 := hq
      refine lv_if_eq (tgt := 24) hx hb dX12_never_13 (by decide) (fun c => ?_) (fun c => absurd c (by decide))
      refine lv_iconst (v := (-1)) hx hb dX12_never_24 (by decide) ?_
      have k99 : ((-1) : Int32).toInt = (-1) := (by decide)
      exact hret _ _ _ _ (-1) f L Q dX12_never_25 hP hS ⟨⟨hI, hF, rfl, rfl⟩, trivial⟩
  · skip
    have q_47 := hq
    refine lv_iconst (v := (-1)) hx hb dX12_never_5 (by decide) ?_
    refine lv_icmp_eq (tgt := 24) hx hb dX12_never_6 (by decide) (fun c => ?_) (fun c => ?_)
    · skip
      exfalso; have c_48 : r_4.toInt = (-1) := (by have z := Int32.toInt_inj.mpr c; have k1 : ((-1) : Int32).toInt = (-1) := (by decide); omega); omega
    · skip
      have c_49 : r_4.toInt ≠ (-1) := (by have z := bn_ne c; have k1 : ((-1) : Int32).toInt = (-1) := (by decide); omega)
      refine lv_iload_n hx hb dX12_never_9 rfl (lv_at hl 2 rfl) ?_
      refine sg_calli (va_runS (As := [.int x1]) (rest := []) ⟨hx, hb, hml, hown, hts⟩ (kX12_isPart l D ca za h hh f L Q hI x1 H.size) (va_cwS 1 hts (gw_S (fun _ h => List.mem_cons_of_mem _ h) mw_636 mw_637 mw_619 mw_635) rfl rfl rfl (by decide +kernel) ⟨Nat.le_of_ble_eq_true rfl, Nat.le_of_ble_eq_true rfl⟩) (sg_preS hA hK hP hS hZ) rfl rfl hl.1 rfl (lv_room (Nat.le_of_ble_eq_true rfl)) dX12_never_10 ⟨Nat.le_refl _, Nat.le_refl _⟩) hA hS (fun r_53 f_50 L_51 Q_52 H locs hq hP hS => ?_)
      obtain ⟨⟨ef9, eL9, eQ9⟩, hq⟩ := hq
      rw [ef9, eL9, eQ9] at hP; clear ef9 eL9 eQ9
      rcases hq with ⟨rfl, hq⟩ | ⟨rfl, hq⟩
      · skip
        have q_54 := hq
        refine lv_if_eq (tgt := 24) hx hb dX12_never_13 (by decide) (fun c => absurd c (by decide)) (fun c => ?_)
        refine lv_iload_n hx hb dX12_never_16 rfl (lv_at hl 3 rfl) ?_
        obtain ⟨w_55, ew_55⟩ : ∃ z : Int64, z = Int32.toInt64 x2 := ⟨_, rfl⟩
        have q_56 : w_55.toInt = x2.toInt := by rw [ew_55]; exact Int32.toInt_toInt64 _
        refine lv_i2l (v := w_55) hx hb dX12_never_17 ew_55.symm ?_
        refine sg_calli (va_runS (As := [.long w_55]) (rest := []) ⟨hx, hb, hml, hown, hts⟩ (kX12_isSetting l D ca za h hh f L Q hI w_55 H.size) (va_cwS 1 hts (gw_S (fun _ h => List.mem_cons_of_mem _ h) mw_653 mw_654 mw_619 mw_652) rfl rfl rfl (by decide +kernel) ⟨Nat.le_of_ble_eq_true rfl, Nat.le_of_ble_eq_true rfl⟩) (sg_preS hA hK hP hS hZ) rfl rfl hl.1 rfl (lv_room (Nat.le_of_ble_eq_true rfl)) dX12_never_18 ⟨Nat.le_refl _, Nat.le_refl _⟩) hA hS (fun r_60 f_57 L_58 Q_59 H locs hq hP hS => ?_)
        obtain ⟨⟨ef9, eL9, eQ9⟩, hq⟩ := hq
        rw [ef9, eL9, eQ9] at hP; clear ef9 eL9 eQ9
        rcases hq with ⟨rfl, hq⟩ | ⟨rfl, hq⟩
        · skip
          have q_61 := hq
          refine lv_if_ne (tgt := 26) hx hb dX12_never_21 (by decide) (fun c => ?_) (fun c => absurd c (by decide))
          refine lv_aload_n hx hb dX12_never_26 rfl (lv_at hl 0 rfl) ?_
          refine lv_iload_n hx hb dX12_never_27 rfl (lv_at hl 1 rfl) ?_
          refine sg_calli (va_runV (As := [.int x0]) (rest := []) ⟨hx, hb, hml, hown, hts⟩ (kX12_bytesIs l D ca za h hh f L Q hI x0 H.size) (cwV 1 hts (gw_V (fun _ h => List.mem_cons_of_mem _ h) mw_685 mw_686 mw_687 mw_619 mw_684) rfl rfl rfl (by decide +kernel) ⟨Nat.le_of_ble_eq_true rfl, Nat.le_of_ble_eq_true rfl⟩) (sg_preV (ci := 12) (C := RX12) (T := TX12) (N := 55) hA hK hP hS hZ 0 (by decide) rfl rfl) rfl rfl hl.1 rfl (lv_room (Nat.le_of_ble_eq_true rfl)) dX12_never_28 ⟨Nat.le_refl _, Nat.le_refl _⟩) hA hS (fun r_65 f_62 L_63 Q_64 H locs hq hP hS => ?_)
          obtain ⟨⟨ef9, eL9, eQ9⟩, hq⟩ := hq
          rw [ef9, eL9, eQ9] at hP; clear ef9 eL9 eQ9
          rcases hq with ⟨rfl, hq⟩ | hq | ⟨rfl, hq⟩
          · skip
            have q_66 := hq
            refine lv_if_ge (tgt := 42) hx hb dX12_never_31 (by decide) (fun c => ?_) (fun c => absurd c (by decide))
            refine lv_aload_n hx hb dX12_never_42 rfl (lv_at hl 0 rfl) ?_
            refine lv_iload_n hx hb dX12_never_43 rfl (lv_at hl 1 rfl) ?_
            refine lv_iload_n hx hb dX12_never_44 rfl (lv_at hl 2 rfl) ?_
            refine lv_iload_n hx hb dX12_never_45 rfl (lv_at hl 3 rfl) ?_
            refine sg_calli (va_runV (As := [.int x0, .int x1, .int x2]) (rest := []) ⟨hx, hb, hml, hown, hts⟩ (kX12_neverOf l D ca za h hh f L Q hI x0 x1 x2 (by omega) (by omega) (by omega) H.size) (cwV 3 hts (gw_V (fun _ h => List.mem_cons_of_mem _ h) mw_775 mw_776 mw_777 mw_619 mw_774) rfl rfl rfl (by decide +kernel) ⟨Nat.le_of_ble_eq_true rfl, Nat.le_of_ble_eq_true rfl⟩) (sg_preV (ci := 12) (C := RX12) (T := TX12) (N := 55) hA hK hP hS hZ 0 (by decide) rfl rfl) rfl rfl hl.1 rfl (lv_room (Nat.le_of_ble_eq_true rfl)) dX12_never_46 ⟨Nat.le_refl _, Nat.le_refl _⟩) hA hS (fun r_70 f_67 L_68 Q_69 H locs hq hP hS => ?_)
            obtain ⟨⟨hI, hk_f_67, eL9, eQ9⟩, hq⟩ := hq
            rw [eL9, eQ9] at hP; clear eL9 eQ9
            have hF : sgK WkX12_never f f_67 := sgK.tr hF hk_f_67 (by decide)
            exact hret _ _ _ _ (r_70) f_67 L Q dX12_never_49 hP hS ⟨⟨hI, hF, rfl, rfl⟩, trivial⟩
          · skip
            have q_71 := hq
            refine lv_if_ge (tgt := 42) hx hb dX12_never_31 (by decide) (fun c => ?_) (fun c => ?_)
            · skip
              exfalso; have c_72 : 0 ≤ r_65.toInt := (by have z := bn_le c; have k1 : (0 : Int32).toInt = 0 := (by decide); omega); omega
            · skip
              have c_73 : r_65.toInt < 0 := (by have z := bn_nle c; have k1 : (0 : Int32).toInt = 0 := (by decide); omega)
              refine lv_aload_n hx hb dX12_never_34 rfl (lv_at hl 0 rfl) ?_
              refine lv_iload_n hx hb dX12_never_35 rfl (lv_at hl 1 rfl) ?_
              refine sg_calli (va_runV (As := [.int x0]) (rest := []) ⟨hx, hb, hml, hown, hts⟩ (kX12_bytesIs l D ca za h hh f L Q hI x0 H.size) (cwV 1 hts (gw_V (fun _ h => List.mem_cons_of_mem _ h) mw_685 mw_686 mw_687 mw_619 mw_684) rfl rfl rfl (by decide +kernel) ⟨Nat.le_of_ble_eq_true rfl, Nat.le_of_ble_eq_true rfl⟩) (sg_preV (ci := 12) (C := RX12) (T := TX12) (N := 55) hA hK hP hS hZ 0 (by decide) rfl rfl) rfl rfl hl.1 rfl (lv_room (Nat.le_of_ble_eq_true rfl)) dX12_never_36 ⟨Nat.le_refl _, Nat.le_refl _⟩) hA hS (fun r_77 f_74 L_75 Q_76 H locs hq hP hS => ?_)
              obtain ⟨⟨ef9, eL9, eQ9⟩, hq⟩ := hq
              rw [ef9, eL9, eQ9] at hP; clear ef9 eL9 eQ9
              rcases hq with ⟨rfl, hq⟩ | hq | ⟨rfl, hq⟩
              · skip
                have q_78 := hq
                refine lv_goto (tgt := 49) hx hb dX12_never_39 (by decide) ?_
                have k99 : (1 : Int32).toInt = 1 := (by decide)
                exact hret _ _ _ _ (1) f L Q dX12_never_49 hP hS ⟨⟨hI, hF, rfl, rfl⟩, trivial⟩
              · skip
                have q_79 := hq
                refine lv_goto (tgt := 49) hx hb dX12_never_39 (by decide) ?_
                exact hret _ _ _ _ (r_77) f L Q dX12_never_49 hP hS ⟨⟨hI, hF, rfl, rfl⟩, trivial⟩
              · skip
                have q_80 := hq
                refine lv_goto (tgt := 49) hx hb dX12_never_39 (by decide) ?_
                have k99 : ((-1) : Int32).toInt = (-1) := (by decide)
                exact hret _ _ _ _ (-1) f L Q dX12_never_49 hP hS ⟨⟨hI, hF, rfl, rfl⟩, trivial⟩
          · skip
            have q_81 := hq
            refine lv_if_ge (tgt := 42) hx hb dX12_never_31 (by decide) (fun c => absurd c (by decide)) (fun c => ?_)
            refine lv_aload_n hx hb dX12_never_34 rfl (lv_at hl 0 rfl) ?_
            refine lv_iload_n hx hb dX12_never_35 rfl (lv_at hl 1 rfl) ?_
            refine sg_calli (va_runV (As := [.int x0]) (rest := []) ⟨hx, hb, hml, hown, hts⟩ (kX12_bytesIs l D ca za h hh f L Q hI x0 H.size) (cwV 1 hts (gw_V (fun _ h => List.mem_cons_of_mem _ h) mw_685 mw_686 mw_687 mw_619 mw_684) rfl rfl rfl (by decide +kernel) ⟨Nat.le_of_ble_eq_true rfl, Nat.le_of_ble_eq_true rfl⟩) (sg_preV (ci := 12) (C := RX12) (T := TX12) (N := 55) hA hK hP hS hZ 0 (by decide) rfl rfl) rfl rfl hl.1 rfl (lv_room (Nat.le_of_ble_eq_true rfl)) dX12_never_36 ⟨Nat.le_refl _, Nat.le_refl _⟩) hA hS (fun r_85 f_82 L_83 Q_84 H locs hq hP hS => ?_)
            obtain ⟨⟨ef9, eL9, eQ9⟩, hq⟩ := hq
            rw [ef9, eL9, eQ9] at hP; clear ef9 eL9 eQ9
            rcases hq with ⟨rfl, hq⟩ | hq | ⟨rfl, hq⟩
            · skip
              have q_86 := hq
              refine lv_goto (tgt := 49) hx hb dX12_never_39 (by decide) ?_
              have k99 : (1 : Int32).toInt = 1 := (by decide)
              exact hret _ _ _ _ (1) f L Q dX12_never_49 hP hS ⟨⟨hI, hF, rfl, rfl⟩, trivial⟩
            · skip
              have q_87 := hq
              refine lv_goto (tgt := 49) hx hb dX12_never_39 (by decide) ?_
              exact hret _ _ _ _ (r_85) f L Q dX12_never_49 hP hS ⟨⟨hI, hF, rfl, rfl⟩, trivial⟩
            · skip
              have q_88 := hq
              refine lv_goto (tgt := 49) hx hb dX12_never_39 (by decide) ?_
              have k99 : ((-1) : Int32).toInt = (-1) := (by decide)
              exact hret _ _ _ _ (-1) f L Q dX12_never_49 hP hS ⟨⟨hI, hF, rfl, rfl⟩, trivial⟩
        · skip
          have q_89 := hq
          refine lv_if_ne (tgt := 26) hx hb dX12_never_21 (by decide) (fun c => absurd c (by decide)) (fun c => ?_)
          refine lv_iconst (v := (-1)) hx hb dX12_never_24 (by decide) ?_
          have k99 : ((-1) : Int32).toInt = (-1) := (by decide)
          exact hret _ _ _ _ (-1) f L Q dX12_never_25 hP hS ⟨⟨hI, hF, rfl, rfl⟩, trivial⟩
      · skip
        have q_90 := hq
        refine lv_if_eq (tgt := 24) hx hb dX12_never_13 (by decide) (fun c => ?_) (fun c => absurd c (by decide))
        refine lv_iconst (v := (-1)) hx hb dX12_never_24 (by decide) ?_
        have k99 : ((-1) : Int32).toInt = (-1) := (by decide)
        exact hret _ _ _ _ (-1) f L Q dX12_never_25 hP hS ⟨⟨hI, hF, rfl, rfl⟩, trivial⟩
  · skip
    have q_91 := hq
    refine lv_iconst (v := (-1)) hx hb dX12_never_5 (by decide) ?_
    refine lv_icmp_eq (tgt := 24) hx hb dX12_never_6 (by decide) (fun c => ?_) (fun c => absurd c (by decide))
    refine lv_iconst (v := (-1)) hx hb dX12_never_24 (by decide) ?_
    have k99 : ((-1) : Int32).toInt = (-1) := (by decide)
    exact hret _ _ _ _ (-1) f L Q dX12_never_25 hP hS ⟨⟨hI, hF, rfl, rfl⟩, trivial⟩

set_option maxHeartbeats 4000000 in
set_option maxRecDepth 100000 in
theorem kX12_anySits (l : Launch) (D : va_G) (ca : Nat → ClassId) (za h : Nat → Nat) (hh : sgH 26 h) (f : sg_F) (L : sg_L) (Q : sg_Q) (hI : sgI loM hiM f) (x0 : Int32) (b0 : 0 ≤ x0.toInt ∧ x0.toInt ≤ 5) (sz : Nat) : Met l yX12_anySits gwX12_anySits { frames := 3, cells := 0, slots := 0, locals := 71 } (sgP D vwCl (tyX ca) 26 h (eM ca h) zcM za f L Q sz [.ref (h 0), .int x0]) (sgQi D vwCl 26 h (eM ca h) sz (fun r f1 L1 Q1 => ((f1 = f ∧ L1 = L ∧ Q1 = Q) ∧ (0 ≤ r.toInt ∧ r.toInt ≤ 1)))) 0 0 (sgA 26 h sz) := by
  refine sg_ofWz (cc := cX12_anySits) (maxL := 3) RX12 (by decide) rfl rfl (Nat.le_of_ble_eq_true rfl) ?_
  intro p e s m below meth cd Qz ls hx hb hml hown hts hK hZ hP hS hl hret
  have hA := sgY.self (n := 26) (h := h) (sz := s.heap.size)
  have hl : lv_has ls 3 [(0, .ref (h 0)), (1, .int x0)] := hl
  obtain ⟨H, hH⟩ : ∃ z : Heap, z = s.heap := ⟨_, rfl⟩
  obtain ⟨locs, hlo⟩ : ∃ z : List Loc, z = [] := ⟨_, rfl⟩
  have hP : va_P D vwCl (sgw 26 h (eM ca h) f L Q) H := by rw [hH]; exact hP
  have hS : va_S (sgA 26 h s.heap.size) s.heap H locs := by rw [hH, hlo]; exact hS
  suffices hgo : W p l e ({ frames := 3, cells := 0, slots := 0, locals := 71 }) s m ([.ref (h 0), .int x0] : List Value).toArray below meth cd H locs 0 0 Qz (F0 m 0 ls []) by rw [hH, hlo] at hgo; exact hgo
  clear hH hlo
  have loop_2 : ∀ (n_2 : Nat) (y2_2 : Int32) (H : Heap) (locs : List Loc) (ls : Array Slot), 21 - y2_2.toInt < (n_2 : Int) → 0 ≤ y2_2.toInt ∧ y2_2.toInt ≤ 21 → va_P D vwCl (sgw 26 h (eM ca h) f L Q) H → va_S (sgA 26 h s.heap.size) s.heap H locs → lv_has ls 3 [(0, .ref (h 0)), (1, .int x0), (2, .int y2_2)] → W p l e ({ frames := 3, cells := 0, slots := 0, locals := 71 }) s m ([.ref (h 0), .int x0] : List Value).toArray below meth cd H locs 0 0 Qz (F0 m 2 ls []) := by
    intro n_2
    induction n_2 with
    | zero => intro y2_2 H locs ls hm_2 hy0_2 hP hS hl; exact absurd hm_2 (by omega)
    | succ n_2 ih_2 =>
      intro y2_2 H locs ls hm_2 hy0_2 hP hS hl
      refine lv_iload_n hx hb dX12_anySits_2 rfl (lv_at hl 2 rfl) ?_
      refine lv_aload_n hx hb dX12_anySits_3 rfl (lv_at hl 0 rfl) ?_
      refine lv_iload_n hx hb dX12_anySits_4 rfl (lv_at hl 1 rfl) ?_
      refine sg_calli (va_runV (As := [.int x0]) (rest := [.int y2_2]) ⟨hx, hb, hml, hown, hts⟩ (kX12_shiftsOf l D ca za h hh f L Q hI x0 (by omega) H.size) (cwV 1 hts (gw_V (fun _ h => List.mem_cons_of_mem _ h) mw_714 mw_715 mw_716 mw_619 mw_713) rfl rfl rfl (by decide +kernel) ⟨Nat.le_of_ble_eq_true rfl, Nat.le_of_ble_eq_true rfl⟩) (sg_preV (ci := 12) (C := RX12) (T := TX12) (N := 55) hA hK hP hS hZ 0 (by decide) rfl rfl) rfl rfl hl.1 rfl (lv_room (Nat.le_of_ble_eq_true rfl)) dX12_anySits_5 ⟨Nat.le_refl _, Nat.le_refl _⟩) hA hS (fun r_4 f_1 L_2 Q_3 H locs hq hP hS => ?_)
      obtain ⟨⟨ef9, eL9, eQ9⟩, hq⟩ := hq
      rw [ef9, eL9, eQ9] at hP; clear ef9 eL9 eQ9
      refine lv_icmp_ge (tgt := 28) hx hb dX12_anySits_8 (by decide) (fun c => ?_) (fun c => ?_)
      · skip
        have c_5 : r_4.toInt ≤ y2_2.toInt := (by have z := bn_le c; omega)
        refine lv_iconst (v := 0) hx hb dX12_anySits_28 (by decide) ?_
        have k99 : (0 : Int32).toInt = 0 := (by decide)
        exact hret _ _ _ _ (0) f L Q dX12_anySits_29 (by decide) hP hS ⟨⟨rfl, rfl, rfl⟩, (by decide)⟩
      · skip
        have c_6 : y2_2.toInt < r_4.toInt := (by have z := bn_nle c; omega)
        refine lv_aload_n hx hb dX12_anySits_11 rfl (lv_at hl 0 rfl) ?_
        refine lv_iload_n hx hb dX12_anySits_12 rfl (lv_at hl 1 rfl) ?_
        refine lv_iload_n hx hb dX12_anySits_13 rfl (lv_at hl 2 rfl) ?_
        refine sg_calli (va_runV (As := [.int x0, .int y2_2]) (rest := []) ⟨hx, hb, hml, hown, hts⟩ (kX12_whoSits l D ca za h hh f L Q hI x0 y2_2 (by omega) (by omega) H.size) (cwV 2 hts (gw_V (fun _ h => List.mem_cons_of_mem _ h) mw_725 mw_726 mw_727 mw_619 mw_724) rfl rfl rfl (by decide +kernel) ⟨Nat.le_of_ble_eq_true rfl, Nat.le_of_ble_eq_true rfl⟩) (sg_preV (ci := 12) (C := RX12) (T := TX12) (N := 55) hA hK hP hS hZ 0 (by decide) rfl rfl) rfl rfl hl.1 rfl (lv_room (Nat.le_of_ble_eq_true rfl)) dX12_anySits_14 ⟨Nat.le_refl _, Nat.le_refl _⟩) hA hS (fun r_10 f_7 L_8 Q_9 H locs hq hP hS => ?_)
        obtain ⟨⟨ef9, eL9, eQ9⟩, hq, u_11⟩ := hq
        rw [ef9, eL9, eQ9] at hP; clear ef9 eL9 eQ9
        refine lv_if_lt (tgt := 22) hx hb dX12_anySits_17 (by decide) (fun c => ?_) (fun c => ?_)
        · skip
          have c_12 : r_10.toInt < 0 := (by have z := bn_lt c; have k1 : (0 : Int32).toInt = 0 := (by decide); omega)
          obtain ⟨v_14, ev_14⟩ : ∃ z : Int32, z = y2_2 + 1 := ⟨_, rfl⟩
          have q_15 : v_14.toInt = y2_2.toInt + 1 := by rw [ev_14]; exact (bn_addc y2_2 1 (by decide) (by omega) (by omega))
          refine lv_iinc (v := v_14) (lv' := [(2, .int v_14), (0, .ref (h 0)), (1, .int x0)]) hx hb dX12_anySits_22 hl (k := 2) rfl (by rw [ev_14]; rfl) (by decide) rfl (fun ls hl => ?_)
          refine lv_goto (tgt := 2) hx hb dX12_anySits_25 (by decide) ?_
          exact ih_2 v_14 _ _ _ (by omega) (by omega) hP hS (lv_sub hl [1, 2, 0] rfl)
        · skip
          have c_13 : 0 ≤ r_10.toInt := (by have z := bn_nlt c; have k1 : (0 : Int32).toInt = 0 := (by decide); omega)
          refine lv_iconst (v := 1) hx hb dX12_anySits_20 (by decide) ?_
          have k99 : (1 : Int32).toInt = 1 := (by decide)
          exact hret _ _ _ _ (1) f L Q dX12_anySits_21 (by decide) hP hS ⟨⟨rfl, rfl, rfl⟩, (by decide)⟩
  refine lv_iconst (v := 0) hx hb dX12_anySits_0 (by decide) ?_
  refine lv_istore_n (lv' := [(2, .int 0), (0, .ref (h 0)), (1, .int x0)]) hx hb dX12_anySits_1 rfl hl (by decide) rfl (fun ls hl => ?_)
  exact loop_2 22 0 _ _ _ (by have kc0 : (0 : Int32).toInt = 0 := (by decide); omega) (by decide) hP hS (lv_sub hl [1, 2, 0] rfl)

abbrev WkX12_worstOf : List (Nat × Nat × Option Nat) := [(0, 0, some 12), (0, 0, some 13), (0, 0, some 14), (0, 0, some 15), (0, 0, some 16), (8, 8, none)]
set_option maxHeartbeats 4000000 in
set_option maxRecDepth 100000 in
theorem kX12_worstOf (l : Launch) (D : va_G) (ca : Nat → ClassId) (za h : Nat → Nat) (hh : sgH 26 h) (f : sg_F) (L : sg_L) (Q : sg_Q) (hI : sgI loM hiM f) (x0 : Int32) (x1 : Int32) (x2 : Int32) (b0 : 0 ≤ x0.toInt ∧ x0.toInt ≤ 5) (b1 : 0 ≤ x1.toInt ∧ x1.toInt ≤ 2) (b2 : 0 ≤ x2.toInt ∧ x2.toInt ≤ 60) (sz : Nat) : Met l yX12_worstOf gwX12_worstOf { frames := 45, cells := 0, slots := 0, locals := 1032 } (sgP D vwCl (tyX ca) 26 h (eM ca h) zcM za f L Q sz [.ref (h 0), .int x0, .int x1, .int x2]) (sgQi D vwCl 26 h (eM ca h) sz (fun r f1 L1 Q1 => ((sgI loM hiM f1 ∧ sgK WkX12_worstOf f f1 ∧ L1 = L ∧ Q1 = Q) ∧ (0 ≤ r.toInt)))) 0 0 (sgA 26 h sz) := by
  refine sg_ofWi (cc := cX12_worstOf) (maxL := 7) RX12 (by decide) rfl rfl (Nat.le_of_ble_eq_true rfl) ?_
  intro p e s m below meth cd Qz ls hx hb hml hown hts hK hZ hP hS hl hret
  have hA := sgY.self (n := 26) (h := h) (sz := s.heap.size)
  have hl : lv_has ls 7 [(0, .ref (h 0)), (1, .int x0), (2, .int x1), (3, .int x2)] := hl
  obtain ⟨H, hH⟩ : ∃ z : Heap, z = s.heap := ⟨_, rfl⟩
  obtain ⟨locs, hlo⟩ : ∃ z : List Loc, z = [] := ⟨_, rfl⟩
  have hP : va_P D vwCl (sgw 26 h (eM ca h) f L Q) H := by rw [hH]; exact hP
  have hS : va_S (sgA 26 h s.heap.size) s.heap H locs := by rw [hH, hlo]; exact hS
  suffices hgo : W p l e ({ frames := 45, cells := 0, slots := 0, locals := 1032 }) s m ([.ref (h 0), .int x0, .int x1, .int x2] : List Value).toArray below meth cd H locs 0 0 Qz (F0 m 0 ls []) by rw [hH, hlo] at hgo; exact hgo
  clear hH hlo
  have hF : sgK WkX12_worstOf f f := sgK.rf
  have loop_6 : ∀ (n_6 : Nat) (y4_6 : Int32) (y5_6 : Int32) (fp_6 : sg_F) (H : Heap) (locs : List Loc) (ls : Array Slot), 21 - y5_6.toInt < (n_6 : Int) → 0 ≤ y4_6.toInt → 0 ≤ y5_6.toInt ∧ y5_6.toInt ≤ 21 → sgI loM hiM fp_6 → sgK WkX12_worstOf f fp_6 → va_P D vwCl (sgw 26 h (eM ca h) fp_6 L Q) H → va_S (sgA 26 h s.heap.size) s.heap H locs → lv_has ls 7 [(0, .ref (h 0)), (1, .int x0), (2, .int x1), (3, .int x2), (4, .int y4_6), (5, .int y5_6)] → W p l e ({ frames := 45, cells := 0, slots := 0, locals := 1032 }) s m ([.ref (h 0), .int x0, .int x1, .int x2] : List Value).toArray below meth cd H locs 0 0 Qz (F0 m 6 ls []) := by
    intro n_6
    induction n_6 with
    | zero => intro y4_6 y5_6 fp_6 H locs ls hm_6 hy0_6 hy1_6 hI hF hP hS hl; exact absurd hm_6 (by omega)
    | succ n_6 ih_6 =>
      intro y4_6 y5_6 fp_6 H locs ls hm_6 hy0_6 hy1_6 hI hF hP hS hl
      refine lv_iload hx hb dX12_worstOf_6 (lv_at hl 5 rfl) ?_
      refine lv_aload_n hx hb dX12_worstOf_8 rfl (lv_at hl 0 rfl) ?_
      refine lv_iload_n hx hb dX12_worstOf_9 rfl (lv_at hl 1 rfl) ?_
      refine sg_calli (va_runV (As := [.int x0]) (rest := [.int y5_6]) ⟨hx, hb, hml, hown, hts⟩ (kX12_shiftsOf l D ca za h hh fp_6 L Q hI x0 (by omega) H.size) (cwV 1 hts (gw_V (fun _ h => List.mem_cons_of_mem _ h) mw_714 mw_715 mw_716 mw_619 mw_713) rfl rfl rfl (by decide +kernel) ⟨Nat.le_of_ble_eq_true rfl, Nat.le_of_ble_eq_true rfl⟩) (sg_preV (ci := 12) (C := RX12) (T := TX12) (N := 55) hA hK hP hS hZ 0 (by decide) rfl rfl) rfl rfl hl.1 rfl (lv_room (Nat.le_of_ble_eq_true rfl)) dX12_worstOf_10 ⟨Nat.le_refl _, Nat.le_refl _⟩) hA hS (fun r_4 f_1 L_2 Q_3 H locs hq hP hS => ?_)
      obtain ⟨⟨ef9, eL9, eQ9⟩, hq⟩ := hq
      rw [ef9, eL9, eQ9] at hP; clear ef9 eL9 eQ9
      refine lv_icmp_ge (tgt := 67) hx hb dX12_worstOf_13 (by decide) (fun c => ?_) (fun c => ?_)
      · skip
        have c_5 : r_4.toInt ≤ y5_6.toInt := (by have z := bn_le c; omega)
        refine lv_iload hx hb dX12_worstOf_67 (lv_at hl 4 rfl) ?_
        exact hret _ _ _ _ (y4_6) fp_6 L Q dX12_worstOf_69 hP hS ⟨⟨hI, hF, rfl, rfl⟩, (by omega)⟩
      · skip
        have c_6 : y5_6.toInt < r_4.toInt := (by have z := bn_nle c; omega)
        refine lv_aload_n hx hb dX12_worstOf_16 rfl (lv_at hl 0 rfl) ?_
        refine lv_iload_n hx hb dX12_worstOf_17 rfl (lv_at hl 1 rfl) ?_
        refine lv_iload hx hb dX12_worstOf_18 (lv_at hl 5 rfl) ?_
        refine sg_calli (va_runV (As := [.int x0, .int y5_6]) (rest := []) ⟨hx, hb, hml, hown, hts⟩ (kX12_whoSits l D ca za h hh fp_6 L Q hI x0 y5_6 (by omega) (by omega) H.size) (cwV 2 hts (gw_V (fun _ h => List.mem_cons_of_mem _ h) mw_725 mw_726 mw_727 mw_619 mw_724) rfl rfl rfl (by decide +kernel) ⟨Nat.le_of_ble_eq_true rfl, Nat.le_of_ble_eq_true rfl⟩) (sg_preV (ci := 12) (C := RX12) (T := TX12) (N := 55) hA hK hP hS hZ 0 (by decide) rfl rfl) rfl rfl hl.1 rfl (lv_room (Nat.le_of_ble_eq_true rfl)) dX12_worstOf_20 ⟨Nat.le_refl _, Nat.le_refl _⟩) hA hS (fun r_10 f_7 L_8 Q_9 H locs hq hP hS => ?_)
        obtain ⟨⟨ef9, eL9, eQ9⟩, hq, u_11⟩ := hq
        rw [ef9, eL9, eQ9] at hP; clear ef9 eL9 eQ9
        refine lv_if_lt (tgt := 42) hx hb dX12_worstOf_23 (by decide) (fun c => ?_) (fun c => ?_)
        · skip
          have c_12 : r_10.toInt < 0 := (by have z := bn_lt c; have k1 : (0 : Int32).toInt = 0 := (by decide); omega)
          refine lv_iconst (v := 0) hx hb dX12_worstOf_42 (by decide) ?_
          refine lv_istore (lv' := [(6, .int 0), (0, .ref (h 0)), (1, .int x0), (2, .int x1), (3, .int x2), (4, .int y4_6), (5, .int y5_6)]) hx hb dX12_worstOf_43 hl (by decide) rfl (fun ls hl => ?_)
          refine lv_iload hx hb dX12_worstOf_45 (lv_at hl 0 rfl) ?_
          refine lv_iload hx hb dX12_worstOf_47 (lv_at hl 5 rfl) ?_
          refine lv_icmp_le (tgt := 57) hx hb dX12_worstOf_49 (by decide) (fun c => ?_) (fun c => ?_)
          · skip
            have c_14 : 0 ≤ y4_6.toInt := (by have z := bn_le c; have k0 : (0 : Int32).toInt = 0 := (by decide); omega)
            refine lv_iload hx hb dX12_worstOf_57 (lv_at hl 5 rfl) ?_
            refine lv_istore (lv' := [(4, .int y4_6), (6, .int 0), (0, .ref (h 0)), (1, .int x0), (2, .int x1), (3, .int x2), (5, .int y5_6)]) hx hb dX12_worstOf_59 hl (by decide) rfl (fun ls hl => ?_)
            obtain ⟨v_16, ev_16⟩ : ∃ z : Int32, z = y5_6 + 1 := ⟨_, rfl⟩
            have q_17 : v_16.toInt = y5_6.toInt + 1 := by rw [ev_16]; exact (bn_addc y5_6 1 (by decide) (by omega) (by omega))
            refine lv_iinc (v := v_16) (lv' := [(5, .int v_16), (4, .int y4_6), (6, .int 0), (0, .ref (h 0)), (1, .int x0), (2, .int x1), (3, .int x2)]) hx hb dX12_worstOf_61 hl (k := 6) rfl (by rw [ev_16]; rfl) (by decide) rfl (fun ls hl => ?_)
            refine lv_goto (tgt := 6) hx hb dX12_worstOf_64 (by decide) ?_
            exact ih_6 y4_6 v_16 fp_6 _ _ _ (by omega) (by omega) (by omega) hI hF hP hS (lv_sub hl [3, 4, 5, 6, 1, 0] rfl)
          · skip
            exfalso; have c_15 : y4_6.toInt < 0 := (by have z := bn_nle c; have k0 : (0 : Int32).toInt = 0 := (by decide); omega); omega
        · skip
          have c_13 : 0 ≤ r_10.toInt := (by have z := bn_nlt c; have k1 : (0 : Int32).toInt = 0 := (by decide); omega)
          refine lv_aload_n hx hb dX12_worstOf_26 rfl (lv_at hl 0 rfl) ?_
          refine lv_aload_n hx hb dX12_worstOf_27 rfl (lv_at hl 0 rfl) ?_
          refine lv_iload_n hx hb dX12_worstOf_28 rfl (lv_at hl 1 rfl) ?_
          refine lv_iload hx hb dX12_worstOf_29 (lv_at hl 5 rfl) ?_
          refine sg_calli (va_runV (As := [.int x0, .int y5_6]) (rest := [.ref (h 0)]) ⟨hx, hb, hml, hown, hts⟩ (kX12_whoSits l D ca za h hh fp_6 L Q hI x0 y5_6 (by omega) (by omega) H.size) (cwV 2 hts (gw_V (fun _ h => List.mem_cons_of_mem _ h) mw_725 mw_726 mw_727 mw_619 mw_724) rfl rfl rfl (by decide +kernel) ⟨Nat.le_of_ble_eq_true rfl, Nat.le_of_ble_eq_true rfl⟩) (sg_preV (ci := 12) (C := RX12) (T := TX12) (N := 55) hA hK hP hS hZ 0 (by decide) rfl rfl) rfl rfl hl.1 rfl (lv_room (Nat.le_of_ble_eq_true rfl)) dX12_worstOf_31 ⟨Nat.le_refl _, Nat.le_refl _⟩) hA hS (fun r_21 f_18 L_19 Q_20 H locs hq hP hS => ?_)
          obtain ⟨⟨ef9, eL9, eQ9⟩, hq, u_22⟩ := hq
          rw [ef9, eL9, eQ9] at hP; clear ef9 eL9 eQ9
          rw [show r_21 = r_10 from u_22.trans u_11.symm]
          refine lv_iload_n hx hb dX12_worstOf_34 rfl (lv_at hl 2 rfl) ?_
          refine lv_iload_n hx hb dX12_worstOf_35 rfl (lv_at hl 3 rfl) ?_
          refine sg_calli (va_runV (As := [.int r_10, .int x1, .int x2]) (rest := []) ⟨hx, hb, hml, hown, hts⟩ (kX12_lossOf l D ca za h hh fp_6 L Q hI r_10 x1 x2 (by omega) (by omega) (by omega) H.size) (cwV 3 hts (gw_V (fun _ h => List.mem_cons_of_mem _ h) mw_729 mw_730 mw_731 mw_619 mw_728) rfl rfl rfl (by decide +kernel) ⟨Nat.le_of_ble_eq_true rfl, Nat.le_of_ble_eq_true rfl⟩) (sg_preV (ci := 12) (C := RX12) (T := TX12) (N := 55) hA hK hP hS hZ 0 (by decide) rfl rfl) rfl rfl hl.1 rfl (lv_room (Nat.le_of_ble_eq_true rfl)) dX12_worstOf_36 ⟨Nat.le_refl _, Nat.le_refl _⟩) hA hS (fun r_26 f_23 L_24 Q_25 H locs hq hP hS => ?_)
          obtain ⟨⟨hI, hk_f_23, eL9, eQ9⟩, hq⟩ := hq
          rw [eL9, eQ9] at hP; clear eL9 eQ9
          have hF : sgK WkX12_worstOf f f_23 := sgK.tr hF hk_f_23 (by decide)
          refine lv_goto (tgt := 43) hx hb dX12_worstOf_39 (by decide) ?_
          refine lv_istore (lv' := [(6, .int r_26), (0, .ref (h 0)), (1, .int x0), (2, .int x1), (3, .int x2), (4, .int y4_6), (5, .int y5_6)]) hx hb dX12_worstOf_43 hl (by decide) rfl (fun ls hl => ?_)
          refine lv_iload hx hb dX12_worstOf_45 (lv_at hl 0 rfl) ?_
          refine lv_iload hx hb dX12_worstOf_47 (lv_at hl 5 rfl) ?_
          refine lv_icmp_le (tgt := 57) hx hb dX12_worstOf_49 (by decide) (fun c => ?_) (fun c => ?_)
          · skip
            have c_27 : r_26.toInt ≤ y4_6.toInt := (by have z := bn_le c; omega)
            refine lv_iload hx hb dX12_worstOf_57 (lv_at hl 5 rfl) ?_
            refine lv_istore (lv' := [(4, .int y4_6), (6, .int r_26), (0, .ref (h 0)), (1, .int x0), (2, .int x1), (3, .int x2), (5, .int y5_6)]) hx hb dX12_worstOf_59 hl (by decide) rfl (fun ls hl => ?_)
            obtain ⟨v_29, ev_29⟩ : ∃ z : Int32, z = y5_6 + 1 := ⟨_, rfl⟩
            have q_30 : v_29.toInt = y5_6.toInt + 1 := by rw [ev_29]; exact (bn_addc y5_6 1 (by decide) (by omega) (by omega))
            refine lv_iinc (v := v_29) (lv' := [(5, .int v_29), (4, .int y4_6), (6, .int r_26), (0, .ref (h 0)), (1, .int x0), (2, .int x1), (3, .int x2)]) hx hb dX12_worstOf_61 hl (k := 6) rfl (by rw [ev_29]; rfl) (by decide) rfl (fun ls hl => ?_)
            refine lv_goto (tgt := 6) hx hb dX12_worstOf_64 (by decide) ?_
            exact ih_6 y4_6 v_29 f_23 _ _ _ (by omega) (by omega) (by omega) hI hF hP hS (lv_sub hl [3, 4, 5, 6, 1, 0] rfl)
          · skip
            have c_28 : y4_6.toInt < r_26.toInt := (by have z := bn_nle c; omega)
            refine lv_iload hx hb dX12_worstOf_52 (lv_at hl 0 rfl) ?_
            refine lv_goto (tgt := 59) hx hb dX12_worstOf_54 (by decide) ?_
            refine lv_istore (lv' := [(4, .int r_26), (6, .int r_26), (0, .ref (h 0)), (1, .int x0), (2, .int x1), (3, .int x2), (5, .int y5_6)]) hx hb dX12_worstOf_59 hl (by decide) rfl (fun ls hl => ?_)
            obtain ⟨v_31, ev_31⟩ : ∃ z : Int32, z = y5_6 + 1 := ⟨_, rfl⟩
            have q_32 : v_31.toInt = y5_6.toInt + 1 := by rw [ev_31]; exact (bn_addc y5_6 1 (by decide) (by omega) (by omega))
            refine lv_iinc (v := v_31) (lv' := [(5, .int v_31), (4, .int r_26), (6, .int r_26), (0, .ref (h 0)), (1, .int x0), (2, .int x1), (3, .int x2)]) hx hb dX12_worstOf_61 hl (k := 6) rfl (by rw [ev_31]; rfl) (by decide) rfl (fun ls hl => ?_)
            refine lv_goto (tgt := 6) hx hb dX12_worstOf_64 (by decide) ?_
            exact ih_6 r_26 v_31 f_23 _ _ _ (by omega) (by omega) (by omega) hI hF hP hS (lv_sub hl [3, 4, 5, 6, 1, 0] rfl)
  refine lv_iconst (v := 0) hx hb dX12_worstOf_0 (by decide) ?_
  refine lv_istore (lv' := [(4, .int 0), (0, .ref (h 0)), (1, .int x0), (2, .int x1), (3, .int x2)]) hx hb dX12_worstOf_1 hl (by decide) rfl (fun ls hl => ?_)
  refine lv_iconst (v := 0) hx hb dX12_worstOf_3 (by decide) ?_
  refine lv_istore (lv' := [(5, .int 0), (4, .int 0), (0, .ref (h 0)), (1, .int x0), (2, .int x1), (3, .int x2)]) hx hb dX12_worstOf_4 hl (by decide) rfl (fun ls hl => ?_)
  exact loop_6 22 0 0 f _ _ _ (by have kc0 : (0 : Int32).toInt = 0 := (by decide); have kc1 : (0 : Int32).toInt = 0 := (by decide); omega) (by decide) (by decide) hI hF hP hS (lv_sub hl [2, 3, 4, 5, 1, 0] rfl)

abbrev WkX12_best : List (Nat × Nat × Option Nat) := [(0, 0, some 12), (0, 0, some 13), (0, 0, some 14), (0, 0, some 15), (0, 0, some 16), (8, 8, none)]
set_option maxHeartbeats 4000000 in
set_option maxRecDepth 100000 in
theorem kX12_best (l : Launch) (D : va_G) (ca : Nat → ClassId) (za h : Nat → Nat) (hh : sgH 26 h) (f : sg_F) (L : sg_L) (Q : sg_Q) (hI : sgI loM hiM f) (x0 : Int32) (x1 : Int32) (x2 : Int32) (sz : Nat) : Met l yX12_best gwX12_best { frames := 46, cells := 0, slots := 0, locals := 1058 } (sgP D vwCl (tyX ca) 26 h (eM ca h) zcM za f L Q sz [.ref (h 0), .int x0, .int x1, .int x2]) (sgQi D vwCl 26 h (eM ca h) sz (fun r f1 L1 Q1 => ((sgI loM hiM f1 ∧ sgK WkX12_best f f1 ∧ L1 = L ∧ Q1 = Q) ∧ True))) 0 0 (sgA 26 h sz) := by
  refine sg_ofWi (cc := cX12_best) (maxL := 8) RX12 (by decide) rfl rfl (Nat.le_of_ble_eq_true rfl) ?_
  intro p e s m below meth cd Qz ls hx hb hml hown hts hK hZ hP hS hl hret
  have hA := sgY.self (n := 26) (h := h) (sz := s.heap.size)
  have hl : lv_has ls 8 [(0, .ref (h 0)), (1, .int x0), (2, .int x1), (3, .int x2)] := hl
  obtain ⟨H, hH⟩ : ∃ z : Heap, z = s.heap := ⟨_, rfl⟩
  obtain ⟨locs, hlo⟩ : ∃ z : List Loc, z = [] := ⟨_, rfl⟩
  have hP : va_P D vwCl (sgw 26 h (eM ca h) f L Q) H := by rw [hH]; exact hP
  have hS : va_S (sgA 26 h s.heap.size) s.heap H locs := by rw [hH, hlo]; exact hS
  suffices hgo : W p l e ({ frames := 46, cells := 0, slots := 0, locals := 1058 }) s m ([.ref (h 0), .int x0, .int x1, .int x2] : List Value).toArray below meth cd H locs 0 0 Qz (F0 m 0 ls []) by rw [hH, hlo] at hgo; exact hgo
  clear hH hlo
  have hF : sgK WkX12_best f f := sgK.rf
  have loop_64 : ∀ (n_64 : Nat) (y4_64 : Int32) (y5_64 : Int32) (y6_64 : Int32) (fp_64 : sg_F) (H : Heap) (locs : List Loc) (ls : Array Slot), 61 - y6_64.toInt < (n_64 : Int) → 0 ≤ x0.toInt ∧ x0.toInt ≤ 5 → 0 ≤ x1.toInt ∧ x1.toInt ≤ 2 → 0 ≤ x2.toInt ∧ x2.toInt ≤ 3 → (-1) ≤ y4_64.toInt ∧ y4_64.toInt ≤ 60 → 0 ≤ y6_64.toInt ∧ y6_64.toInt ≤ 61 → sgI loM hiM fp_64 → sgK WkX12_best f fp_64 → va_P D vwCl (sgw 26 h (eM ca h) fp_64 L Q) H → va_S (sgA 26 h s.heap.size) s.heap H locs → lv_has ls 8 [(0, .ref (h 0)), (1, .int x0), (2, .int x1), (3, .int x2), (4, .int y4_64), (5, .int y5_64), (6, .int y6_64)] → W p l e ({ frames := 46, cells := 0, slots := 0, locals := 1058 }) s m ([.ref (h 0), .int x0, .int x1, .int x2] : List Value).toArray below meth cd H locs 0 0 Qz (F0 m 64 ls []) := by
    intro n_64
    induction n_64 with
    | zero => intro y4_64 y5_64 y6_64 fp_64 H locs ls hm_64 hy0_64 hy1_64 hy2_64 hy3_64 hy4_64 hI hF hP hS hl; exact absurd hm_64 (by omega)
    | succ n_64 ih_64 =>
      have blk_117 : ∀ (y4_117 : Int32) (y5_117 : Int32) (y6_117 : Int32) (fp_117 : sg_F) (H : Heap) (locs : List Loc) (ls : Array Slot), 61 - y6_117.toInt < ((n_64 + 1 : Nat) : Int) → 0 ≤ x0.toInt ∧ x0.toInt ≤ 5 → 0 ≤ x1.toInt ∧ x1.toInt ≤ 2 → 0 ≤ x2.toInt ∧ x2.toInt ≤ 3 → 0 ≤ y4_117.toInt ∧ y4_117.toInt ≤ 60 → 0 ≤ y6_117.toInt ∧ y6_117.toInt ≤ 60 → sgI loM hiM fp_117 → sgK WkX12_best f fp_117 → va_P D vwCl (sgw 26 h (eM ca h) fp_117 L Q) H → va_S (sgA 26 h s.heap.size) s.heap H locs → lv_has ls 8 [(0, .ref (h 0)), (1, .int x0), (2, .int x1), (3, .int x2), (4, .int y4_117), (5, .int y5_117), (6, .int y6_117)] → W p l e ({ frames := 46, cells := 0, slots := 0, locals := 1058 }) s m ([.ref (h 0), .int x0, .int x1, .int x2] : List Value).toArray below meth cd H locs 0 0 Qz (F0 m 117 ls []) := by
        intro y4_117 y5_117 y6_117 fp_117 H locs ls hm_64 hy0_117 hy1_117 hy2_117 hy3_117 hy4_117 hI hF hP hS hl
        obtain ⟨v_1, ev_1⟩ : ∃ z : Int32, z = y6_117 + 1 := ⟨_, rfl⟩
        have q_2 : v_1.toInt = y6_117.toInt + 1 := by rw [ev_1]; exact (bn_addc y6_117 1 (by decide) (by omega) (by omega))
        refine lv_iinc (v := v_1) (lv' := [(6, .int v_1), (0, .ref (h 0)), (1, .int x0), (2, .int x1), (3, .int x2), (4, .int y4_117), (5, .int y5_117)]) hx hb dX12_best_117 hl (k := 6) rfl (by rw [ev_1]; rfl) (by decide) rfl (fun ls hl => ?_)
        refine lv_goto (tgt := 64) hx hb dX12_best_120 (by decide) ?_
        exact ih_64 y4_117 y5_117 v_1 fp_117 _ _ _ (by omega) (by omega) (by omega) (by omega) (by omega) (by omega) hI hF hP hS (lv_sub hl [1, 2, 3, 4, 5, 6, 0] rfl)
      have blk_109 : ∀ (y6_109 : Int32) (y7_109 : Int32) (fp_109 : sg_F) (H : Heap) (locs : List Loc) (ls : Array Slot), 61 - y6_109.toInt < ((n_64 + 1 : Nat) : Int) → 0 ≤ x0.toInt ∧ x0.toInt ≤ 5 → 0 ≤ x1.toInt ∧ x1.toInt ≤ 2 → 0 ≤ x2.toInt ∧ x2.toInt ≤ 3 → 0 ≤ y6_109.toInt ∧ y6_109.toInt ≤ 60 → sgI loM hiM fp_109 → sgK WkX12_best f fp_109 → va_P D vwCl (sgw 26 h (eM ca h) fp_109 L Q) H → va_S (sgA 26 h s.heap.size) s.heap H locs → lv_has ls 8 [(0, .ref (h 0)), (1, .int x0), (2, .int x1), (3, .int x2), (6, .int y6_109), (7, .int y7_109)] → W p l e ({ frames := 46, cells := 0, slots := 0, locals := 1058 }) s m ([.ref (h 0), .int x0, .int x1, .int x2] : List Value).toArray below meth cd H locs 0 0 Qz (F0 m 109 ls []) := by
        intro y6_109 y7_109 fp_109 H locs ls hm_64 hy0_109 hy1_109 hy2_109 hy3_109 hI hF hP hS hl
        refine lv_iload hx hb dX12_best_109 (lv_at hl 4 rfl) ?_
        refine lv_istore (lv' := [(4, .int y6_109), (0, .ref (h 0)), (1, .int x0), (2, .int x1), (3, .int x2), (6, .int y6_109), (7, .int y7_109)]) hx hb dX12_best_111 hl (by decide) rfl (fun ls hl => ?_)
        refine lv_iload hx hb dX12_best_113 (lv_at hl 6 rfl) ?_
        refine lv_istore (lv' := [(5, .int y7_109), (4, .int y6_109), (0, .ref (h 0)), (1, .int x0), (2, .int x1), (3, .int x2), (6, .int y6_109), (7, .int y7_109)]) hx hb dX12_best_115 hl (by decide) rfl (fun ls hl => ?_)
        exact blk_117 y6_109 y7_109 y6_109 fp_109 _ _ _ (by omega) (by omega) (by omega) (by omega) (by omega) (by omega) hI hF hP hS (lv_sub hl [2, 3, 4, 5, 1, 0, 6] rfl)
      intro y4_64 y5_64 y6_64 fp_64 H locs ls hm_64 hy0_64 hy1_64 hy2_64 hy3_64 hy4_64 hI hF hP hS hl
      refine lv_iload hx hb dX12_best_64 (lv_at hl 6 rfl) ?_
      refine lv_bipush (v := 61) hx hb dX12_best_66 (by decide) ?_
      refine lv_icmp_ge (tgt := 123) hx hb dX12_best_68 (by decide) (fun c => ?_) (fun c => ?_)
      · skip
        have c_3 : 61 ≤ y6_64.toInt := (by have z := bn_le c; have k1 : (61 : Int32).toInt = 61 := (by decide); omega)
        refine lv_iload_n hx hb dX12_best_123 rfl (lv_at hl 3 rfl) ?_
        refine lv_iconst (v := 2) hx hb dX12_best_124 (by decide) ?_
        refine lv_irem hx hb dX12_best_125 (by decide) ?_
        refine lv_topi (fun v_5 ev_5 => ?_)
        have q_6 : v_5.toInt = x2.toInt % 2 := by rw [ev_5]; exact bn_remI (by omega) (by decide) (by decide)
        refine lv_if_ne (tgt := 134) hx hb dX12_best_126 (by decide) (fun c => ?_) (fun c => ?_)
        · skip
          have c_7 : v_5.toInt ≠ 0 := (by have z := bn_ne c; have k1 : (0 : Int32).toInt = 0 := (by decide); omega)
          refine lv_iload hx hb dX12_best_134 (lv_at hl 5 rfl) ?_
          exact hret _ _ _ _ (y5_64) fp_64 L Q dX12_best_136 hP hS ⟨⟨hI, hF, rfl, rfl⟩, trivial⟩
        · skip
          have c_8 : v_5.toInt = 0 := (by have z := Int32.toInt_inj.mpr c; have k1 : (0 : Int32).toInt = 0 := (by decide); omega)
          refine lv_iload hx hb dX12_best_129 (lv_at hl 4 rfl) ?_
          refine lv_goto (tgt := 136) hx hb dX12_best_131 (by decide) ?_
          exact hret _ _ _ _ (y4_64) fp_64 L Q dX12_best_136 hP hS ⟨⟨hI, hF, rfl, rfl⟩, trivial⟩
      · skip
        have c_4 : y6_64.toInt < 61 := (by have z := bn_nle c; have k1 : (61 : Int32).toInt = 61 := (by decide); omega)
        refine lv_iload_n hx hb dX12_best_71 rfl (lv_at hl 3 rfl) ?_
        refine lv_iconst (v := 2) hx hb dX12_best_72 (by decide) ?_
        refine lv_icmp_ge (tgt := 87) hx hb dX12_best_73 (by decide) (fun c => ?_) (fun c => ?_)
        · skip
          have c_9 : 2 ≤ x2.toInt := (by have z := bn_le c; have k1 : (2 : Int32).toInt = 2 := (by decide); omega)
          refine lv_aload_n hx hb dX12_best_87 rfl (lv_at hl 0 rfl) ?_
          refine lv_iload_n hx hb dX12_best_88 rfl (lv_at hl 1 rfl) ?_
          refine lv_iload_n hx hb dX12_best_89 rfl (lv_at hl 2 rfl) ?_
          refine lv_iload hx hb dX12_best_90 (lv_at hl 6 rfl) ?_
          refine sg_calli (va_runV (As := [.int x0, .int x1, .int y6_64]) (rest := []) ⟨hx, hb, hml, hown, hts⟩ (kX12_worstOf l D ca za h hh fp_64 L Q hI x0 x1 y6_64 (by omega) (by omega) (by omega) H.size) (cwV 3 hts (gw_V (fun _ h => List.mem_cons_of_mem _ h) mw_827 mw_828 mw_829 mw_619 mw_826) rfl rfl rfl (by decide +kernel) ⟨Nat.le_of_ble_eq_true rfl, Nat.le_of_ble_eq_true rfl⟩) (sg_preV (ci := 12) (C := RX12) (T := TX12) (N := 55) hA hK hP hS hZ 0 (by decide) rfl rfl) rfl rfl hl.1 rfl (lv_room (Nat.le_of_ble_eq_true rfl)) dX12_best_92 ⟨Nat.le_refl _, Nat.le_refl _⟩) hA hS (fun r_14 f_11 L_12 Q_13 H locs hq hP hS => ?_)
          obtain ⟨⟨hI, hk_f_11, eL9, eQ9⟩, hq⟩ := hq
          rw [eL9, eQ9] at hP; clear eL9 eQ9
          have hF : sgK WkX12_best f f_11 := sgK.tr hF hk_f_11 (by decide)
          refine lv_istore (lv' := [(7, .int r_14), (0, .ref (h 0)), (1, .int x0), (2, .int x1), (3, .int x2), (4, .int y4_64), (5, .int y5_64), (6, .int y6_64)]) hx hb dX12_best_95 hl (by decide) rfl (fun ls hl => ?_)
          refine lv_iload hx hb dX12_best_97 (lv_at hl 5 rfl) ?_
          refine lv_if_lt (tgt := 109) hx hb dX12_best_99 (by decide) (fun c => ?_) (fun c => ?_)
          · skip
            have c_15 : y4_64.toInt < 0 := (by have z := bn_lt c; have k1 : (0 : Int32).toInt = 0 := (by decide); omega)
            exact blk_109 y6_64 r_14 f_11 _ _ _ (by omega) (by omega) (by omega) (by omega) (by omega) hI hF hP hS (lv_sub hl [1, 2, 3, 4, 7, 0] rfl)
          · skip
            have c_16 : 0 ≤ y4_64.toInt := (by have z := bn_nlt c; have k1 : (0 : Int32).toInt = 0 := (by decide); omega)
            refine lv_iload hx hb dX12_best_102 (lv_at hl 0 rfl) ?_
            refine lv_iload hx hb dX12_best_104 (lv_at hl 6 rfl) ?_
            refine lv_icmp_ge (tgt := 117) hx hb dX12_best_106 (by decide) (fun c => ?_) (fun c => ?_)
            · skip
              have c_17 : y5_64.toInt ≤ r_14.toInt := (by have z := bn_le c; omega)
              exact blk_117 y4_64 y5_64 y6_64 f_11 _ _ _ (by omega) (by omega) (by omega) (by omega) (by omega) (by omega) hI hF hP hS (lv_sub hl [1, 2, 3, 4, 5, 6, 7] rfl)
            · skip
              have c_18 : r_14.toInt < y5_64.toInt := (by have z := bn_nle c; omega)
              exact blk_109 y6_64 r_14 f_11 _ _ _ (by omega) (by omega) (by omega) (by omega) (by omega) hI hF hP hS (lv_sub hl [1, 2, 3, 4, 7, 0] rfl)
        · skip
          have c_10 : x2.toInt < 2 := (by have z := bn_nle c; have k1 : (2 : Int32).toInt = 2 := (by decide); omega)
          refine lv_aload_n hx hb dX12_best_76 rfl (lv_at hl 0 rfl) ?_
          refine lv_iload_n hx hb dX12_best_77 rfl (lv_at hl 1 rfl) ?_
          refine lv_iload_n hx hb dX12_best_78 rfl (lv_at hl 2 rfl) ?_
          refine lv_iload hx hb dX12_best_79 (lv_at hl 6 rfl) ?_
          refine sg_calli (va_runV (As := [.int x0, .int x1, .int y6_64]) (rest := []) ⟨hx, hb, hml, hown, hts⟩ (kX12_neverOf l D ca za h hh fp_64 L Q hI x0 x1 y6_64 (by omega) (by omega) (by omega) H.size) (cwV 3 hts (gw_V (fun _ h => List.mem_cons_of_mem _ h) mw_775 mw_776 mw_777 mw_619 mw_774) rfl rfl rfl (by decide +kernel) ⟨Nat.le_of_ble_eq_true rfl, Nat.le_of_ble_eq_true rfl⟩) (sg_preV (ci := 12) (C := RX12) (T := TX12) (N := 55) hA hK hP hS hZ 0 (by decide) rfl rfl) rfl rfl hl.1 rfl (lv_room (Nat.le_of_ble_eq_true rfl)) dX12_best_81 ⟨Nat.le_refl _, Nat.le_refl _⟩) hA hS (fun r_22 f_19 L_20 Q_21 H locs hq hP hS => ?_)
          obtain ⟨⟨hI, hk_f_19, eL9, eQ9⟩, hq⟩ := hq
          rw [eL9, eQ9] at hP; clear eL9 eQ9
          have hF : sgK WkX12_best f f_19 := sgK.tr hF hk_f_19 (by decide)
          refine lv_goto (tgt := 95) hx hb dX12_best_84 (by decide) ?_
          refine lv_istore (lv' := [(7, .int r_22), (0, .ref (h 0)), (1, .int x0), (2, .int x1), (3, .int x2), (4, .int y4_64), (5, .int y5_64), (6, .int y6_64)]) hx hb dX12_best_95 hl (by decide) rfl (fun ls hl => ?_)
          refine lv_iload hx hb dX12_best_97 (lv_at hl 5 rfl) ?_
          refine lv_if_lt (tgt := 109) hx hb dX12_best_99 (by decide) (fun c => ?_) (fun c => ?_)
          · skip
            have c_23 : y4_64.toInt < 0 := (by have z := bn_lt c; have k1 : (0 : Int32).toInt = 0 := (by decide); omega)
            exact blk_109 y6_64 r_22 f_19 _ _ _ (by omega) (by omega) (by omega) (by omega) (by omega) hI hF hP hS (lv_sub hl [1, 2, 3, 4, 7, 0] rfl)
          · skip
            have c_24 : 0 ≤ y4_64.toInt := (by have z := bn_nlt c; have k1 : (0 : Int32).toInt = 0 := (by decide); omega)
            refine lv_iload hx hb dX12_best_102 (lv_at hl 0 rfl) ?_
            refine lv_iload hx hb dX12_best_104 (lv_at hl 6 rfl) ?_
            refine lv_icmp_ge (tgt := 117) hx hb dX12_best_106 (by decide) (fun c => ?_) (fun c => ?_)
            · skip
              have c_25 : y5_64.toInt ≤ r_22.toInt := (by have z := bn_le c; omega)
              exact blk_117 y4_64 y5_64 y6_64 f_19 _ _ _ (by omega) (by omega) (by omega) (by omega) (by omega) (by omega) hI hF hP hS (lv_sub hl [1, 2, 3, 4, 5, 6, 7] rfl)
            · skip
              have c_26 : r_22.toInt < y5_64.toInt := (by have z := bn_nle c; omega)
              exact blk_109 y6_64 r_22 f_19 _ _ _ (by omega) (by omega) (by omega) (by omega) (by omega) hI hF hP hS (lv_sub hl [1, 2, 3, 4, 7, 0] rfl)
  refine lv_aload_n hx hb dX12_best_0 rfl (lv_at hl 0 rfl) ?_
  refine lv_iload_n hx hb dX12_best_1 rfl (lv_at hl 1 rfl) ?_
  refine sg_calli (va_runV (As := [.int x0]) (rest := []) ⟨hx, hb, hml, hown, hts⟩ (kX12_bytesIs l D ca za h hh f L Q hI x0 H.size) (cwV 1 hts (gw_V (fun _ h => List.mem_cons_of_mem _ h) mw_685 mw_686 mw_687 mw_619 mw_684) rfl rfl rfl (by decide +kernel) ⟨Nat.le_of_ble_eq_true rfl, Nat.le_of_ble_eq_true rfl⟩) (sg_preV (ci := 12) (C := RX12) (T := TX12) (N := 55) hA hK hP hS hZ 0 (by decide) rfl rfl) rfl rfl hl.1 rfl (lv_room (Nat.le_of_ble_eq_true rfl)) dX12_best_2 ⟨Nat.le_refl _, Nat.le_refl _⟩) hA hS (fun r_30 f_27 L_28 Q_29 H locs hq hP hS => ?_)
  obtain ⟨⟨ef9, eL9, eQ9⟩, hq⟩ := hq
  rw [ef9, eL9, eQ9] at hP; clear ef9 eL9 eQ9
  rcases hq with ⟨rfl, hq⟩ | hq | ⟨rfl, hq⟩
  · skip
    have q_31 := hq
    refine lv_iconst (v := (-1)) hx hb dX12_best_5 (by decide) ?_
    refine lv_icmp_eq (tgt := 28) hx hb dX12_best_6 (by decide) (fun c => absurd c (by decide)) (fun c => ?_)
    refine lv_iload_n hx hb dX12_best_9 rfl (lv_at hl 2 rfl) ?_
    refine sg_calli (va_runS (As := [.int x1]) (rest := []) ⟨hx, hb, hml, hown, hts⟩ (kX12_isPart l D ca za h hh f L Q hI x1 H.size) (va_cwS 1 hts (gw_S (fun _ h => List.mem_cons_of_mem _ h) mw_636 mw_637 mw_619 mw_635) rfl rfl rfl (by decide +kernel) ⟨Nat.le_of_ble_eq_true rfl, Nat.le_of_ble_eq_true rfl⟩) (sg_preS hA hK hP hS hZ) rfl rfl hl.1 rfl (lv_room (Nat.le_of_ble_eq_true rfl)) dX12_best_10 ⟨Nat.le_refl _, Nat.le_refl _⟩) hA hS (fun r_35 f_32 L_33 Q_34 H locs hq hP hS => ?_)
    obtain ⟨⟨ef9, eL9, eQ9⟩, hq⟩ := hq
    rw [ef9, eL9, eQ9] at hP; clear ef9 eL9 eQ9
    rcases hq with ⟨rfl, hq⟩ | ⟨rfl, hq⟩
    · skip
      have q_36 := hq
      refine lv_if_eq (tgt := 28) hx hb dX12_best_13 (by decide) (fun c => absurd c (by decide)) (fun c => ?_)
      refine lv_iload_n hx hb dX12_best_16 rfl (lv_at hl 3 rfl) ?_
      obtain ⟨w_37, ew_37⟩ : ∃ z : Int64, z = Int32.toInt64 x2 := ⟨_, rfl⟩
      have q_38 : w_37.toInt = x2.toInt := by rw [ew_37]; exact Int32.toInt_toInt64 _
      refine lv_i2l (v := w_37) hx hb dX12_best_17 ew_37.symm ?_
      refine lv_lconst (v := 0) hx hb dX12_best_18 (by decide) ?_
      refine lv_ldc2 (v := 3) hx hb hown (hts _ (List.mem_cons_of_mem _ mw_692)) dX12_best_19 ?_
      refine sg_calli (va_runS (As := [.long w_37, .long 0, .long 3]) (rest := []) ⟨hx, hb, hml, hown, hts⟩ (kX12_within l D ca za h hh f L Q hI w_37 0 3 H.size) (va_cwS 3 hts (gw_S (fun _ h => List.mem_cons_of_mem _ h) mw_631 mw_632 mw_619 mw_630) rfl rfl rfl (by decide +kernel) ⟨Nat.le_of_ble_eq_true rfl, Nat.le_of_ble_eq_true rfl⟩) (sg_preS hA hK hP hS hZ) rfl rfl hl.1 rfl (lv_room (Nat.le_of_ble_eq_true rfl)) dX12_best_22 ⟨Nat.le_refl _, Nat.le_refl _⟩) hA hS (fun r_42 f_39 L_40 Q_41 H locs hq hP hS => ?_)
      obtain ⟨⟨ef9, eL9, eQ9⟩, hq⟩ := hq
      rw [ef9, eL9, eQ9] at hP; clear ef9 eL9 eQ9
      have k_43 : (0 : Int64).toInt = 0 := by decide
      have k_44 : (3 : Int64).toInt = 3 := by decide
      rcases hq with ⟨rfl, hq⟩ | ⟨rfl, hq⟩
      · skip
        have q_45 := hq
        refine lv_if_ne (tgt := 30) hx hb dX12_best_25 (by decide) (fun c => ?_) (fun c => absurd c (by decide))
        refine lv_aload_n hx hb dX12_best_30 rfl (lv_at hl 0 rfl) ?_
        refine lv_iload_n hx hb dX12_best_31 rfl (lv_at hl 1 rfl) ?_
        refine sg_calli (va_runV (As := [.int x0]) (rest := []) ⟨hx, hb, hml, hown, hts⟩ (kX12_bytesIs l D ca za h hh f L Q hI x0 H.size) (cwV 1 hts (gw_V (fun _ h => List.mem_cons_of_mem _ h) mw_685 mw_686 mw_687 mw_619 mw_684) rfl rfl rfl (by decide +kernel) ⟨Nat.le_of_ble_eq_true rfl, Nat.le_of_ble_eq_true rfl⟩) (sg_preV (ci := 12) (C := RX12) (T := TX12) (N := 55) hA hK hP hS hZ 0 (by decide) rfl rfl) rfl rfl hl.1 rfl (lv_room (Nat.le_of_ble_eq_true rfl)) dX12_best_32 ⟨Nat.le_refl _, Nat.le_refl _⟩) hA hS (fun r_49 f_46 L_47 Q_48 H locs hq hP hS => ?_)
        obtain ⟨⟨ef9, eL9, eQ9⟩, hq⟩ := hq
        rw [ef9, eL9, eQ9] at hP; clear ef9 eL9 eQ9
        rcases hq with ⟨rfl, hq⟩ | hq | ⟨rfl, hq⟩
        · skip
          have q_50 := hq
          refine lv_if_ge (tgt := 44) hx hb dX12_best_35 (by decide) (fun c => ?_) (fun c => absurd c (by decide))
          refine lv_aload_n hx hb dX12_best_44 rfl (lv_at hl 0 rfl) ?_
          refine lv_iload_n hx hb dX12_best_45 rfl (lv_at hl 1 rfl) ?_
          refine sg_calli (va_runV (As := [.int x0]) (rest := []) ⟨hx, hb, hml, hown, hts⟩ (kX12_anySits l D ca za h hh f L Q hI x0 (by omega) H.size) (cwV 1 hts (gw_V (fun _ h => List.mem_cons_of_mem _ h) mw_771 mw_772 mw_773 mw_619 mw_770) rfl rfl rfl (by decide +kernel) ⟨Nat.le_of_ble_eq_true rfl, Nat.le_of_ble_eq_true rfl⟩) (sg_preV (ci := 12) (C := RX12) (T := TX12) (N := 55) hA hK hP hS hZ 0 (by decide) rfl rfl) rfl rfl hl.1 rfl (lv_room (Nat.le_of_ble_eq_true rfl)) dX12_best_46 ⟨Nat.le_refl _, Nat.le_refl _⟩) hA hS (fun r_54 f_51 L_52 Q_53 H locs hq hP hS => ?_)
          obtain ⟨⟨ef9, eL9, eQ9⟩, hq⟩ := hq
          rw [ef9, eL9, eQ9] at hP; clear ef9 eL9 eQ9
          refine lv_if_ne (tgt := 55) hx hb dX12_best_49 (by decide) (fun c => ?_) (fun c => ?_)
          · skip
            have c_55 : r_54.toInt ≠ 0 := (by have z := bn_ne c; have k1 : (0 : Int32).toInt = 0 := (by decide); omega)
            refine lv_iconst (v := (-1)) hx hb dX12_best_55 (by decide) ?_
            refine lv_istore (lv' := [(4, .int (-1)), (0, .ref (h 0)), (1, .int x0), (2, .int x1), (3, .int x2)]) hx hb dX12_best_56 hl (by decide) rfl (fun ls hl => ?_)
            refine lv_iconst (v := 0) hx hb dX12_best_58 (by decide) ?_
            refine lv_istore (lv' := [(5, .int 0), (4, .int (-1)), (0, .ref (h 0)), (1, .int x0), (2, .int x1), (3, .int x2)]) hx hb dX12_best_59 hl (by decide) rfl (fun ls hl => ?_)
            refine lv_iconst (v := 0) hx hb dX12_best_61 (by decide) ?_
            refine lv_istore (lv' := [(6, .int 0), (5, .int 0), (4, .int (-1)), (0, .ref (h 0)), (1, .int x0), (2, .int x1), (3, .int x2)]) hx hb dX12_best_62 hl (by decide) rfl (fun ls hl => ?_)
            exact loop_64 62 (-1) 0 0 f _ _ _ (by have kc0 : ((-1) : Int32).toInt = (-1) := (by decide); have kc1 : (0 : Int32).toInt = 0 := (by decide); have kc2 : (0 : Int32).toInt = 0 := (by decide); omega) (by omega) (by omega) (by omega) (by decide) (by decide) hI hF hP hS (lv_sub hl [3, 4, 5, 6, 2, 1, 0] rfl)
          · skip
            have c_56 : r_54.toInt = 0 := (by have z := Int32.toInt_inj.mpr c; have k1 : (0 : Int32).toInt = 0 := (by decide); omega)
            refine lv_bipush (v := (-2)) hx hb dX12_best_52 (by decide) ?_
            have k99 : ((-2) : Int32).toInt = (-2) := (by decide)
            exact hret _ _ _ _ (-2) f L Q dX12_best_54 hP hS ⟨⟨hI, hF, rfl, rfl⟩, trivial⟩
        · skip
          have q_57 := hq
          refine lv_if_ge (tgt := 44) hx hb dX12_best_35 (by decide) (fun c => ?_) (fun c => ?_)
          · skip
            exfalso; have c_58 : 0 ≤ r_49.toInt := (by have z := bn_le c; have k1 : (0 : Int32).toInt = 0 := (by decide); omega); omega
          · skip
            have c_59 : r_49.toInt < 0 := (by have z := bn_nle c; have k1 : (0 : Int32).toInt = 0 := (by decide); omega)
            refine lv_aload_n hx hb dX12_best_38 rfl (lv_at hl 0 rfl) ?_
            refine lv_iload_n hx hb dX12_best_39 rfl (lv_at hl 1 rfl) ?_
            refine sg_calli (va_runV (As := [.int x0]) (rest := []) ⟨hx, hb, hml, hown, hts⟩ (kX12_bytesIs l D ca za h hh f L Q hI x0 H.size) (cwV 1 hts (gw_V (fun _ h => List.mem_cons_of_mem _ h) mw_685 mw_686 mw_687 mw_619 mw_684) rfl rfl rfl (by decide +kernel) ⟨Nat.le_of_ble_eq_true rfl, Nat.le_of_ble_eq_true rfl⟩) (sg_preV (ci := 12) (C := RX12) (T := TX12) (N := 55) hA hK hP hS hZ 0 (by decide) rfl rfl) rfl rfl hl.1 rfl (lv_room (Nat.le_of_ble_eq_true rfl)) dX12_best_40 ⟨Nat.le_refl _, Nat.le_refl _⟩) hA hS (fun r_63 f_60 L_61 Q_62 H locs hq hP hS => ?_)
            obtain ⟨⟨ef9, eL9, eQ9⟩, hq⟩ := hq
            rw [ef9, eL9, eQ9] at hP; clear ef9 eL9 eQ9
            rcases hq with ⟨rfl, hq⟩ | hq | ⟨rfl, hq⟩
            · skip
              have q_64 := hq
              have k99 : (1 : Int32).toInt = 1 := (by decide)
              exact hret _ _ _ _ (1) f L Q dX12_best_43 hP hS ⟨⟨hI, hF, rfl, rfl⟩, trivial⟩
            · skip
              have q_65 := hq
              exact hret _ _ _ _ (r_63) f L Q dX12_best_43 hP hS ⟨⟨hI, hF, rfl, rfl⟩, trivial⟩
            · skip
              have q_66 := hq
              have k99 : ((-1) : Int32).toInt = (-1) := (by decide)
              exact hret _ _ _ _ (-1) f L Q dX12_best_43 hP hS ⟨⟨hI, hF, rfl, rfl⟩, trivial⟩
        · skip
          have q_67 := hq
          refine lv_if_ge (tgt := 44) hx hb dX12_best_35 (by decide) (fun c => absurd c (by decide)) (fun c => ?_)
          refine lv_aload_n hx hb dX12_best_38 rfl (lv_at hl 0 rfl) ?_
          refine lv_iload_n hx hb dX12_best_39 rfl (lv_at hl 1 rfl) ?_
          refine sg_calli (va_runV (As := [.int x0]) (rest := []) ⟨hx, hb, hml, hown, hts⟩ (kX12_bytesIs l D ca za h hh f L Q hI x0 H.size) (cwV 1 hts (gw_V (fun _ h => List.mem_cons_of_mem _ h) mw_685 mw_686 mw_687 mw_619 mw_684) rfl rfl rfl (by decide +kernel) ⟨Nat.le_of_ble_eq_true rfl, Nat.le_of_ble_eq_true rfl⟩) (sg_preV (ci := 12) (C := RX12) (T := TX12) (N := 55) hA hK hP hS hZ 0 (by decide) rfl rfl) rfl rfl hl.1 rfl (lv_room (Nat.le_of_ble_eq_true rfl)) dX12_best_40 ⟨Nat.le_refl _, Nat.le_refl _⟩) hA hS (fun r_71 f_68 L_69 Q_70 H locs hq hP hS => ?_)
          obtain ⟨⟨ef9, eL9, eQ9⟩, hq⟩ := hq
          rw [ef9, eL9, eQ9] at hP; clear ef9 eL9 eQ9
          rcases hq with ⟨rfl, hq⟩ | hq | ⟨rfl, hq⟩
          · skip
            have q_72 := hq
            have k99 : (1 : Int32).toInt = 1 := (by decide)
            exact hret _ _ _ _ (1) f L Q dX12_best_43 hP hS ⟨⟨hI, hF, rfl, rfl⟩, trivial⟩
          · skip
            have q_73 := hq
            exact hret _ _ _ _ (r_71) f L Q dX12_best_43 hP hS ⟨⟨hI, hF, rfl, rfl⟩, trivial⟩
          · skip
            have q_74 := hq
            have k99 : ((-1) : Int32).toInt = (-1) := (by decide)
            exact hret _ _ _ _ (-1) f L Q dX12_best_43 hP hS ⟨⟨hI, hF, rfl, rfl⟩, trivial⟩
      · skip
        have q_75 := hq
        refine lv_if_ne (tgt := 30) hx hb dX12_best_25 (by decide) (fun c => absurd c (by decide)) (fun c => ?_)
        refine lv_iconst (v := (-1)) hx hb dX12_best_28 (by decide) ?_
        have k99 : ((-1) : Int32).toInt = (-1) := (by decide)
        exact hret _ _ _ _ (-1) f L Q dX12_best_29 hP hS ⟨⟨hI, hF, rfl, rfl⟩, trivial⟩
    · skip
      have q_76 := hq
      refine lv_if_eq (tgt := 28) hx hb dX12_best_13 (by decide) (fun c => ?_) (fun c => absurd c (by decide))
      refine lv_iconst (v := (-1)) hx hb dX12_best_28 (by decide) ?_
      have k99 : ((-1) : Int32).toInt = (-1) := (by decide)
      exact hret _ _ _ _ (-1) f L Q dX12_best_29 hP hS ⟨⟨hI, hF, rfl, rfl⟩, trivial⟩
  · skip
    have q_77 := hq
    refine lv_iconst (v := (-1)) hx hb dX12_best_5 (by decide) ?_
    refine lv_icmp_eq (tgt := 28) hx hb dX12_best_6 (by decide) (fun c => ?_) (fun c => ?_)
    · skip
      exfalso; have c_78 : r_30.toInt = (-1) := (by have z := Int32.toInt_inj.mpr c; have k1 : ((-1) : Int32).toInt = (-1) := (by decide); omega); omega
    · skip
      have c_79 : r_30.toInt ≠ (-1) := (by have z := bn_ne c; have k1 : ((-1) : Int32).toInt = (-1) := (by decide); omega)
      refine lv_iload_n hx hb dX12_best_9 rfl (lv_at hl 2 rfl) ?_
      refine sg_calli (va_runS (As := [.int x1]) (rest := []) ⟨hx, hb, hml, hown, hts⟩ (kX12_isPart l D ca za h hh f L Q hI x1 H.size) (va_cwS 1 hts (gw_S (fun _ h => List.mem_cons_of_mem _ h) mw_636 mw_637 mw_619 mw_635) rfl rfl rfl (by decide +kernel) ⟨Nat.le_of_ble_eq_true rfl, Nat.le_of_ble_eq_true rfl⟩) (sg_preS hA hK hP hS hZ) rfl rfl hl.1 rfl (lv_room (Nat.le_of_ble_eq_true rfl)) dX12_best_10 ⟨Nat.le_refl _, Nat.le_refl _⟩) hA hS (fun r_83 f_80 L_81 Q_82 H locs hq hP hS => ?_)
      obtain ⟨⟨ef9, eL9, eQ9⟩, hq⟩ := hq
      rw [ef9, eL9, eQ9] at hP; clear ef9 eL9 eQ9
      rcases hq with ⟨rfl, hq⟩ | ⟨rfl, hq⟩
      · skip
        have q_84 := hq
        refine lv_if_eq (tgt := 28) hx hb dX12_best_13 (by decide) (fun c => absurd c (by decide)) (fun c => ?_)
        refine lv_iload_n hx hb dX12_best_16 rfl (lv_at hl 3 rfl) ?_
        obtain ⟨w_85, ew_85⟩ : ∃ z : Int64, z = Int32.toInt64 x2 := ⟨_, rfl⟩
        have q_86 : w_85.toInt = x2.toInt := by rw [ew_85]; exact Int32.toInt_toInt64 _
        refine lv_i2l (v := w_85) hx hb dX12_best_17 ew_85.symm ?_
        refine lv_lconst (v := 0) hx hb dX12_best_18 (by decide) ?_
        refine lv_ldc2 (v := 3) hx hb hown (hts _ (List.mem_cons_of_mem _ mw_692)) dX12_best_19 ?_
        refine sg_calli (va_runS (As := [.long w_85, .long 0, .long 3]) (rest := []) ⟨hx, hb, hml, hown, hts⟩ (kX12_within l D ca za h hh f L Q hI w_85 0 3 H.size) (va_cwS 3 hts (gw_S (fun _ h => List.mem_cons_of_mem _ h) mw_631 mw_632 mw_619 mw_630) rfl rfl rfl (by decide +kernel) ⟨Nat.le_of_ble_eq_true rfl, Nat.le_of_ble_eq_true rfl⟩) (sg_preS hA hK hP hS hZ) rfl rfl hl.1 rfl (lv_room (Nat.le_of_ble_eq_true rfl)) dX12_best_22 ⟨Nat.le_refl _, Nat.le_refl _⟩) hA hS (fun r_90 f_87 L_88 Q_89 H locs hq hP hS => ?_)
        obtain ⟨⟨ef9, eL9, eQ9⟩, hq⟩ := hq
        rw [ef9, eL9, eQ9] at hP; clear ef9 eL9 eQ9
        have k_91 : (0 : Int64).toInt = 0 := by decide
        have k_92 : (3 : Int64).toInt = 3 := by decide
        rcases hq with ⟨rfl, hq⟩ | ⟨rfl, hq⟩
        · skip
          have q_93 := hq
          refine lv_if_ne (tgt := 30) hx hb dX12_best_25 (by decide) (fun c => ?_) (fun c => absurd c (by decide))
          refine lv_aload_n hx hb dX12_best_30 rfl (lv_at hl 0 rfl) ?_
          refine lv_iload_n hx hb dX12_best_31 rfl (lv_at hl 1 rfl) ?_
          refine sg_calli (va_runV (As := [.int x0]) (rest := []) ⟨hx, hb, hml, hown, hts⟩ (kX12_bytesIs l D ca za h hh f L Q hI x0 H.size) (cwV 1 hts (gw_V (fun _ h => List.mem_cons_of_mem _ h) mw_685 mw_686 mw_687 mw_619 mw_684) rfl rfl rfl (by decide +kernel) ⟨Nat.le_of_ble_eq_true rfl, Nat.le_of_ble_eq_true rfl⟩) (sg_preV (ci := 12) (C := RX12) (T := TX12) (N := 55) hA hK hP hS hZ 0 (by decide) rfl rfl) rfl rfl hl.1 rfl (lv_room (Nat.le_of_ble_eq_true rfl)) dX12_best_32 ⟨Nat.le_refl _, Nat.le_refl _⟩) hA hS (fun r_97 f_94 L_95 Q_96 H locs hq hP hS => ?_)
          obtain ⟨⟨ef9, eL9, eQ9⟩, hq⟩ := hq
          rw [ef9, eL9, eQ9] at hP; clear ef9 eL9 eQ9
          rcases hq with ⟨rfl, hq⟩ | hq | ⟨rfl, hq⟩
          · skip
            have q_98 := hq
            refine lv_if_ge (tgt := 44) hx hb dX12_best_35 (by decide) (fun c => ?_) (fun c => absurd c (by decide))
            refine lv_aload_n hx hb dX12_best_44 rfl (lv_at hl 0 rfl) ?_
            refine lv_iload_n hx hb dX12_best_45 rfl (lv_at hl 1 rfl) ?_
            refine sg_calli (va_runV (As := [.int x0]) (rest := []) ⟨hx, hb, hml, hown, hts⟩ (kX12_anySits l D ca za h hh f L Q hI x0 (by omega) H.size) (cwV 1 hts (gw_V (fun _ h => List.mem_cons_of_mem _ h) mw_771 mw_772 mw_773 mw_619 mw_770) rfl rfl rfl (by decide +kernel) ⟨Nat.le_of_ble_eq_true rfl, Nat.le_of_ble_eq_true rfl⟩) (sg_preV (ci := 12) (C := RX12) (T := TX12) (N := 55) hA hK hP hS hZ 0 (by decide) rfl rfl) rfl rfl hl.1 rfl (lv_room (Nat.le_of_ble_eq_true rfl)) dX12_best_46 ⟨Nat.le_refl _, Nat.le_refl _⟩) hA hS (fun r_102 f_99 L_100 Q_101 H locs hq hP hS => ?_)
            obtain ⟨⟨ef9, eL9, eQ9⟩, hq⟩ := hq
            rw [ef9, eL9, eQ9] at hP; clear ef9 eL9 eQ9
            refine lv_if_ne (tgt := 55) hx hb dX12_best_49 (by decide) (fun c => ?_) (fun c => ?_)
            · skip
              have c_103 : r_102.toInt ≠ 0 := (by have z := bn_ne c; have k1 : (0 : Int32).toInt = 0 := (by decide); omega)
              refine lv_iconst (v := (-1)) hx hb dX12_best_55 (by decide) ?_
              refine lv_istore (lv' := [(4, .int (-1)), (0, .ref (h 0)), (1, .int x0), (2, .int x1), (3, .int x2)]) hx hb dX12_best_56 hl (by decide) rfl (fun ls hl => ?_)
              refine lv_iconst (v := 0) hx hb dX12_best_58 (by decide) ?_
              refine lv_istore (lv' := [(5, .int 0), (4, .int (-1)), (0, .ref (h 0)), (1, .int x0), (2, .int x1), (3, .int x2)]) hx hb dX12_best_59 hl (by decide) rfl (fun ls hl => ?_)
              refine lv_iconst (v := 0) hx hb dX12_best_61 (by decide) ?_
              refine lv_istore (lv' := [(6, .int 0), (5, .int 0), (4, .int (-1)), (0, .ref (h 0)), (1, .int x0), (2, .int x1), (3, .int x2)]) hx hb dX12_best_62 hl (by decide) rfl (fun ls hl => ?_)
              exact loop_64 62 (-1) 0 0 f _ _ _ (by have kc0 : ((-1) : Int32).toInt = (-1) := (by decide); have kc1 : (0 : Int32).toInt = 0 := (by decide); have kc2 : (0 : Int32).toInt = 0 := (by decide); omega) (by omega) (by omega) (by omega) (by decide) (by decide) hI hF hP hS (lv_sub hl [3, 4, 5, 6, 2, 1, 0] rfl)
            · skip
              have c_104 : r_102.toInt = 0 := (by have z := Int32.toInt_inj.mpr c; have k1 : (0 : Int32).toInt = 0 := (by decide); omega)
              refine lv_bipush (v := (-2)) hx hb dX12_best_52 (by decide) ?_
              have k99 : ((-2) : Int32).toInt = (-2) := (by decide)
              exact hret _ _ _ _ (-2) f L Q dX12_best_54 hP hS ⟨⟨hI, hF, rfl, rfl⟩, trivial⟩
          · skip
            have q_105 := hq
            refine lv_if_ge (tgt := 44) hx hb dX12_best_35 (by decide) (fun c => ?_) (fun c => ?_)
            · skip
              exfalso; have c_106 : 0 ≤ r_97.toInt := (by have z := bn_le c; have k1 : (0 : Int32).toInt = 0 := (by decide); omega); omega
            · skip
              have c_107 : r_97.toInt < 0 := (by have z := bn_nle c; have k1 : (0 : Int32).toInt = 0 := (by decide); omega)
              refine lv_aload_n hx hb dX12_best_38 rfl (lv_at hl 0 rfl) ?_
              refine lv_iload_n hx hb dX12_best_39 rfl (lv_at hl 1 rfl) ?_
              refine sg_calli (va_runV (As := [.int x0]) (rest := []) ⟨hx, hb, hml, hown, hts⟩ (kX12_bytesIs l D ca za h hh f L Q hI x0 H.size) (cwV 1 hts (gw_V (fun _ h => List.mem_cons_of_mem _ h) mw_685 mw_686 mw_687 mw_619 mw_684) rfl rfl rfl (by decide +kernel) ⟨Nat.le_of_ble_eq_true rfl, Nat.le_of_ble_eq_true rfl⟩) (sg_preV (ci := 12) (C := RX12) (T := TX12) (N := 55) hA hK hP hS hZ 0 (by decide) rfl rfl) rfl rfl hl.1 rfl (lv_room (Nat.le_of_ble_eq_true rfl)) dX12_best_40 ⟨Nat.le_refl _, Nat.le_refl _⟩) hA hS (fun r_111 f_108 L_109 Q_110 H locs hq hP hS => ?_)
              obtain ⟨⟨ef9, eL9, eQ9⟩, hq⟩ := hq
              rw [ef9, eL9, eQ9] at hP; clear ef9 eL9 eQ9
              rcases hq with ⟨rfl, hq⟩ | hq | ⟨rfl, hq⟩
              · skip
                have q_112 := hq
                have k99 : (1 : Int32).toInt = 1 := (by decide)
                exact hret _ _ _ _ (1) f L Q dX12_best_43 hP hS ⟨⟨hI, hF, rfl, rfl⟩, trivial⟩
              · skip
                have q_113 := hq
                exact hret _ _ _ _ (r_111) f L Q dX12_best_43 hP hS ⟨⟨hI, hF, rfl, rfl⟩, trivial⟩
              · skip
                have q_114 := hq
                have k99 : ((-1) : Int32).toInt = (-1) := (by decide)
                exact hret _ _ _ _ (-1) f L Q dX12_best_43 hP hS ⟨⟨hI, hF, rfl, rfl⟩, trivial⟩
          · skip
            have q_115 := hq
            refine lv_if_ge (tgt := 44) hx hb dX12_best_35 (by decide) (fun c => absurd c (by decide)) (fun c => ?_)
            refine lv_aload_n hx hb dX12_best_38 rfl (lv_at hl 0 rfl) ?_
            refine lv_iload_n hx hb dX12_best_39 rfl (lv_at hl 1 rfl) ?_
            refine sg_calli (va_runV (As := [.int x0]) (rest := []) ⟨hx, hb, hml, hown, hts⟩ (kX12_bytesIs l D ca za h hh f L Q hI x0 H.size) (cwV 1 hts (gw_V (fun _ h => List.mem_cons_of_mem _ h) mw_685 mw_686 mw_687 mw_619 mw_684) rfl rfl rfl (by decide +kernel) ⟨Nat.le_of_ble_eq_true rfl, Nat.le_of_ble_eq_true rfl⟩) (sg_preV (ci := 12) (C := RX12) (T := TX12) (N := 55) hA hK hP hS hZ 0 (by decide) rfl rfl) rfl rfl hl.1 rfl (lv_room (Nat.le_of_ble_eq_true rfl)) dX12_best_40 ⟨Nat.le_refl _, Nat.le_refl _⟩) hA hS (fun r_119 f_116 L_117 Q_118 H locs hq hP hS => ?_)
            obtain ⟨⟨ef9, eL9, eQ9⟩, hq⟩ := hq
            rw [ef9, eL9, eQ9] at hP; clear ef9 eL9 eQ9
            rcases hq with ⟨rfl, hq⟩ | hq | ⟨rfl, hq⟩
            · skip
              have q_120 := hq
              have k99 : (1 : Int32).toInt = 1 := (by decide)
              exact hret _ _ _ _ (1) f L Q dX12_best_43 hP hS ⟨⟨hI, hF, rfl, rfl⟩, trivial⟩
            · skip
              have q_121 := hq
              exact hret _ _ _ _ (r_119) f L Q dX12_best_43 hP hS ⟨⟨hI, hF, rfl, rfl⟩, trivial⟩
            · skip
              have q_122 := hq
              have k99 : ((-1) : Int32).toInt = (-1) := (by decide)
              exact hret _ _ _ _ (-1) f L Q dX12_best_43 hP hS ⟨⟨hI, hF, rfl, rfl⟩, trivial⟩
        · skip
          have q_123 := hq
          refine lv_if_ne (tgt := 30) hx hb dX12_best_25 (by decide) (fun c => absurd c (by decide)) (fun c => ?_)
          refine lv_iconst (v := (-1)) hx hb dX12_best_28 (by decide) ?_
          have k99 : ((-1) : Int32).toInt = (-1) := (by decide)
          exact hret _ _ _ _ (-1) f L Q dX12_best_29 hP hS ⟨⟨hI, hF, rfl, rfl⟩, trivial⟩
      · skip
        have q_124 := hq
        refine lv_if_eq (tgt := 28) hx hb dX12_best_13 (by decide) (fun c => ?_) (fun c => absurd c (by decide))
        refine lv_iconst (v := (-1)) hx hb dX12_best_28 (by decide) ?_
        have k99 : ((-1) : Int32).toInt = (-1) := (by decide)
        exact hret _ _ _ _ (-1) f L Q dX12_best_29 hP hS ⟨⟨hI, hF, rfl, rfl⟩, trivial⟩
  · skip
    have q_125 := hq
    refine lv_iconst (v := (-1)) hx hb dX12_best_5 (by decide) ?_
    refine lv_icmp_eq (tgt := 28) hx hb dX12_best_6 (by decide) (fun c => ?_) (fun c => absurd c (by decide))
    refine lv_iconst (v := (-1)) hx hb dX12_best_28 (by decide) ?_
    have k99 : ((-1) : Int32).toInt = (-1) := (by decide)
    exact hret _ _ _ _ (-1) f L Q dX12_best_29 hP hS ⟨⟨hI, hF, rfl, rfl⟩, trivial⟩

set_option maxHeartbeats 4000000 in
set_option maxRecDepth 100000 in
theorem kX12_weightOf (l : Launch) (D : va_G) (ca : Nat → ClassId) (za h : Nat → Nat) (hh : sgH 26 h) (f : sg_F) (L : sg_L) (Q : sg_Q) (hI : sgI loM hiM f) (x0 : Int32) (b0 : 0 ≤ x0.toInt ∧ x0.toInt ≤ 7) (sz : Nat) : Met l yX12_weightOf gwX12_weightOf { frames := 1, cells := 0, slots := 0, locals := 22 } (sgP D vwCl (tyX ca) 26 h (eM ca h) zcM za f L Q sz [.ref (h 0), .int x0]) (sgQi D vwCl 26 h (eM ca h) sz (fun r f1 L1 Q1 => ((f1 = f ∧ L1 = L ∧ Q1 = Q) ∧ True))) 0 0 (sgA 26 h sz) := by
  refine sg_ofWi (cc := cX12_weightOf) (maxL := 2) RX12 (by decide) rfl rfl (Nat.le_of_ble_eq_true rfl) ?_
  intro p e s m below meth cd Qz ls hx hb hml hown hts hK hZ hP hS hl hret
  have hA := sgY.self (n := 26) (h := h) (sz := s.heap.size)
  have hl : lv_has ls 2 [(0, .ref (h 0)), (1, .int x0)] := hl
  obtain ⟨H, hH⟩ : ∃ z : Heap, z = s.heap := ⟨_, rfl⟩
  obtain ⟨locs, hlo⟩ : ∃ z : List Loc, z = [] := ⟨_, rfl⟩
  have hP : va_P D vwCl (sgw 26 h (eM ca h) f L Q) H := by rw [hH]; exact hP
  have hS : va_S (sgA 26 h s.heap.size) s.heap H locs := by rw [hH, hlo]; exact hS
  suffices hgo : W p l e ({ frames := 1, cells := 0, slots := 0, locals := 22 }) s m ([.ref (h 0), .int x0] : List Value).toArray below meth cd H locs 0 0 Qz (F0 m 0 ls []) by rw [hH, hlo] at hgo; exact hgo
  clear hH hlo
  refine lv_aload_n hx hb dX12_weightOf_0 rfl (lv_at hl 0 rfl) ?_
  refine lv_iload_n hx hb dX12_weightOf_1 rfl (lv_at hl 1 rfl) ?_
  refine lv_iconst (v := 5) hx hb dX12_weightOf_2 (by decide) ?_
  refine sg_calli (va_runV (As := [.int x0, .int 5]) (rest := []) ⟨hx, hb, hml, hown, hts⟩ (kX12_numberOf l D ca za h hh f L Q hI x0 5 (by omega) (by decide) H.size) (cwV 2 hts (gw_V (fun _ h => List.mem_cons_of_mem _ h) mw_720 mw_721 mw_722 mw_619 mw_719) rfl rfl rfl (by decide +kernel) ⟨Nat.le_of_ble_eq_true rfl, Nat.le_of_ble_eq_true rfl⟩) (sg_preV (ci := 12) (C := RX12) (T := TX12) (N := 55) hA hK hP hS hZ 0 (by decide) rfl rfl) rfl rfl hl.1 rfl (lv_room (Nat.le_of_ble_eq_true rfl)) dX12_weightOf_3 ⟨Nat.le_refl _, Nat.le_refl _⟩) hA hS (fun r_4 f_1 L_2 Q_3 H locs hq hP hS => ?_)
  obtain ⟨⟨ef9, eL9, eQ9⟩, hq⟩ := hq
  rw [ef9, eL9, eQ9] at hP; clear ef9 eL9 eQ9
  refine lv_aload_n hx hb dX12_weightOf_6 rfl (lv_at hl 0 rfl) ?_
  refine lv_iload_n hx hb dX12_weightOf_7 rfl (lv_at hl 1 rfl) ?_
  refine lv_iconst (v := 3) hx hb dX12_weightOf_8 (by decide) ?_
  refine sg_calli (va_runV (As := [.int x0, .int 3]) (rest := [.int r_4]) ⟨hx, hb, hml, hown, hts⟩ (kX12_numberOf l D ca za h hh f L Q hI x0 3 (by omega) (by decide) H.size) (cwV 2 hts (gw_V (fun _ h => List.mem_cons_of_mem _ h) mw_720 mw_721 mw_722 mw_619 mw_719) rfl rfl rfl (by decide +kernel) ⟨Nat.le_of_ble_eq_true rfl, Nat.le_of_ble_eq_true rfl⟩) (sg_preV (ci := 12) (C := RX12) (T := TX12) (N := 55) hA hK hP hS hZ 0 (by decide) rfl rfl) rfl rfl hl.1 rfl (lv_room (Nat.le_of_ble_eq_true rfl)) dX12_weightOf_9 ⟨Nat.le_refl _, Nat.le_refl _⟩) hA hS (fun r_8 f_5 L_6 Q_7 H locs hq hP hS => ?_)
  obtain ⟨⟨ef9, eL9, eQ9⟩, hq⟩ := hq
  rw [ef9, eL9, eQ9] at hP; clear ef9 eL9 eQ9
  refine lv_aload_n hx hb dX12_weightOf_12 rfl (lv_at hl 0 rfl) ?_
  refine lv_iload_n hx hb dX12_weightOf_13 rfl (lv_at hl 1 rfl) ?_
  refine lv_iconst (v := 4) hx hb dX12_weightOf_14 (by decide) ?_
  refine sg_calli (va_runV (As := [.int x0, .int 4]) (rest := [.int r_8, .int r_4]) ⟨hx, hb, hml, hown, hts⟩ (kX12_numberOf l D ca za h hh f L Q hI x0 4 (by omega) (by decide) H.size) (cwV 2 hts (gw_V (fun _ h => List.mem_cons_of_mem _ h) mw_720 mw_721 mw_722 mw_619 mw_719) rfl rfl rfl (by decide +kernel) ⟨Nat.le_of_ble_eq_true rfl, Nat.le_of_ble_eq_true rfl⟩) (sg_preV (ci := 12) (C := RX12) (T := TX12) (N := 55) hA hK hP hS hZ 0 (by decide) rfl rfl) rfl rfl hl.1 rfl (lv_room (Nat.le_of_ble_eq_true rfl)) dX12_weightOf_15 ⟨Nat.le_refl _, Nat.le_refl _⟩) hA hS (fun r_12 f_9 L_10 Q_11 H locs hq hP hS => ?_)
  obtain ⟨⟨ef9, eL9, eQ9⟩, hq⟩ := hq
  rw [ef9, eL9, eQ9] at hP; clear ef9 eL9 eQ9
  refine lv_iadd hx hb dX12_weightOf_18 ?_
  refine lv_topi (fun v_13 ev_13 => ?_)
  have q_14 : v_13.toInt = r_8.toInt + r_12.toInt := by rw [ev_13]; exact (bn_addI (by omega) (by omega)).trans (by omega)
  refine lv_imul hx hb dX12_weightOf_19 ?_
  refine lv_topi (fun v_15 ev_15 => ?_)
  exact hret _ _ _ _ (v_15) f L Q dX12_weightOf_20 hP hS ⟨⟨rfl, rfl, rfl⟩, trivial⟩

set_option maxHeartbeats 4000000 in
set_option maxRecDepth 100000 in
theorem kX12_weightTo (l : Launch) (D : va_G) (ca : Nat → ClassId) (za h : Nat → Nat) (hh : sgH 26 h) (f : sg_F) (L : sg_L) (Q : sg_Q) (hI : sgI loM hiM f) (x0 : Int32) (x1 : Int32) (x2 : Int32) (b0 : 0 ≤ x0.toInt ∧ x0.toInt ≤ 5) (b1 : 0 ≤ x1.toInt ∧ x1.toInt ≤ 2) (b2 : 0 ≤ x2.toInt ∧ x2.toInt ≤ 60) (sz : Nat) : Met l yX12_weightTo gwX12_weightTo { frames := 3, cells := 0, slots := 0, locals := 71 } (sgP D vwCl (tyX ca) 26 h (eM ca h) zcM za f L Q sz [.ref (h 0), .int x0, .int x1, .int x2]) (sgQi D vwCl 26 h (eM ca h) sz (fun r f1 L1 Q1 => ((f1 = f ∧ L1 = L ∧ Q1 = Q) ∧ True))) 0 0 (sgA 26 h sz) := by
  refine sg_ofWi (cc := cX12_weightTo) (maxL := 7) RX12 (by decide) rfl rfl (Nat.le_of_ble_eq_true rfl) ?_
  intro p e s m below meth cd Qz ls hx hb hml hown hts hK hZ hP hS hl hret
  have hA := sgY.self (n := 26) (h := h) (sz := s.heap.size)
  have hl : lv_has ls 7 [(0, .ref (h 0)), (1, .int x0), (2, .int x1), (3, .int x2)] := hl
  obtain ⟨H, hH⟩ : ∃ z : Heap, z = s.heap := ⟨_, rfl⟩
  obtain ⟨locs, hlo⟩ : ∃ z : List Loc, z = [] := ⟨_, rfl⟩
  have hP : va_P D vwCl (sgw 26 h (eM ca h) f L Q) H := by rw [hH]; exact hP
  have hS : va_S (sgA 26 h s.heap.size) s.heap H locs := by rw [hH, hlo]; exact hS
  suffices hgo : W p l e ({ frames := 3, cells := 0, slots := 0, locals := 71 }) s m ([.ref (h 0), .int x0, .int x1, .int x2] : List Value).toArray below meth cd H locs 0 0 Qz (F0 m 0 ls []) by rw [hH, hlo] at hgo; exact hgo
  clear hH hlo
  have loop_6 : ∀ (n_6 : Nat) (y4_6 : Int32) (y5_6 : Int32) (H : Heap) (locs : List Loc) (ls : Array Slot), 21 - y5_6.toInt < (n_6 : Int) → 0 ≤ y5_6.toInt ∧ y5_6.toInt ≤ 21 → va_P D vwCl (sgw 26 h (eM ca h) f L Q) H → va_S (sgA 26 h s.heap.size) s.heap H locs → lv_has ls 7 [(0, .ref (h 0)), (1, .int x0), (2, .int x1), (3, .int x2), (4, .int y4_6), (5, .int y5_6)] → W p l e ({ frames := 3, cells := 0, slots := 0, locals := 71 }) s m ([.ref (h 0), .int x0, .int x1, .int x2] : List Value).toArray below meth cd H locs 0 0 Qz (F0 m 6 ls []) := by
    intro n_6
    induction n_6 with
    | zero => intro y4_6 y5_6 H locs ls hm_6 hy0_6 hP hS hl; exact absurd hm_6 (by omega)
    | succ n_6 ih_6 =>
      intro y4_6 y5_6 H locs ls hm_6 hy0_6 hP hS hl
      refine lv_iload hx hb dX12_weightTo_6 (lv_at hl 5 rfl) ?_
      refine lv_aload_n hx hb dX12_weightTo_8 rfl (lv_at hl 0 rfl) ?_
      refine lv_iload_n hx hb dX12_weightTo_9 rfl (lv_at hl 1 rfl) ?_
      refine sg_calli (va_runV (As := [.int x0]) (rest := [.int y5_6]) ⟨hx, hb, hml, hown, hts⟩ (kX12_shiftsOf l D ca za h hh f L Q hI x0 (by omega) H.size) (cwV 1 hts (gw_V (fun _ h => List.mem_cons_of_mem _ h) mw_714 mw_715 mw_716 mw_619 mw_713) rfl rfl rfl (by decide +kernel) ⟨Nat.le_of_ble_eq_true rfl, Nat.le_of_ble_eq_true rfl⟩) (sg_preV (ci := 12) (C := RX12) (T := TX12) (N := 55) hA hK hP hS hZ 0 (by decide) rfl rfl) rfl rfl hl.1 rfl (lv_room (Nat.le_of_ble_eq_true rfl)) dX12_weightTo_10 ⟨Nat.le_refl _, Nat.le_refl _⟩) hA hS (fun r_4 f_1 L_2 Q_3 H locs hq hP hS => ?_)
      obtain ⟨⟨ef9, eL9, eQ9⟩, hq⟩ := hq
      rw [ef9, eL9, eQ9] at hP; clear ef9 eL9 eQ9
      refine lv_icmp_ge (tgt := 62) hx hb dX12_weightTo_13 (by decide) (fun c => ?_) (fun c => ?_)
      · skip
        have c_5 : r_4.toInt ≤ y5_6.toInt := (by have z := bn_le c; omega)
        refine lv_iload hx hb dX12_weightTo_62 (lv_at hl 4 rfl) ?_
        exact hret _ _ _ _ (y4_6) f L Q dX12_weightTo_64 hP hS ⟨⟨rfl, rfl, rfl⟩, trivial⟩
      · skip
        have c_6 : y5_6.toInt < r_4.toInt := (by have z := bn_nle c; omega)
        refine lv_aload_n hx hb dX12_weightTo_16 rfl (lv_at hl 0 rfl) ?_
        refine lv_iload_n hx hb dX12_weightTo_17 rfl (lv_at hl 1 rfl) ?_
        refine lv_iload hx hb dX12_weightTo_18 (lv_at hl 5 rfl) ?_
        refine sg_calli (va_runV (As := [.int x0, .int y5_6]) (rest := []) ⟨hx, hb, hml, hown, hts⟩ (kX12_whoSits l D ca za h hh f L Q hI x0 y5_6 (by omega) (by omega) H.size) (cwV 2 hts (gw_V (fun _ h => List.mem_cons_of_mem _ h) mw_725 mw_726 mw_727 mw_619 mw_724) rfl rfl rfl (by decide +kernel) ⟨Nat.le_of_ble_eq_true rfl, Nat.le_of_ble_eq_true rfl⟩) (sg_preV (ci := 12) (C := RX12) (T := TX12) (N := 55) hA hK hP hS hZ 0 (by decide) rfl rfl) rfl rfl hl.1 rfl (lv_room (Nat.le_of_ble_eq_true rfl)) dX12_weightTo_20 ⟨Nat.le_refl _, Nat.le_refl _⟩) hA hS (fun r_10 f_7 L_8 Q_9 H locs hq hP hS => ?_)
        obtain ⟨⟨ef9, eL9, eQ9⟩, hq, u_11⟩ := hq
        rw [ef9, eL9, eQ9] at hP; clear ef9 eL9 eQ9
        refine lv_istore (lv' := [(6, .int r_10), (0, .ref (h 0)), (1, .int x0), (2, .int x1), (3, .int x2), (4, .int y4_6), (5, .int y5_6)]) hx hb dX12_weightTo_23 hl (by decide) rfl (fun ls hl => ?_)
        refine lv_iload hx hb dX12_weightTo_25 (lv_at hl 5 rfl) ?_
        refine lv_iload hx hb dX12_weightTo_27 (lv_at hl 0 rfl) ?_
        refine lv_if_lt (tgt := 52) hx hb dX12_weightTo_29 (by decide) (fun c => ?_) (fun c => ?_)
        · skip
          have c_12 : r_10.toInt < 0 := (by have z := bn_lt c; have k1 : (0 : Int32).toInt = 0 := (by decide); omega)
          refine lv_iconst (v := 0) hx hb dX12_weightTo_52 (by decide) ?_
          refine lv_iadd hx hb dX12_weightTo_53 ?_
          refine W.eq (g2 := F0 m 54 ls [.int y4_6]) (by rw [Int32.add_zero]) ?_
          refine lv_istore (lv' := [(4, .int y4_6), (6, .int r_10), (0, .ref (h 0)), (1, .int x0), (2, .int x1), (3, .int x2), (5, .int y5_6)]) hx hb dX12_weightTo_54 hl (by decide) rfl (fun ls hl => ?_)
          obtain ⟨v_14, ev_14⟩ : ∃ z : Int32, z = y5_6 + 1 := ⟨_, rfl⟩
          have q_15 : v_14.toInt = y5_6.toInt + 1 := by rw [ev_14]; exact (bn_addc y5_6 1 (by decide) (by omega) (by omega))
          refine lv_iinc (v := v_14) (lv' := [(5, .int v_14), (4, .int y4_6), (6, .int r_10), (0, .ref (h 0)), (1, .int x0), (2, .int x1), (3, .int x2)]) hx hb dX12_weightTo_56 hl (k := 6) rfl (by rw [ev_14]; rfl) (by decide) rfl (fun ls hl => ?_)
          refine lv_goto (tgt := 6) hx hb dX12_weightTo_59 (by decide) ?_
          exact ih_6 y4_6 v_14 _ _ _ (by omega) (by omega) hP hS (lv_sub hl [3, 4, 5, 6, 1, 0] rfl)
        · skip
          have c_13 : 0 ≤ r_10.toInt := (by have z := bn_nlt c; have k1 : (0 : Int32).toInt = 0 := (by decide); omega)
          refine lv_aload_n hx hb dX12_weightTo_32 rfl (lv_at hl 1 rfl) ?_
          refine lv_iload hx hb dX12_weightTo_33 (lv_at hl 0 rfl) ?_
          refine lv_iload_n hx hb dX12_weightTo_35 rfl (lv_at hl 3 rfl) ?_
          refine sg_calli (va_runV (As := [.int r_10, .int x1]) (rest := [.int y4_6]) ⟨hx, hb, hml, hown, hts⟩ (kX12_numberOf l D ca za h hh f L Q hI r_10 x1 (by omega) (by omega) H.size) (cwV 2 hts (gw_V (fun _ h => List.mem_cons_of_mem _ h) mw_720 mw_721 mw_722 mw_619 mw_719) rfl rfl rfl (by decide +kernel) ⟨Nat.le_of_ble_eq_true rfl, Nat.le_of_ble_eq_true rfl⟩) (sg_preV (ci := 12) (C := RX12) (T := TX12) (N := 55) hA hK hP hS hZ 0 (by decide) rfl rfl) rfl rfl hl.1 rfl (lv_room (Nat.le_of_ble_eq_true rfl)) dX12_weightTo_36 ⟨Nat.le_refl _, Nat.le_refl _⟩) hA hS (fun r_19 f_16 L_17 Q_18 H locs hq hP hS => ?_)
          obtain ⟨⟨ef9, eL9, eQ9⟩, hq⟩ := hq
          rw [ef9, eL9, eQ9] at hP; clear ef9 eL9 eQ9
          refine lv_iload_n hx hb dX12_weightTo_39 rfl (lv_at hl 4 rfl) ?_
          refine lv_icmp_gt (tgt := 52) hx hb dX12_weightTo_40 (by decide) (fun c => ?_) (fun c => ?_)
          · skip
            have c_20 : x2.toInt < r_19.toInt := (by have z := bn_lt c; omega)
            refine lv_iconst (v := 0) hx hb dX12_weightTo_52 (by decide) ?_
            refine lv_iadd hx hb dX12_weightTo_53 ?_
            refine W.eq (g2 := F0 m 54 ls [.int y4_6]) (by rw [Int32.add_zero]) ?_
            refine lv_istore (lv' := [(4, .int y4_6), (6, .int r_10), (0, .ref (h 0)), (1, .int x0), (2, .int x1), (3, .int x2), (5, .int y5_6)]) hx hb dX12_weightTo_54 hl (by decide) rfl (fun ls hl => ?_)
            obtain ⟨v_22, ev_22⟩ : ∃ z : Int32, z = y5_6 + 1 := ⟨_, rfl⟩
            have q_23 : v_22.toInt = y5_6.toInt + 1 := by rw [ev_22]; exact (bn_addc y5_6 1 (by decide) (by omega) (by omega))
            refine lv_iinc (v := v_22) (lv' := [(5, .int v_22), (4, .int y4_6), (6, .int r_10), (0, .ref (h 0)), (1, .int x0), (2, .int x1), (3, .int x2)]) hx hb dX12_weightTo_56 hl (k := 6) rfl (by rw [ev_22]; rfl) (by decide) rfl (fun ls hl => ?_)
            refine lv_goto (tgt := 6) hx hb dX12_weightTo_59 (by decide) ?_
            exact ih_6 y4_6 v_22 _ _ _ (by omega) (by omega) hP hS (lv_sub hl [3, 4, 5, 6, 1, 0] rfl)
          · skip
            have c_21 : r_19.toInt ≤ x2.toInt := (by have z := bn_nlt c; omega)
            refine lv_aload_n hx hb dX12_weightTo_43 rfl (lv_at hl 1 rfl) ?_
            refine lv_iload hx hb dX12_weightTo_44 (lv_at hl 0 rfl) ?_
            refine sg_calli (va_runV (As := [.int r_10]) (rest := [.int y4_6]) ⟨hx, hb, hml, hown, hts⟩ (kX12_weightOf l D ca za h hh f L Q hI r_10 (by omega) H.size) (cwV 1 hts (gw_V (fun _ h => List.mem_cons_of_mem _ h) mw_793 mw_794 mw_795 mw_619 mw_792) rfl rfl rfl (by decide +kernel) ⟨Nat.le_of_ble_eq_true rfl, Nat.le_of_ble_eq_true rfl⟩) (sg_preV (ci := 12) (C := RX12) (T := TX12) (N := 55) hA hK hP hS hZ 0 (by decide) rfl rfl) rfl rfl hl.1 rfl (lv_room (Nat.le_of_ble_eq_true rfl)) dX12_weightTo_46 ⟨Nat.le_refl _, Nat.le_refl _⟩) hA hS (fun r_27 f_24 L_25 Q_26 H locs hq hP hS => ?_)
            obtain ⟨⟨ef9, eL9, eQ9⟩, hq⟩ := hq
            rw [ef9, eL9, eQ9] at hP; clear ef9 eL9 eQ9
            refine lv_goto (tgt := 53) hx hb dX12_weightTo_49 (by decide) ?_
            refine lv_iadd hx hb dX12_weightTo_53 ?_
            refine lv_topi (fun v_28 ev_28 => ?_)
            refine lv_istore (lv' := [(4, .int v_28), (6, .int r_10), (0, .ref (h 0)), (1, .int x0), (2, .int x1), (3, .int x2), (5, .int y5_6)]) hx hb dX12_weightTo_54 hl (by decide) rfl (fun ls hl => ?_)
            obtain ⟨v_29, ev_29⟩ : ∃ z : Int32, z = y5_6 + 1 := ⟨_, rfl⟩
            have q_30 : v_29.toInt = y5_6.toInt + 1 := by rw [ev_29]; exact (bn_addc y5_6 1 (by decide) (by omega) (by omega))
            refine lv_iinc (v := v_29) (lv' := [(5, .int v_29), (4, .int v_28), (6, .int r_10), (0, .ref (h 0)), (1, .int x0), (2, .int x1), (3, .int x2)]) hx hb dX12_weightTo_56 hl (k := 6) rfl (by rw [ev_29]; rfl) (by decide) rfl (fun ls hl => ?_)
            refine lv_goto (tgt := 6) hx hb dX12_weightTo_59 (by decide) ?_
            exact ih_6 v_28 v_29 _ _ _ (by omega) (by omega) hP hS (lv_sub hl [3, 4, 5, 6, 1, 0] rfl)
  refine lv_iconst (v := 0) hx hb dX12_weightTo_0 (by decide) ?_
  refine lv_istore (lv' := [(4, .int 0), (0, .ref (h 0)), (1, .int x0), (2, .int x1), (3, .int x2)]) hx hb dX12_weightTo_1 hl (by decide) rfl (fun ls hl => ?_)
  refine lv_iconst (v := 0) hx hb dX12_weightTo_3 (by decide) ?_
  refine lv_istore (lv' := [(5, .int 0), (4, .int 0), (0, .ref (h 0)), (1, .int x0), (2, .int x1), (3, .int x2)]) hx hb dX12_weightTo_4 hl (by decide) rfl (fun ls hl => ?_)
  exact loop_6 22 0 0 _ _ _ (by have kc0 : (0 : Int32).toInt = 0 := (by decide); have kc1 : (0 : Int32).toInt = 0 := (by decide); omega) (by decide) hP hS (lv_sub hl [2, 3, 4, 5, 1, 0] rfl)

set_option maxHeartbeats 4000000 in
set_option maxRecDepth 100000 in
theorem kX12_isWanted (l : Launch) (D : va_G) (ca : Nat → ClassId) (za h : Nat → Nat) (hh : sgH 26 h) (f : sg_F) (L : sg_L) (Q : sg_Q) (hI : sgI loM hiM f) (x0 : Int32) (x1 : Int32) (x2 : Int32) (b0 : 0 ≤ x0.toInt ∧ x0.toInt ≤ 5) (b1 : 0 ≤ x1.toInt ∧ x1.toInt ≤ 2) (b2 : 0 ≤ x2.toInt ∧ x2.toInt ≤ 60) (sz : Nat) : Met l yX12_isWanted gwX12_isWanted { frames := 3, cells := 0, slots := 0, locals := 71 } (sgP D vwCl (tyX ca) 26 h (eM ca h) zcM za f L Q sz [.ref (h 0), .int x0, .int x1, .int x2]) (sgQi D vwCl 26 h (eM ca h) sz (fun r f1 L1 Q1 => ((f1 = f ∧ L1 = L ∧ Q1 = Q) ∧ (0 ≤ r.toInt ∧ r.toInt ≤ 1)))) 0 0 (sgA 26 h sz) := by
  refine sg_ofWz (cc := cX12_isWanted) (maxL := 5) RX12 (by decide) rfl rfl (Nat.le_of_ble_eq_true rfl) ?_
  intro p e s m below meth cd Qz ls hx hb hml hown hts hK hZ hP hS hl hret
  have hA := sgY.self (n := 26) (h := h) (sz := s.heap.size)
  have hl : lv_has ls 5 [(0, .ref (h 0)), (1, .int x0), (2, .int x1), (3, .int x2)] := hl
  obtain ⟨H, hH⟩ : ∃ z : Heap, z = s.heap := ⟨_, rfl⟩
  obtain ⟨locs, hlo⟩ : ∃ z : List Loc, z = [] := ⟨_, rfl⟩
  have hP : va_P D vwCl (sgw 26 h (eM ca h) f L Q) H := by rw [hH]; exact hP
  have hS : va_S (sgA 26 h s.heap.size) s.heap H locs := by rw [hH, hlo]; exact hS
  suffices hgo : W p l e ({ frames := 3, cells := 0, slots := 0, locals := 71 }) s m ([.ref (h 0), .int x0, .int x1, .int x2] : List Value).toArray below meth cd H locs 0 0 Qz (F0 m 0 ls []) by rw [hH, hlo] at hgo; exact hgo
  clear hH hlo
  have loop_3 : ∀ (n_3 : Nat) (y4_3 : Int32) (H : Heap) (locs : List Loc) (ls : Array Slot), 21 - y4_3.toInt < (n_3 : Int) → 0 ≤ y4_3.toInt ∧ y4_3.toInt ≤ 21 → va_P D vwCl (sgw 26 h (eM ca h) f L Q) H → va_S (sgA 26 h s.heap.size) s.heap H locs → lv_has ls 5 [(0, .ref (h 0)), (1, .int x0), (2, .int x1), (3, .int x2), (4, .int y4_3)] → W p l e ({ frames := 3, cells := 0, slots := 0, locals := 71 }) s m ([.ref (h 0), .int x0, .int x1, .int x2] : List Value).toArray below meth cd H locs 0 0 Qz (F0 m 3 ls []) := by
    intro n_3
    induction n_3 with
    | zero => intro y4_3 H locs ls hm_3 hy0_3 hP hS hl; exact absurd hm_3 (by omega)
    | succ n_3 ih_3 =>
      have blk_41 : ∀ (y4_41 : Int32) (H : Heap) (locs : List Loc) (ls : Array Slot), 21 - y4_41.toInt < ((n_3 + 1 : Nat) : Int) → 0 ≤ y4_41.toInt ∧ y4_41.toInt ≤ 20 → va_P D vwCl (sgw 26 h (eM ca h) f L Q) H → va_S (sgA 26 h s.heap.size) s.heap H locs → lv_has ls 5 [(0, .ref (h 0)), (1, .int x0), (2, .int x1), (3, .int x2), (4, .int y4_41)] → W p l e ({ frames := 3, cells := 0, slots := 0, locals := 71 }) s m ([.ref (h 0), .int x0, .int x1, .int x2] : List Value).toArray below meth cd H locs 0 0 Qz (F0 m 41 ls []) := by
        intro y4_41 H locs ls hm_3 hy0_41 hP hS hl
        obtain ⟨v_1, ev_1⟩ : ∃ z : Int32, z = y4_41 + 1 := ⟨_, rfl⟩
        have q_2 : v_1.toInt = y4_41.toInt + 1 := by rw [ev_1]; exact (bn_addc y4_41 1 (by decide) (by omega) (by omega))
        refine lv_iinc (v := v_1) (lv' := [(4, .int v_1), (0, .ref (h 0)), (1, .int x0), (2, .int x1), (3, .int x2)]) hx hb dX12_isWanted_41 hl (k := 4) rfl (by rw [ev_1]; rfl) (by decide) rfl (fun ls hl => ?_)
        refine lv_goto (tgt := 3) hx hb dX12_isWanted_44 (by decide) ?_
        exact ih_3 v_1 _ _ _ (by omega) (by omega) hP hS (lv_sub hl [1, 2, 3, 4, 0] rfl)
      intro y4_3 H locs ls hm_3 hy0_3 hP hS hl
      refine lv_iload hx hb dX12_isWanted_3 (lv_at hl 4 rfl) ?_
      refine lv_aload_n hx hb dX12_isWanted_5 rfl (lv_at hl 0 rfl) ?_
      refine lv_iload_n hx hb dX12_isWanted_6 rfl (lv_at hl 1 rfl) ?_
      refine sg_calli (va_runV (As := [.int x0]) (rest := [.int y4_3]) ⟨hx, hb, hml, hown, hts⟩ (kX12_shiftsOf l D ca za h hh f L Q hI x0 (by omega) H.size) (cwV 1 hts (gw_V (fun _ h => List.mem_cons_of_mem _ h) mw_714 mw_715 mw_716 mw_619 mw_713) rfl rfl rfl (by decide +kernel) ⟨Nat.le_of_ble_eq_true rfl, Nat.le_of_ble_eq_true rfl⟩) (sg_preV (ci := 12) (C := RX12) (T := TX12) (N := 55) hA hK hP hS hZ 0 (by decide) rfl rfl) rfl rfl hl.1 rfl (lv_room (Nat.le_of_ble_eq_true rfl)) dX12_isWanted_7 ⟨Nat.le_refl _, Nat.le_refl _⟩) hA hS (fun r_6 f_3 L_4 Q_5 H locs hq hP hS => ?_)
      obtain ⟨⟨ef9, eL9, eQ9⟩, hq⟩ := hq
      rw [ef9, eL9, eQ9] at hP; clear ef9 eL9 eQ9
      refine lv_icmp_ge (tgt := 47) hx hb dX12_isWanted_10 (by decide) (fun c => ?_) (fun c => ?_)
      · skip
        have c_7 : r_6.toInt ≤ y4_3.toInt := (by have z := bn_le c; omega)
        refine lv_iconst (v := 0) hx hb dX12_isWanted_47 (by decide) ?_
        have k99 : (0 : Int32).toInt = 0 := (by decide)
        exact hret _ _ _ _ (0) f L Q dX12_isWanted_48 (by decide) hP hS ⟨⟨rfl, rfl, rfl⟩, (by decide)⟩
      · skip
        have c_8 : y4_3.toInt < r_6.toInt := (by have z := bn_nle c; omega)
        refine lv_aload_n hx hb dX12_isWanted_13 rfl (lv_at hl 0 rfl) ?_
        refine lv_iload_n hx hb dX12_isWanted_14 rfl (lv_at hl 1 rfl) ?_
        refine lv_iload hx hb dX12_isWanted_15 (lv_at hl 4 rfl) ?_
        refine sg_calli (va_runV (As := [.int x0, .int y4_3]) (rest := []) ⟨hx, hb, hml, hown, hts⟩ (kX12_whoSits l D ca za h hh f L Q hI x0 y4_3 (by omega) (by omega) H.size) (cwV 2 hts (gw_V (fun _ h => List.mem_cons_of_mem _ h) mw_725 mw_726 mw_727 mw_619 mw_724) rfl rfl rfl (by decide +kernel) ⟨Nat.le_of_ble_eq_true rfl, Nat.le_of_ble_eq_true rfl⟩) (sg_preV (ci := 12) (C := RX12) (T := TX12) (N := 55) hA hK hP hS hZ 0 (by decide) rfl rfl) rfl rfl hl.1 rfl (lv_room (Nat.le_of_ble_eq_true rfl)) dX12_isWanted_17 ⟨Nat.le_refl _, Nat.le_refl _⟩) hA hS (fun r_12 f_9 L_10 Q_11 H locs hq hP hS => ?_)
        obtain ⟨⟨ef9, eL9, eQ9⟩, hq, u_13⟩ := hq
        rw [ef9, eL9, eQ9] at hP; clear ef9 eL9 eQ9
        refine lv_if_lt (tgt := 41) hx hb dX12_isWanted_20 (by decide) (fun c => ?_) (fun c => ?_)
        · skip
          have c_14 : r_12.toInt < 0 := (by have z := bn_lt c; have k1 : (0 : Int32).toInt = 0 := (by decide); omega)
          exact blk_41 y4_3 _ _ _ (by omega) (by omega) hP hS (lv_sub hl [0, 1, 2, 3, 4] rfl)
        · skip
          have c_15 : 0 ≤ r_12.toInt := (by have z := bn_nlt c; have k1 : (0 : Int32).toInt = 0 := (by decide); omega)
          refine lv_aload_n hx hb dX12_isWanted_23 rfl (lv_at hl 0 rfl) ?_
          refine lv_aload_n hx hb dX12_isWanted_24 rfl (lv_at hl 0 rfl) ?_
          refine lv_iload_n hx hb dX12_isWanted_25 rfl (lv_at hl 1 rfl) ?_
          refine lv_iload hx hb dX12_isWanted_26 (lv_at hl 4 rfl) ?_
          refine sg_calli (va_runV (As := [.int x0, .int y4_3]) (rest := [.ref (h 0)]) ⟨hx, hb, hml, hown, hts⟩ (kX12_whoSits l D ca za h hh f L Q hI x0 y4_3 (by omega) (by omega) H.size) (cwV 2 hts (gw_V (fun _ h => List.mem_cons_of_mem _ h) mw_725 mw_726 mw_727 mw_619 mw_724) rfl rfl rfl (by decide +kernel) ⟨Nat.le_of_ble_eq_true rfl, Nat.le_of_ble_eq_true rfl⟩) (sg_preV (ci := 12) (C := RX12) (T := TX12) (N := 55) hA hK hP hS hZ 0 (by decide) rfl rfl) rfl rfl hl.1 rfl (lv_room (Nat.le_of_ble_eq_true rfl)) dX12_isWanted_28 ⟨Nat.le_refl _, Nat.le_refl _⟩) hA hS (fun r_19 f_16 L_17 Q_18 H locs hq hP hS => ?_)
          obtain ⟨⟨ef9, eL9, eQ9⟩, hq, u_20⟩ := hq
          rw [ef9, eL9, eQ9] at hP; clear ef9 eL9 eQ9
          rw [show r_19 = r_12 from u_20.trans u_13.symm]
          refine lv_iload_n hx hb dX12_isWanted_31 rfl (lv_at hl 2 rfl) ?_
          refine sg_calli (va_runV (As := [.int r_12, .int x1]) (rest := []) ⟨hx, hb, hml, hown, hts⟩ (kX12_numberOf l D ca za h hh f L Q hI r_12 x1 (by omega) (by omega) H.size) (cwV 2 hts (gw_V (fun _ h => List.mem_cons_of_mem _ h) mw_720 mw_721 mw_722 mw_619 mw_719) rfl rfl rfl (by decide +kernel) ⟨Nat.le_of_ble_eq_true rfl, Nat.le_of_ble_eq_true rfl⟩) (sg_preV (ci := 12) (C := RX12) (T := TX12) (N := 55) hA hK hP hS hZ 0 (by decide) rfl rfl) rfl rfl hl.1 rfl (lv_room (Nat.le_of_ble_eq_true rfl)) dX12_isWanted_32 ⟨Nat.le_refl _, Nat.le_refl _⟩) hA hS (fun r_24 f_21 L_22 Q_23 H locs hq hP hS => ?_)
          obtain ⟨⟨ef9, eL9, eQ9⟩, hq⟩ := hq
          rw [ef9, eL9, eQ9] at hP; clear ef9 eL9 eQ9
          refine lv_iload_n hx hb dX12_isWanted_35 rfl (lv_at hl 3 rfl) ?_
          refine lv_icmp_ne (tgt := 41) hx hb dX12_isWanted_36 (by decide) (fun c => ?_) (fun c => ?_)
          · skip
            have c_25 : r_24.toInt ≠ x2.toInt := (by have z := bn_ne c; omega)
            exact blk_41 y4_3 _ _ _ (by omega) (by omega) hP hS (lv_sub hl [0, 1, 2, 3, 4] rfl)
          · skip
            have c_26 : r_24.toInt = x2.toInt := (by have z := Int32.toInt_inj.mpr c; omega)
            refine lv_iconst (v := 1) hx hb dX12_isWanted_39 (by decide) ?_
            have k99 : (1 : Int32).toInt = 1 := (by decide)
            exact hret _ _ _ _ (1) f L Q dX12_isWanted_40 (by decide) hP hS ⟨⟨rfl, rfl, rfl⟩, (by decide)⟩
  refine lv_iconst (v := 0) hx hb dX12_isWanted_0 (by decide) ?_
  refine lv_istore (lv' := [(4, .int 0), (0, .ref (h 0)), (1, .int x0), (2, .int x1), (3, .int x2)]) hx hb dX12_isWanted_1 hl (by decide) rfl (fun ls hl => ?_)
  exact loop_3 22 0 _ _ _ (by have kc0 : (0 : Int32).toInt = 0 := (by decide); omega) (by decide) hP hS (lv_sub hl [1, 2, 3, 4, 0] rfl)

set_option maxHeartbeats 4000000 in
set_option maxRecDepth 100000 in
theorem kX12_middle (l : Launch) (D : va_G) (ca : Nat → ClassId) (za h : Nat → Nat) (hh : sgH 26 h) (f : sg_F) (L : sg_L) (Q : sg_Q) (hI : sgI loM hiM f) (x0 : Int32) (x1 : Int32) (sz : Nat) : Met l yX12_middle gwX12_middle { frames := 4, cells := 0, slots := 0, locals := 97 } (sgP D vwCl (tyX ca) 26 h (eM ca h) zcM za f L Q sz [.ref (h 0), .int x0, .int x1]) (sgQi D vwCl 26 h (eM ca h) sz (fun r f1 L1 Q1 => ((f1 = f ∧ L1 = L ∧ Q1 = Q) ∧ ((-12) ≤ r.toInt ∧ r.toInt ≤ 60)))) 0 0 (sgA 26 h sz) := by
  refine sg_ofWi (cc := cX12_middle) (maxL := 5) RX12 (by decide) rfl rfl (Nat.le_of_ble_eq_true rfl) ?_
  intro p e s m below meth cd Qz ls hx hb hml hown hts hK hZ hP hS hl hret
  have hA := sgY.self (n := 26) (h := h) (sz := s.heap.size)
  have hl : lv_has ls 5 [(0, .ref (h 0)), (1, .int x0), (2, .int x1)] := hl
  obtain ⟨H, hH⟩ : ∃ z : Heap, z = s.heap := ⟨_, rfl⟩
  obtain ⟨locs, hlo⟩ : ∃ z : List Loc, z = [] := ⟨_, rfl⟩
  have hP : va_P D vwCl (sgw 26 h (eM ca h) f L Q) H := by rw [hH]; exact hP
  have hS : va_S (sgA 26 h s.heap.size) s.heap H locs := by rw [hH, hlo]; exact hS
  suffices hgo : W p l e ({ frames := 4, cells := 0, slots := 0, locals := 97 }) s m ([.ref (h 0), .int x0, .int x1] : List Value).toArray below meth cd H locs 0 0 Qz (F0 m 0 ls []) by rw [hH, hlo] at hgo; exact hgo
  clear hH hlo
  have loop_44 : ∀ (n_44 : Nat) (y3_44 : Int32) (y4_44 : Int32) (H : Heap) (locs : List Loc) (ls : Array Slot), 61 - y4_44.toInt < (n_44 : Int) → 0 ≤ x0.toInt ∧ x0.toInt ≤ 5 → 0 ≤ x1.toInt ∧ x1.toInt ≤ 2 → 0 ≤ y4_44.toInt ∧ y4_44.toInt ≤ 61 → va_P D vwCl (sgw 26 h (eM ca h) f L Q) H → va_S (sgA 26 h s.heap.size) s.heap H locs → lv_has ls 5 [(0, .ref (h 0)), (1, .int x0), (2, .int x1), (3, .int y3_44), (4, .int y4_44)] → W p l e ({ frames := 4, cells := 0, slots := 0, locals := 97 }) s m ([.ref (h 0), .int x0, .int x1] : List Value).toArray below meth cd H locs 0 0 Qz (F0 m 44 ls []) := by
    intro n_44
    induction n_44 with
    | zero => intro y3_44 y4_44 H locs ls hm_44 hy0_44 hy1_44 hy2_44 hP hS hl; exact absurd hm_44 (by omega)
    | succ n_44 ih_44 =>
      have blk_79 : ∀ (y3_79 : Int32) (y4_79 : Int32) (H : Heap) (locs : List Loc) (ls : Array Slot), 61 - y4_79.toInt < ((n_44 + 1 : Nat) : Int) → 0 ≤ x0.toInt ∧ x0.toInt ≤ 5 → 0 ≤ x1.toInt ∧ x1.toInt ≤ 2 → 0 ≤ y4_79.toInt ∧ y4_79.toInt ≤ 60 → va_P D vwCl (sgw 26 h (eM ca h) f L Q) H → va_S (sgA 26 h s.heap.size) s.heap H locs → lv_has ls 5 [(0, .ref (h 0)), (1, .int x0), (2, .int x1), (3, .int y3_79), (4, .int y4_79)] → W p l e ({ frames := 4, cells := 0, slots := 0, locals := 97 }) s m ([.ref (h 0), .int x0, .int x1] : List Value).toArray below meth cd H locs 0 0 Qz (F0 m 79 ls []) := by
        intro y3_79 y4_79 H locs ls hm_44 hy0_79 hy1_79 hy2_79 hP hS hl
        obtain ⟨v_1, ev_1⟩ : ∃ z : Int32, z = y4_79 + 1 := ⟨_, rfl⟩
        have q_2 : v_1.toInt = y4_79.toInt + 1 := by rw [ev_1]; exact (bn_addc y4_79 1 (by decide) (by omega) (by omega))
        refine lv_iinc (v := v_1) (lv' := [(4, .int v_1), (0, .ref (h 0)), (1, .int x0), (2, .int x1), (3, .int y3_79)]) hx hb dX12_middle_79 hl (k := 4) rfl (by rw [ev_1]; rfl) (by decide) rfl (fun ls hl => ?_)
        refine lv_goto (tgt := 44) hx hb dX12_middle_82 (by decide) ?_
        exact ih_44 y3_79 v_1 _ _ _ (by omega) (by omega) (by omega) (by omega) hP hS (lv_sub hl [1, 2, 3, 4, 0] rfl)
      intro y3_44 y4_44 H locs ls hm_44 hy0_44 hy1_44 hy2_44 hP hS hl
      refine lv_iload hx hb dX12_middle_44 (lv_at hl 4 rfl) ?_
      refine lv_bipush (v := 61) hx hb dX12_middle_46 (by decide) ?_
      refine lv_icmp_ge (tgt := 85) hx hb dX12_middle_48 (by decide) (fun c => ?_) (fun c => ?_)
      · skip
        have c_3 : 61 ≤ y4_44.toInt := (by have z := bn_le c; have k1 : (61 : Int32).toInt = 61 := (by decide); omega)
        refine lv_bipush (v := (-2)) hx hb dX12_middle_85 (by decide) ?_
        have k99 : ((-2) : Int32).toInt = (-2) := (by decide)
        exact hret _ _ _ _ (-2) f L Q dX12_middle_87 hP hS ⟨⟨rfl, rfl, rfl⟩, (by decide)⟩
      · skip
        have c_4 : y4_44.toInt < 61 := (by have z := bn_nle c; have k1 : (61 : Int32).toInt = 61 := (by decide); omega)
        refine lv_aload_n hx hb dX12_middle_51 rfl (lv_at hl 0 rfl) ?_
        refine lv_iload_n hx hb dX12_middle_52 rfl (lv_at hl 1 rfl) ?_
        refine lv_iload_n hx hb dX12_middle_53 rfl (lv_at hl 2 rfl) ?_
        refine lv_iload hx hb dX12_middle_54 (lv_at hl 4 rfl) ?_
        refine sg_calli (va_runV (As := [.int x0, .int x1, .int y4_44]) (rest := []) ⟨hx, hb, hml, hown, hts⟩ (kX12_isWanted l D ca za h hh f L Q hI x0 x1 y4_44 (by omega) (by omega) (by omega) H.size) (cwV 3 hts (gw_V (fun _ h => List.mem_cons_of_mem _ h) mw_823 mw_824 mw_825 mw_619 mw_822) rfl rfl rfl (by decide +kernel) ⟨Nat.le_of_ble_eq_true rfl, Nat.le_of_ble_eq_true rfl⟩) (sg_preV (ci := 12) (C := RX12) (T := TX12) (N := 55) hA hK hP hS hZ 0 (by decide) rfl rfl) rfl rfl hl.1 rfl (lv_room (Nat.le_of_ble_eq_true rfl)) dX12_middle_56 ⟨Nat.le_refl _, Nat.le_refl _⟩) hA hS (fun r_8 f_5 L_6 Q_7 H locs hq hP hS => ?_)
        obtain ⟨⟨ef9, eL9, eQ9⟩, hq⟩ := hq
        rw [ef9, eL9, eQ9] at hP; clear ef9 eL9 eQ9
        refine lv_if_eq (tgt := 79) hx hb dX12_middle_59 (by decide) (fun c => ?_) (fun c => ?_)
        · skip
          have c_9 : r_8.toInt = 0 := (by have z := Int32.toInt_inj.mpr c; have k1 : (0 : Int32).toInt = 0 := (by decide); omega)
          exact blk_79 y3_44 y4_44 _ _ _ (by omega) (by omega) (by omega) (by omega) hP hS (lv_sub hl [0, 1, 2, 3, 4] rfl)
        · skip
          have c_10 : r_8.toInt ≠ 0 := (by have z := bn_ne c; have k1 : (0 : Int32).toInt = 0 := (by decide); omega)
          refine lv_iconst (v := 2) hx hb dX12_middle_62 (by decide) ?_
          refine lv_aload_n hx hb dX12_middle_63 rfl (lv_at hl 0 rfl) ?_
          refine lv_iload_n hx hb dX12_middle_64 rfl (lv_at hl 1 rfl) ?_
          refine lv_iload_n hx hb dX12_middle_65 rfl (lv_at hl 2 rfl) ?_
          refine lv_iload hx hb dX12_middle_66 (lv_at hl 4 rfl) ?_
          refine sg_calli (va_runV (As := [.int x0, .int x1, .int y4_44]) (rest := [.int 2]) ⟨hx, hb, hml, hown, hts⟩ (kX12_weightTo l D ca za h hh f L Q hI x0 x1 y4_44 (by omega) (by omega) (by omega) H.size) (cwV 3 hts (gw_V (fun _ h => List.mem_cons_of_mem _ h) mw_767 mw_768 mw_769 mw_619 mw_766) rfl rfl rfl (by decide +kernel) ⟨Nat.le_of_ble_eq_true rfl, Nat.le_of_ble_eq_true rfl⟩) (sg_preV (ci := 12) (C := RX12) (T := TX12) (N := 55) hA hK hP hS hZ 0 (by decide) rfl rfl) rfl rfl hl.1 rfl (lv_room (Nat.le_of_ble_eq_true rfl)) dX12_middle_68 ⟨Nat.le_refl _, Nat.le_refl _⟩) hA hS (fun r_14 f_11 L_12 Q_13 H locs hq hP hS => ?_)
          obtain ⟨⟨ef9, eL9, eQ9⟩, hq⟩ := hq
          rw [ef9, eL9, eQ9] at hP; clear ef9 eL9 eQ9
          refine lv_imul hx hb dX12_middle_71 ?_
          refine lv_topi (fun v_15 ev_15 => ?_)
          refine lv_iload_n hx hb dX12_middle_72 rfl (lv_at hl 3 rfl) ?_
          refine lv_icmp_lt (tgt := 79) hx hb dX12_middle_73 (by decide) (fun c => ?_) (fun c => ?_)
          · skip
            have c_16 : v_15.toInt < y3_44.toInt := (by have z := bn_lt c; omega)
            exact blk_79 y3_44 y4_44 _ _ _ (by omega) (by omega) (by omega) (by omega) hP hS (lv_sub hl [0, 1, 2, 3, 4] rfl)
          · skip
            have c_17 : y3_44.toInt ≤ v_15.toInt := (by have z := bn_nlt c; omega)
            refine lv_iload hx hb dX12_middle_76 (lv_at hl 4 rfl) ?_
            exact hret _ _ _ _ (y4_44) f L Q dX12_middle_78 hP hS ⟨⟨rfl, rfl, rfl⟩, (by omega)⟩
  refine lv_aload_n hx hb dX12_middle_0 rfl (lv_at hl 0 rfl) ?_
  refine lv_iload_n hx hb dX12_middle_1 rfl (lv_at hl 1 rfl) ?_
  refine sg_calli (va_runV (As := [.int x0]) (rest := []) ⟨hx, hb, hml, hown, hts⟩ (kX12_bytesIs l D ca za h hh f L Q hI x0 H.size) (cwV 1 hts (gw_V (fun _ h => List.mem_cons_of_mem _ h) mw_685 mw_686 mw_687 mw_619 mw_684) rfl rfl rfl (by decide +kernel) ⟨Nat.le_of_ble_eq_true rfl, Nat.le_of_ble_eq_true rfl⟩) (sg_preV (ci := 12) (C := RX12) (T := TX12) (N := 55) hA hK hP hS hZ 0 (by decide) rfl rfl) rfl rfl hl.1 rfl (lv_room (Nat.le_of_ble_eq_true rfl)) dX12_middle_2 ⟨Nat.le_refl _, Nat.le_refl _⟩) hA hS (fun r_21 f_18 L_19 Q_20 H locs hq hP hS => ?_)
  obtain ⟨⟨ef9, eL9, eQ9⟩, hq⟩ := hq
  rw [ef9, eL9, eQ9] at hP; clear ef9 eL9 eQ9
  rcases hq with ⟨rfl, hq⟩ | hq | ⟨rfl, hq⟩
  · skip
    have q_22 := hq
    refine lv_iconst (v := (-1)) hx hb dX12_middle_5 (by decide) ?_
    refine lv_icmp_eq (tgt := 16) hx hb dX12_middle_6 (by decide) (fun c => absurd c (by decide)) (fun c => ?_)
    refine lv_iload_n hx hb dX12_middle_9 rfl (lv_at hl 2 rfl) ?_
    refine sg_calli (va_runS (As := [.int x1]) (rest := []) ⟨hx, hb, hml, hown, hts⟩ (kX12_isPart l D ca za h hh f L Q hI x1 H.size) (va_cwS 1 hts (gw_S (fun _ h => List.mem_cons_of_mem _ h) mw_636 mw_637 mw_619 mw_635) rfl rfl rfl (by decide +kernel) ⟨Nat.le_of_ble_eq_true rfl, Nat.le_of_ble_eq_true rfl⟩) (sg_preS hA hK hP hS hZ) rfl rfl hl.1 rfl (lv_room (Nat.le_of_ble_eq_true rfl)) dX12_middle_10 ⟨Nat.le_refl _, Nat.le_refl _⟩) hA hS (fun r_26 f_23 L_24 Q_25 H locs hq hP hS => ?_)
    obtain ⟨⟨ef9, eL9, eQ9⟩, hq⟩ := hq
    rw [ef9, eL9, eQ9] at hP; clear ef9 eL9 eQ9
    rcases hq with ⟨rfl, hq⟩ | ⟨rfl, hq⟩
    · skip
      have q_27 := hq
      refine lv_if_ne (tgt := 18) hx hb dX12_middle_13 (by decide) (fun c => ?_) (fun c => absurd c (by decide))
      refine lv_aload_n hx hb dX12_middle_18 rfl (lv_at hl 0 rfl) ?_
      refine lv_iload_n hx hb dX12_middle_19 rfl (lv_at hl 1 rfl) ?_
      refine sg_calli (va_runV (As := [.int x0]) (rest := []) ⟨hx, hb, hml, hown, hts⟩ (kX12_bytesIs l D ca za h hh f L Q hI x0 H.size) (cwV 1 hts (gw_V (fun _ h => List.mem_cons_of_mem _ h) mw_685 mw_686 mw_687 mw_619 mw_684) rfl rfl rfl (by decide +kernel) ⟨Nat.le_of_ble_eq_true rfl, Nat.le_of_ble_eq_true rfl⟩) (sg_preV (ci := 12) (C := RX12) (T := TX12) (N := 55) hA hK hP hS hZ 0 (by decide) rfl rfl) rfl rfl hl.1 rfl (lv_room (Nat.le_of_ble_eq_true rfl)) dX12_middle_20 ⟨Nat.le_refl _, Nat.le_refl _⟩) hA hS (fun r_31 f_28 L_29 Q_30 H locs hq hP hS => ?_)
      obtain ⟨⟨ef9, eL9, eQ9⟩, hq⟩ := hq
      rw [ef9, eL9, eQ9] at hP; clear ef9 eL9 eQ9
      rcases hq with ⟨rfl, hq⟩ | hq | ⟨rfl, hq⟩
      · skip
        have q_32 := hq
        refine lv_if_ge (tgt := 32) hx hb dX12_middle_23 (by decide) (fun c => ?_) (fun c => absurd c (by decide))
        refine lv_aload_n hx hb dX12_middle_32 rfl (lv_at hl 0 rfl) ?_
        refine lv_iload_n hx hb dX12_middle_33 rfl (lv_at hl 1 rfl) ?_
        refine lv_iload_n hx hb dX12_middle_34 rfl (lv_at hl 2 rfl) ?_
        refine lv_bipush (v := 60) hx hb dX12_middle_35 (by decide) ?_
        refine sg_calli (va_runV (As := [.int x0, .int x1, .int 60]) (rest := []) ⟨hx, hb, hml, hown, hts⟩ (kX12_weightTo l D ca za h hh f L Q hI x0 x1 60 (by omega) (by omega) (by decide) H.size) (cwV 3 hts (gw_V (fun _ h => List.mem_cons_of_mem _ h) mw_767 mw_768 mw_769 mw_619 mw_766) rfl rfl rfl (by decide +kernel) ⟨Nat.le_of_ble_eq_true rfl, Nat.le_of_ble_eq_true rfl⟩) (sg_preV (ci := 12) (C := RX12) (T := TX12) (N := 55) hA hK hP hS hZ 0 (by decide) rfl rfl) rfl rfl hl.1 rfl (lv_room (Nat.le_of_ble_eq_true rfl)) dX12_middle_37 ⟨Nat.le_refl _, Nat.le_refl _⟩) hA hS (fun r_36 f_33 L_34 Q_35 H locs hq hP hS => ?_)
        obtain ⟨⟨ef9, eL9, eQ9⟩, hq⟩ := hq
        rw [ef9, eL9, eQ9] at hP; clear ef9 eL9 eQ9
        refine lv_istore_n (lv' := [(3, .int r_36), (0, .ref (h 0)), (1, .int x0), (2, .int x1)]) hx hb dX12_middle_40 rfl hl (by decide) rfl (fun ls hl => ?_)
        refine lv_iconst (v := 0) hx hb dX12_middle_41 (by decide) ?_
        refine lv_istore (lv' := [(4, .int 0), (3, .int r_36), (0, .ref (h 0)), (1, .int x0), (2, .int x1)]) hx hb dX12_middle_42 hl (by decide) rfl (fun ls hl => ?_)
        exact loop_44 62 r_36 0 _ _ _ (by have kc1 : (0 : Int32).toInt = 0 := (by decide); omega) (by omega) (by omega) (by decide) hP hS (lv_sub hl [2, 3, 4, 1, 0] rfl)
      · skip
        have q_37 := hq
        refine lv_if_ge (tgt := 32) hx hb dX12_middle_23 (by decide) (fun c => ?_) (fun c => ?_)
        · skip
          exfalso; have c_38 : 0 ≤ r_31.toInt := (by have z := bn_le c; have k1 : (0 : Int32).toInt = 0 := (by decide); omega); omega
        · skip
          have c_39 : r_31.toInt < 0 := (by have z := bn_nle c; have k1 : (0 : Int32).toInt = 0 := (by decide); omega)
          refine lv_aload_n hx hb dX12_middle_26 rfl (lv_at hl 0 rfl) ?_
          refine lv_iload_n hx hb dX12_middle_27 rfl (lv_at hl 1 rfl) ?_
          refine sg_calli (va_runV (As := [.int x0]) (rest := []) ⟨hx, hb, hml, hown, hts⟩ (kX12_bytesIs l D ca za h hh f L Q hI x0 H.size) (cwV 1 hts (gw_V (fun _ h => List.mem_cons_of_mem _ h) mw_685 mw_686 mw_687 mw_619 mw_684) rfl rfl rfl (by decide +kernel) ⟨Nat.le_of_ble_eq_true rfl, Nat.le_of_ble_eq_true rfl⟩) (sg_preV (ci := 12) (C := RX12) (T := TX12) (N := 55) hA hK hP hS hZ 0 (by decide) rfl rfl) rfl rfl hl.1 rfl (lv_room (Nat.le_of_ble_eq_true rfl)) dX12_middle_28 ⟨Nat.le_refl _, Nat.le_refl _⟩) hA hS (fun r_43 f_40 L_41 Q_42 H locs hq hP hS => ?_)
          obtain ⟨⟨ef9, eL9, eQ9⟩, hq⟩ := hq
          rw [ef9, eL9, eQ9] at hP; clear ef9 eL9 eQ9
          rcases hq with ⟨rfl, hq⟩ | hq | ⟨rfl, hq⟩
          · skip
            have q_44 := hq
            have k99 : (1 : Int32).toInt = 1 := (by decide)
            exact hret _ _ _ _ (1) f L Q dX12_middle_31 hP hS ⟨⟨rfl, rfl, rfl⟩, (by decide)⟩
          · skip
            have q_45 := hq
            exact hret _ _ _ _ (r_43) f L Q dX12_middle_31 hP hS ⟨⟨rfl, rfl, rfl⟩, (by omega)⟩
          · skip
            have q_46 := hq
            have k99 : ((-1) : Int32).toInt = (-1) := (by decide)
            exact hret _ _ _ _ (-1) f L Q dX12_middle_31 hP hS ⟨⟨rfl, rfl, rfl⟩, (by decide)⟩
      · skip
        have q_47 := hq
        refine lv_if_ge (tgt := 32) hx hb dX12_middle_23 (by decide) (fun c => absurd c (by decide)) (fun c => ?_)
        refine lv_aload_n hx hb dX12_middle_26 rfl (lv_at hl 0 rfl) ?_
        refine lv_iload_n hx hb dX12_middle_27 rfl (lv_at hl 1 rfl) ?_
        refine sg_calli (va_runV (As := [.int x0]) (rest := []) ⟨hx, hb, hml, hown, hts⟩ (kX12_bytesIs l D ca za h hh f L Q hI x0 H.size) (cwV 1 hts (gw_V (fun _ h => List.mem_cons_of_mem _ h) mw_685 mw_686 mw_687 mw_619 mw_684) rfl rfl rfl (by decide +kernel) ⟨Nat.le_of_ble_eq_true rfl, Nat.le_of_ble_eq_true rfl⟩) (sg_preV (ci := 12) (C := RX12) (T := TX12) (N := 55) hA hK hP hS hZ 0 (by decide) rfl rfl) rfl rfl hl.1 rfl (lv_room (Nat.le_of_ble_eq_true rfl)) dX12_middle_28 ⟨Nat.le_refl _, Nat.le_refl _⟩) hA hS (fun r_51 f_48 L_49 Q_50 H locs hq hP hS => ?_)
        obtain ⟨⟨ef9, eL9, eQ9⟩, hq⟩ := hq
        rw [ef9, eL9, eQ9] at hP; clear ef9 eL9 eQ9
        rcases hq with ⟨rfl, hq⟩ | hq | ⟨rfl, hq⟩
        · skip
          have q_52 := hq
          have k99 : (1 : Int32).toInt = 1 := (by decide)
          exact hret _ _ _ _ (1) f L Q dX12_middle_31 hP hS ⟨⟨rfl, rfl, rfl⟩, (by decide)⟩
        · skip
          have q_53 := hq
          exact hret _ _ _ _ (r_51) f L Q dX12_middle_31 hP hS ⟨⟨rfl, rfl, rfl⟩, (by omega)⟩
        · skip
          have q_54 := hq
          have k99 : ((-1) : Int32).toInt = (-1) := (by decide)
          exact hret _ _ _ _ (-1) f L Q dX12_middle_31 hP hS ⟨⟨rfl, rfl, rfl⟩, (by decide)⟩
    · skip
      have q_55 := hq
      refine lv_if_ne (tgt := 18) hx hb dX12_middle_13 (by decide) (fun c => absurd c (by decide)) (fun c => ?_)
      refine lv_iconst (v := (-1)) hx hb dX12_middle_16 (by decide) ?_
      have k99 : ((-1) : Int32).toInt = (-1) := (by decide)
      exact hret _ _ _ _ (-1) f L Q dX12_middle_17 hP hS ⟨⟨rfl, rfl, rfl⟩, (by decide)⟩
  · skip
    have q_56 := hq
    refine lv_iconst (v := (-1)) hx hb dX12_middle_5 (by decide) ?_
    refine lv_icmp_eq (tgt := 16) hx hb dX12_middle_6 (by decide) (fun c => ?_) (fun c => ?_)
    · skip
      exfalso; have c_57 : r_21.toInt = (-1) := (by have z := Int32.toInt_inj.mpr c; have k1 : ((-1) : Int32).toInt = (-1) := (by decide); omega); omega
    · skip
      have c_58 : r_21.toInt ≠ (-1) := (by have z := bn_ne c; have k1 : ((-1) : Int32).toInt = (-1) := (by decide); omega)
      refine lv_iload_n hx hb dX12_middle_9 rfl (lv_at hl 2 rfl) ?_
      refine sg_calli (va_runS (As := [.int x1]) (rest := []) ⟨hx, hb, hml, hown, hts⟩ (kX12_isPart l D ca za h hh f L Q hI x1 H.size) (va_cwS 1 hts (gw_S (fun _ h => List.mem_cons_of_mem _ h) mw_636 mw_637 mw_619 mw_635) rfl rfl rfl (by decide +kernel) ⟨Nat.le_of_ble_eq_true rfl, Nat.le_of_ble_eq_true rfl⟩) (sg_preS hA hK hP hS hZ) rfl rfl hl.1 rfl (lv_room (Nat.le_of_ble_eq_true rfl)) dX12_middle_10 ⟨Nat.le_refl _, Nat.le_refl _⟩) hA hS (fun r_62 f_59 L_60 Q_61 H locs hq hP hS => ?_)
      obtain ⟨⟨ef9, eL9, eQ9⟩, hq⟩ := hq
      rw [ef9, eL9, eQ9] at hP; clear ef9 eL9 eQ9
      rcases hq with ⟨rfl, hq⟩ | ⟨rfl, hq⟩
      · skip
        have q_63 := hq
        refine lv_if_ne (tgt := 18) hx hb dX12_middle_13 (by decide) (fun c => ?_) (fun c => absurd c (by decide))
        refine lv_aload_n hx hb dX12_middle_18 rfl (lv_at hl 0 rfl) ?_
        refine lv_iload_n hx hb dX12_middle_19 rfl (lv_at hl 1 rfl) ?_
        refine sg_calli (va_runV (As := [.int x0]) (rest := []) ⟨hx, hb, hml, hown, hts⟩ (kX12_bytesIs l D ca za h hh f L Q hI x0 H.size) (cwV 1 hts (gw_V (fun _ h => List.mem_cons_of_mem _ h) mw_685 mw_686 mw_687 mw_619 mw_684) rfl rfl rfl (by decide +kernel) ⟨Nat.le_of_ble_eq_true rfl, Nat.le_of_ble_eq_true rfl⟩) (sg_preV (ci := 12) (C := RX12) (T := TX12) (N := 55) hA hK hP hS hZ 0 (by decide) rfl rfl) rfl rfl hl.1 rfl (lv_room (Nat.le_of_ble_eq_true rfl)) dX12_middle_20 ⟨Nat.le_refl _, Nat.le_refl _⟩) hA hS (fun r_67 f_64 L_65 Q_66 H locs hq hP hS => ?_)
        obtain ⟨⟨ef9, eL9, eQ9⟩, hq⟩ := hq
        rw [ef9, eL9, eQ9] at hP; clear ef9 eL9 eQ9
        rcases hq with ⟨rfl, hq⟩ | hq | ⟨rfl, hq⟩
        · skip
          have q_68 := hq
          refine lv_if_ge (tgt := 32) hx hb dX12_middle_23 (by decide) (fun c => ?_) (fun c => absurd c (by decide))
          refine lv_aload_n hx hb dX12_middle_32 rfl (lv_at hl 0 rfl) ?_
          refine lv_iload_n hx hb dX12_middle_33 rfl (lv_at hl 1 rfl) ?_
          refine lv_iload_n hx hb dX12_middle_34 rfl (lv_at hl 2 rfl) ?_
          refine lv_bipush (v := 60) hx hb dX12_middle_35 (by decide) ?_
          refine sg_calli (va_runV (As := [.int x0, .int x1, .int 60]) (rest := []) ⟨hx, hb, hml, hown, hts⟩ (kX12_weightTo l D ca za h hh f L Q hI x0 x1 60 (by omega) (by omega) (by decide) H.size) (cwV 3 hts (gw_V (fun _ h => List.mem_cons_of_mem _ h) mw_767 mw_768 mw_769 mw_619 mw_766) rfl rfl rfl (by decide +kernel) ⟨Nat.le_of_ble_eq_true rfl, Nat.le_of_ble_eq_true rfl⟩) (sg_preV (ci := 12) (C := RX12) (T := TX12) (N := 55) hA hK hP hS hZ 0 (by decide) rfl rfl) rfl rfl hl.1 rfl (lv_room (Nat.le_of_ble_eq_true rfl)) dX12_middle_37 ⟨Nat.le_refl _, Nat.le_refl _⟩) hA hS (fun r_72 f_69 L_70 Q_71 H locs hq hP hS => ?_)
          obtain ⟨⟨ef9, eL9, eQ9⟩, hq⟩ := hq
          rw [ef9, eL9, eQ9] at hP; clear ef9 eL9 eQ9
          refine lv_istore_n (lv' := [(3, .int r_72), (0, .ref (h 0)), (1, .int x0), (2, .int x1)]) hx hb dX12_middle_40 rfl hl (by decide) rfl (fun ls hl => ?_)
          refine lv_iconst (v := 0) hx hb dX12_middle_41 (by decide) ?_
          refine lv_istore (lv' := [(4, .int 0), (3, .int r_72), (0, .ref (h 0)), (1, .int x0), (2, .int x1)]) hx hb dX12_middle_42 hl (by decide) rfl (fun ls hl => ?_)
          exact loop_44 62 r_72 0 _ _ _ (by have kc1 : (0 : Int32).toInt = 0 := (by decide); omega) (by omega) (by omega) (by decide) hP hS (lv_sub hl [2, 3, 4, 1, 0] rfl)
        · skip
          have q_73 := hq
          refine lv_if_ge (tgt := 32) hx hb dX12_middle_23 (by decide) (fun c => ?_) (fun c => ?_)
          · skip
            exfalso; have c_74 : 0 ≤ r_67.toInt := (by have z := bn_le c; have k1 : (0 : Int32).toInt = 0 := (by decide); omega); omega
          · skip
            have c_75 : r_67.toInt < 0 := (by have z := bn_nle c; have k1 : (0 : Int32).toInt = 0 := (by decide); omega)
            refine lv_aload_n hx hb dX12_middle_26 rfl (lv_at hl 0 rfl) ?_
            refine lv_iload_n hx hb dX12_middle_27 rfl (lv_at hl 1 rfl) ?_
            refine sg_calli (va_runV (As := [.int x0]) (rest := []) ⟨hx, hb, hml, hown, hts⟩ (kX12_bytesIs l D ca za h hh f L Q hI x0 H.size) (cwV 1 hts (gw_V (fun _ h => List.mem_cons_of_mem _ h) mw_685 mw_686 mw_687 mw_619 mw_684) rfl rfl rfl (by decide +kernel) ⟨Nat.le_of_ble_eq_true rfl, Nat.le_of_ble_eq_true rfl⟩) (sg_preV (ci := 12) (C := RX12) (T := TX12) (N := 55) hA hK hP hS hZ 0 (by decide) rfl rfl) rfl rfl hl.1 rfl (lv_room (Nat.le_of_ble_eq_true rfl)) dX12_middle_28 ⟨Nat.le_refl _, Nat.le_refl _⟩) hA hS (fun r_79 f_76 L_77 Q_78 H locs hq hP hS => ?_)
            obtain ⟨⟨ef9, eL9, eQ9⟩, hq⟩ := hq
            rw [ef9, eL9, eQ9] at hP; clear ef9 eL9 eQ9
            rcases hq with ⟨rfl, hq⟩ | hq | ⟨rfl, hq⟩
            · skip
              have q_80 := hq
              have k99 : (1 : Int32).toInt = 1 := (by decide)
              exact hret _ _ _ _ (1) f L Q dX12_middle_31 hP hS ⟨⟨rfl, rfl, rfl⟩, (by decide)⟩
            · skip
              have q_81 := hq
              exact hret _ _ _ _ (r_79) f L Q dX12_middle_31 hP hS ⟨⟨rfl, rfl, rfl⟩, (by omega)⟩
            · skip
              have q_82 := hq
              have k99 : ((-1) : Int32).toInt = (-1) := (by decide)
              exact hret _ _ _ _ (-1) f L Q dX12_middle_31 hP hS ⟨⟨rfl, rfl, rfl⟩, (by decide)⟩
        · skip
          have q_83 := hq
          refine lv_if_ge (tgt := 32) hx hb dX12_middle_23 (by decide) (fun c => absurd c (by decide)) (fun c => ?_)
          refine lv_aload_n hx hb dX12_middle_26 rfl (lv_at hl 0 rfl) ?_
          refine lv_iload_n hx hb dX12_middle_27 rfl (lv_at hl 1 rfl) ?_
          refine sg_calli (va_runV (As := [.int x0]) (rest := []) ⟨hx, hb, hml, hown, hts⟩ (kX12_bytesIs l D ca za h hh f L Q hI x0 H.size) (cwV 1 hts (gw_V (fun _ h => List.mem_cons_of_mem _ h) mw_685 mw_686 mw_687 mw_619 mw_684) rfl rfl rfl (by decide +kernel) ⟨Nat.le_of_ble_eq_true rfl, Nat.le_of_ble_eq_true rfl⟩) (sg_preV (ci := 12) (C := RX12) (T := TX12) (N := 55) hA hK hP hS hZ 0 (by decide) rfl rfl) rfl rfl hl.1 rfl (lv_room (Nat.le_of_ble_eq_true rfl)) dX12_middle_28 ⟨Nat.le_refl _, Nat.le_refl _⟩) hA hS (fun r_87 f_84 L_85 Q_86 H locs hq hP hS => ?_)
          obtain ⟨⟨ef9, eL9, eQ9⟩, hq⟩ := hq
          rw [ef9, eL9, eQ9] at hP; clear ef9 eL9 eQ9
          rcases hq with ⟨rfl, hq⟩ | hq | ⟨rfl, hq⟩
          · skip
            have q_88 := hq
            have k99 : (1 : Int32).toInt = 1 := (by decide)
            exact hret _ _ _ _ (1) f L Q dX12_middle_31 hP hS ⟨⟨rfl, rfl, rfl⟩, (by decide)⟩
          · skip
            have q_89 := hq
            exact hret _ _ _ _ (r_87) f L Q dX12_middle_31 hP hS ⟨⟨rfl, rfl, rfl⟩, (by omega)⟩
          · skip
            have q_90 := hq
            have k99 : ((-1) : Int32).toInt = (-1) := (by decide)
            exact hret _ _ _ _ (-1) f L Q dX12_middle_31 hP hS ⟨⟨rfl, rfl, rfl⟩, (by decide)⟩
      · skip
        have q_91 := hq
        refine lv_if_ne (tgt := 18) hx hb dX12_middle_13 (by decide) (fun c => absurd c (by decide)) (fun c => ?_)
        refine lv_iconst (v := (-1)) hx hb dX12_middle_16 (by decide) ?_
        have k99 : ((-1) : Int32).toInt = (-1) := (by decide)
        exact hret _ _ _ _ (-1) f L Q dX12_middle_17 hP hS ⟨⟨rfl, rfl, rfl⟩, (by decide)⟩
  · skip
    have q_92 := hq
    refine lv_iconst (v := (-1)) hx hb dX12_middle_5 (by decide) ?_
    refine lv_icmp_eq (tgt := 16) hx hb dX12_middle_6 (by decide) (fun c => ?_) (fun c => absurd c (by decide))
    refine lv_iconst (v := (-1)) hx hb dX12_middle_16 (by decide) ?_
    have k99 : ((-1) : Int32).toInt = (-1) := (by decide)
    exact hret _ _ _ _ (-1) f L Q dX12_middle_17 hP hS ⟨⟨rfl, rfl, rfl⟩, (by decide)⟩

abbrev WkX12_asksLosses : List (Nat × Nat × Option Nat) := [(0, 0, some 12), (0, 0, some 13), (0, 0, some 14), (0, 0, some 15), (0, 0, some 16), (8, 8, none), (9, 9, none)]
set_option maxHeartbeats 4000000 in
set_option maxRecDepth 100000 in
theorem kX12_asksLosses (l : Launch) (D : va_G) (ca : Nat → ClassId) (za h : Nat → Nat) (hh : sgH 26 h) (f : sg_F) (L : sg_L) (Q : sg_Q) (hI : sgI loM hiM f) (x0 : Int32) (x1 : Int32) (b0 : 0 ≤ x0.toInt ∧ x0.toInt ≤ 5) (b1 : 0 ≤ x1.toInt ∧ x1.toInt ≤ 2) (sz : Nat) : Met l yX12_asksLosses gwX12_asksLosses { frames := 45, cells := 0, slots := 0, locals := 1032 } (sgP D vwCl (tyX ca) 26 h (eM ca h) zcM za f L Q sz [.ref (h 0), .int x0, .int x1]) (sgQv D vwCl 26 h (eM ca h) sz (fun f1 L1 Q1 => ((sgI loM hiM f1 ∧ sgK WkX12_asksLosses f f1 ∧ L1 = L ∧ Q1 = Q)))) 0 0 (sgA 26 h sz) := by
  refine sg_ofWv (cc := cX12_asksLosses) (maxL := 5) RX12 (by decide) rfl rfl (Nat.le_of_ble_eq_true rfl) ?_
  intro p e s m below meth cd Qz ls hx hb hml hown hts hK hZ hP hS hl hret
  have hA := sgY.self (n := 26) (h := h) (sz := s.heap.size)
  have hl : lv_has ls 5 [(0, .ref (h 0)), (1, .int x0), (2, .int x1)] := hl
  obtain ⟨H, hH⟩ : ∃ z : Heap, z = s.heap := ⟨_, rfl⟩
  obtain ⟨locs, hlo⟩ : ∃ z : List Loc, z = [] := ⟨_, rfl⟩
  have hP : va_P D vwCl (sgw 26 h (eM ca h) f L Q) H := by rw [hH]; exact hP
  have hS : va_S (sgA 26 h s.heap.size) s.heap H locs := by rw [hH, hlo]; exact hS
  suffices hgo : W p l e ({ frames := 45, cells := 0, slots := 0, locals := 1032 }) s m ([.ref (h 0), .int x0, .int x1] : List Value).toArray below meth cd H locs 0 0 Qz (F0 m 0 ls []) by rw [hH, hlo] at hgo; exact hgo
  clear hH hlo
  have hF : sgK WkX12_asksLosses f f := sgK.rf
  have loop_2 : ∀ (n_2 : Nat) (y3_2 : Int32) (fp_2 : sg_F) (H : Heap) (locs : List Loc) (ls : Array Slot), 21 - y3_2.toInt < (n_2 : Int) → 0 ≤ y3_2.toInt ∧ y3_2.toInt ≤ 21 → sgI loM hiM fp_2 → sgK WkX12_asksLosses f fp_2 → va_P D vwCl (sgw 26 h (eM ca h) fp_2 L Q) H → va_S (sgA 26 h s.heap.size) s.heap H locs → lv_has ls 5 [(0, .ref (h 0)), (1, .int x0), (2, .int x1), (3, .int y3_2)] → W p l e ({ frames := 45, cells := 0, slots := 0, locals := 1032 }) s m ([.ref (h 0), .int x0, .int x1] : List Value).toArray below meth cd H locs 0 0 Qz (F0 m 2 ls []) := by
    intro n_2
    induction n_2 with
    | zero => intro y3_2 fp_2 H locs ls hm_2 hy0_2 hI hF hP hS hl; exact absurd hm_2 (by omega)
    | succ n_2 ih_2 =>
      have loop_14 : ∀ (n_14 : Nat) (y3_14 : Int32) (y4_14 : Int32) (fp_14 : sg_F) (H : Heap) (locs : List Loc) (ls : Array Slot), 61 - y4_14.toInt < (n_14 : Int) → 21 - y3_14.toInt < ((n_2 + 1 : Nat) : Int) → 0 ≤ y3_14.toInt ∧ y3_14.toInt ≤ 20 → 0 ≤ y4_14.toInt ∧ y4_14.toInt ≤ 61 → sgI loM hiM fp_14 → sgK WkX12_asksLosses f fp_14 → va_P D vwCl (sgw 26 h (eM ca h) fp_14 L Q) H → va_S (sgA 26 h s.heap.size) s.heap H locs → lv_has ls 5 [(0, .ref (h 0)), (1, .int x0), (2, .int x1), (3, .int y3_14), (4, .int y4_14)] → W p l e ({ frames := 45, cells := 0, slots := 0, locals := 1032 }) s m ([.ref (h 0), .int x0, .int x1] : List Value).toArray below meth cd H locs 0 0 Qz (F0 m 14 ls []) := by
        intro n_14
        induction n_14 with
        | zero => intro y3_14 y4_14 fp_14 H locs ls hm_14 hm_2 hy0_14 hy1_14 hI hF hP hS hl; exact absurd hm_14 (by omega)
        | succ n_14 ih_14 =>
          intro y3_14 y4_14 fp_14 H locs ls hm_14 hm_2 hy0_14 hy1_14 hI hF hP hS hl
          refine lv_iload hx hb dX12_asksLosses_14 (lv_at hl 4 rfl) ?_
          refine lv_bipush (v := 61) hx hb dX12_asksLosses_16 (by decide) ?_
          refine lv_icmp_ge (tgt := 65) hx hb dX12_asksLosses_18 (by decide) (fun c => ?_) (fun c => ?_)
          · skip
            have c_1 : 61 ≤ y4_14.toInt := (by have z := bn_le c; have k1 : (61 : Int32).toInt = 61 := (by decide); omega)
            obtain ⟨v_3, ev_3⟩ : ∃ z : Int32, z = y3_14 + 1 := ⟨_, rfl⟩
            have q_4 : v_3.toInt = y3_14.toInt + 1 := by rw [ev_3]; exact (bn_addc y3_14 1 (by decide) (by omega) (by omega))
            refine lv_iinc (v := v_3) (lv' := [(3, .int v_3), (0, .ref (h 0)), (1, .int x0), (2, .int x1), (4, .int y4_14)]) hx hb dX12_asksLosses_65 hl (k := 3) rfl (by rw [ev_3]; rfl) (by decide) rfl (fun ls hl => ?_)
            refine lv_goto (tgt := 2) hx hb dX12_asksLosses_68 (by decide) ?_
            exact ih_2 v_3 fp_14 _ _ _ (by omega) (by omega) hI hF hP hS (lv_sub hl [1, 2, 3, 0] rfl)
          · skip
            have c_2 : y4_14.toInt < 61 := (by have z := bn_nle c; have k1 : (61 : Int32).toInt = 61 := (by decide); omega)
            refine lv_aload_n hx hb dX12_asksLosses_21 rfl (lv_at hl 0 rfl) ?_
            refine sg_get (ci := 12) (v := .ref (h 9)) (C := RX12) (T := TX12) (N := 55) hx hb hts (fun w h => List.mem_cons_of_mem _ (gx_12 w h)) hown hK hP 0 (by decide) rfl rfl 18 (by decide) (hts _ (List.mem_cons_of_mem _ mw_783)) (fun _ h9 => h9) rfl dX12_asksLosses_22 ?_
            refine lv_bipush (v := 61) hx hb dX12_asksLosses_25 (by decide) ?_
            refine lv_iload_n hx hb dX12_asksLosses_27 rfl (lv_at hl 3 rfl) ?_
            refine lv_imul hx hb dX12_asksLosses_28 ?_
            refine lv_topi (fun v_5 ev_5 => ?_)
            have q_6 : v_5.toInt = 61 * y3_14.toInt := by rw [ev_5]; exact bn_mulJ (by decide) (by omega) (by omega)
            refine lv_iload hx hb dX12_asksLosses_29 (lv_at hl 4 rfl) ?_
            refine lv_iadd hx hb dX12_asksLosses_31 ?_
            refine lv_topi (fun v_7 ev_7 => ?_)
            have q_8 : v_7.toInt = v_5.toInt + y4_14.toInt := by rw [ev_7]; exact (bn_addI (by omega) (by omega)).trans (by omega)
            refine lv_aload_n hx hb dX12_asksLosses_32 rfl (lv_at hl 0 rfl) ?_
            refine lv_iload_n hx hb dX12_asksLosses_33 rfl (lv_at hl 1 rfl) ?_
            refine lv_iload_n hx hb dX12_asksLosses_34 rfl (lv_at hl 3 rfl) ?_
            refine sg_calli (va_runV (As := [.int x0, .int y3_14]) (rest := [.int v_7, .ref (h 9)]) ⟨hx, hb, hml, hown, hts⟩ (kX12_whoSits l D ca za h hh fp_14 L Q hI x0 y3_14 (by omega) (by omega) H.size) (cwV 2 hts (gw_V (fun _ h => List.mem_cons_of_mem _ h) mw_725 mw_726 mw_727 mw_619 mw_724) rfl rfl rfl (by decide +kernel) ⟨Nat.le_of_ble_eq_true rfl, Nat.le_of_ble_eq_true rfl⟩) (sg_preV (ci := 12) (C := RX12) (T := TX12) (N := 55) hA hK hP hS hZ 0 (by decide) rfl rfl) rfl rfl hl.1 rfl (lv_room (Nat.le_of_ble_eq_true rfl)) dX12_asksLosses_35 ⟨Nat.le_refl _, Nat.le_refl _⟩) hA hS (fun r_12 f_9 L_10 Q_11 H locs hq hP hS => ?_)
            obtain ⟨⟨ef9, eL9, eQ9⟩, hq, u_13⟩ := hq
            rw [ef9, eL9, eQ9] at hP; clear ef9 eL9 eQ9
            refine lv_if_lt (tgt := 57) hx hb dX12_asksLosses_38 (by decide) (fun c => ?_) (fun c => ?_)
            · skip
              have c_14 : r_12.toInt < 0 := (by have z := bn_lt c; have k1 : (0 : Int32).toInt = 0 := (by decide); omega)
              refine lv_iconst (v := 0) hx hb dX12_asksLosses_57 (by decide) ?_
              refine sg_iast hx hb hh hA hK hP hS 9 (by decide) 0 (fun _ => rfl) rfl (i := v_7) (x := 0) (vp_in_iff.mpr ⟨by omega, by omega⟩) dX12_asksLosses_58 (fun f_16 H locs ef_16 hP hS => ?_)
              have hI : sgI loM hiM f_16 := by rw [ef_16]; exact sgI.put hI 9 v_7.toNatClampNeg (bn_top _)
              have hF : sgK WkX12_asksLosses f f_16 := sgK.put hF ef_16 (by rfl)
              obtain ⟨v_17, ev_17⟩ : ∃ z : Int32, z = y4_14 + 1 := ⟨_, rfl⟩
              have q_18 : v_17.toInt = y4_14.toInt + 1 := by rw [ev_17]; exact (bn_addc y4_14 1 (by decide) (by omega) (by omega))
              refine lv_iinc (v := v_17) (lv' := [(4, .int v_17), (0, .ref (h 0)), (1, .int x0), (2, .int x1), (3, .int y3_14)]) hx hb dX12_asksLosses_59 hl (k := 4) rfl (by rw [ev_17]; rfl) (by decide) rfl (fun ls hl => ?_)
              refine lv_goto (tgt := 14) hx hb dX12_asksLosses_62 (by decide) ?_
              exact ih_14 y3_14 v_17 f_16 _ _ _ (by omega) (by omega) (by omega) (by omega) hI hF hP hS (lv_sub hl [1, 2, 3, 4, 0] rfl)
            · skip
              have c_15 : 0 ≤ r_12.toInt := (by have z := bn_nlt c; have k1 : (0 : Int32).toInt = 0 := (by decide); omega)
              refine lv_aload_n hx hb dX12_asksLosses_41 rfl (lv_at hl 0 rfl) ?_
              refine lv_aload_n hx hb dX12_asksLosses_42 rfl (lv_at hl 0 rfl) ?_
              refine lv_iload_n hx hb dX12_asksLosses_43 rfl (lv_at hl 1 rfl) ?_
              refine lv_iload_n hx hb dX12_asksLosses_44 rfl (lv_at hl 3 rfl) ?_
              refine sg_calli (va_runV (As := [.int x0, .int y3_14]) (rest := [.ref (h 0), .int v_7, .ref (h 9)]) ⟨hx, hb, hml, hown, hts⟩ (kX12_whoSits l D ca za h hh fp_14 L Q hI x0 y3_14 (by omega) (by omega) H.size) (cwV 2 hts (gw_V (fun _ h => List.mem_cons_of_mem _ h) mw_725 mw_726 mw_727 mw_619 mw_724) rfl rfl rfl (by decide +kernel) ⟨Nat.le_of_ble_eq_true rfl, Nat.le_of_ble_eq_true rfl⟩) (sg_preV (ci := 12) (C := RX12) (T := TX12) (N := 55) hA hK hP hS hZ 0 (by decide) rfl rfl) rfl rfl hl.1 rfl (lv_room (Nat.le_of_ble_eq_true rfl)) dX12_asksLosses_45 ⟨Nat.le_refl _, Nat.le_refl _⟩) hA hS (fun r_22 f_19 L_20 Q_21 H locs hq hP hS => ?_)
              obtain ⟨⟨ef9, eL9, eQ9⟩, hq, u_23⟩ := hq
              rw [ef9, eL9, eQ9] at hP; clear ef9 eL9 eQ9
              rw [show r_22 = r_12 from u_23.trans u_13.symm]
              refine lv_iload_n hx hb dX12_asksLosses_48 rfl (lv_at hl 2 rfl) ?_
              refine lv_iload hx hb dX12_asksLosses_49 (lv_at hl 4 rfl) ?_
              refine sg_calli (va_runV (As := [.int r_12, .int x1, .int y4_14]) (rest := [.int v_7, .ref (h 9)]) ⟨hx, hb, hml, hown, hts⟩ (kX12_lossOf l D ca za h hh fp_14 L Q hI r_12 x1 y4_14 (by omega) (by omega) (by omega) H.size) (cwV 3 hts (gw_V (fun _ h => List.mem_cons_of_mem _ h) mw_729 mw_730 mw_731 mw_619 mw_728) rfl rfl rfl (by decide +kernel) ⟨Nat.le_of_ble_eq_true rfl, Nat.le_of_ble_eq_true rfl⟩) (sg_preV (ci := 12) (C := RX12) (T := TX12) (N := 55) hA hK hP hS hZ 0 (by decide) rfl rfl) rfl rfl hl.1 rfl (lv_room (Nat.le_of_ble_eq_true rfl)) dX12_asksLosses_51 ⟨Nat.le_refl _, Nat.le_refl _⟩) hA hS (fun r_27 f_24 L_25 Q_26 H locs hq hP hS => ?_)
              obtain ⟨⟨hI, hk_f_24, eL9, eQ9⟩, hq⟩ := hq
              rw [eL9, eQ9] at hP; clear eL9 eQ9
              have hF : sgK WkX12_asksLosses f f_24 := sgK.tr hF hk_f_24 (by decide)
              refine lv_goto (tgt := 58) hx hb dX12_asksLosses_54 (by decide) ?_
              refine sg_iast hx hb hh hA hK hP hS 9 (by decide) 0 (fun _ => rfl) rfl (i := v_7) (x := r_27) (vp_in_iff.mpr ⟨by omega, by omega⟩) dX12_asksLosses_58 (fun f_28 H locs ef_28 hP hS => ?_)
              have hI : sgI loM hiM f_28 := by rw [ef_28]; exact sgI.put hI 9 v_7.toNatClampNeg (bn_top _)
              have hF : sgK WkX12_asksLosses f f_28 := sgK.put hF ef_28 (by rfl)
              obtain ⟨v_29, ev_29⟩ : ∃ z : Int32, z = y4_14 + 1 := ⟨_, rfl⟩
              have q_30 : v_29.toInt = y4_14.toInt + 1 := by rw [ev_29]; exact (bn_addc y4_14 1 (by decide) (by omega) (by omega))
              refine lv_iinc (v := v_29) (lv' := [(4, .int v_29), (0, .ref (h 0)), (1, .int x0), (2, .int x1), (3, .int y3_14)]) hx hb dX12_asksLosses_59 hl (k := 4) rfl (by rw [ev_29]; rfl) (by decide) rfl (fun ls hl => ?_)
              refine lv_goto (tgt := 14) hx hb dX12_asksLosses_62 (by decide) ?_
              exact ih_14 y3_14 v_29 f_28 _ _ _ (by omega) (by omega) (by omega) (by omega) hI hF hP hS (lv_sub hl [1, 2, 3, 4, 0] rfl)
      intro y3_2 fp_2 H locs ls hm_2 hy0_2 hI hF hP hS hl
      refine lv_iload_n hx hb dX12_asksLosses_2 rfl (lv_at hl 3 rfl) ?_
      refine lv_aload_n hx hb dX12_asksLosses_3 rfl (lv_at hl 0 rfl) ?_
      refine lv_iload_n hx hb dX12_asksLosses_4 rfl (lv_at hl 1 rfl) ?_
      refine sg_calli (va_runV (As := [.int x0]) (rest := [.int y3_2]) ⟨hx, hb, hml, hown, hts⟩ (kX12_shiftsOf l D ca za h hh fp_2 L Q hI x0 (by omega) H.size) (cwV 1 hts (gw_V (fun _ h => List.mem_cons_of_mem _ h) mw_714 mw_715 mw_716 mw_619 mw_713) rfl rfl rfl (by decide +kernel) ⟨Nat.le_of_ble_eq_true rfl, Nat.le_of_ble_eq_true rfl⟩) (sg_preV (ci := 12) (C := RX12) (T := TX12) (N := 55) hA hK hP hS hZ 0 (by decide) rfl rfl) rfl rfl hl.1 rfl (lv_room (Nat.le_of_ble_eq_true rfl)) dX12_asksLosses_5 ⟨Nat.le_refl _, Nat.le_refl _⟩) hA hS (fun r_34 f_31 L_32 Q_33 H locs hq hP hS => ?_)
      obtain ⟨⟨ef9, eL9, eQ9⟩, hq⟩ := hq
      rw [ef9, eL9, eQ9] at hP; clear ef9 eL9 eQ9
      refine lv_icmp_ge (tgt := 71) hx hb dX12_asksLosses_8 (by decide) (fun c => ?_) (fun c => ?_)
      · skip
        have c_35 : r_34.toInt ≤ y3_2.toInt := (by have z := bn_le c; omega)
        exact hret _ _ _ _ fp_2 L Q dX12_asksLosses_71 hP hS ⟨hI, hF, rfl, rfl⟩
      · skip
        have c_36 : y3_2.toInt < r_34.toInt := (by have z := bn_nle c; omega)
        refine lv_iconst (v := 0) hx hb dX12_asksLosses_11 (by decide) ?_
        refine lv_istore (lv' := [(4, .int 0), (0, .ref (h 0)), (1, .int x0), (2, .int x1), (3, .int y3_2)]) hx hb dX12_asksLosses_12 hl (by decide) rfl (fun ls hl => ?_)
        exact loop_14 62 y3_2 0 fp_2 _ _ _ (by have kc1 : (0 : Int32).toInt = 0 := (by decide); omega) (by have kc1 : (0 : Int32).toInt = 0 := (by decide); omega) (by omega) (by decide) hI hF hP hS (lv_sub hl [1, 2, 3, 4, 0] rfl)
  refine lv_iconst (v := 0) hx hb dX12_asksLosses_0 (by decide) ?_
  refine lv_istore_n (lv' := [(3, .int 0), (0, .ref (h 0)), (1, .int x0), (2, .int x1)]) hx hb dX12_asksLosses_1 rfl hl (by decide) rfl (fun ls hl => ?_)
  exact loop_2 22 0 f _ _ _ (by have kc0 : (0 : Int32).toInt = 0 := (by decide); omega) (by decide) hI hF hP hS (lv_sub hl [1, 2, 3, 0] rfl)

set_option maxHeartbeats 4000000 in
set_option maxRecDepth 100000 in
theorem kX12_slipped (l : Launch) (D : va_G) (ca : Nat → ClassId) (za h : Nat → Nat) (hh : sgH 26 h) (f : sg_F) (L : sg_L) (Q : sg_Q) (hI : sgI loM hiM f) (x0 : Int32) (x1 : Int32) (b0 : 0 ≤ x0.toInt ∧ x0.toInt ≤ 2) (b1 : (-1) ≤ x1.toInt ∧ x1.toInt ≤ 60) (sz : Nat) : Met l yX12_slipped gwX12_slipped { frames := 0, cells := 0, slots := 0, locals := 0 } (sgP D vwCl (tyX ca) 26 h (eM ca h) zcM za f L Q sz [.ref (h 0), .int x0, .int x1]) (sgQi D vwCl 26 h (eM ca h) sz (fun r f1 L1 Q1 => ((f1 = f ∧ L1 = L ∧ Q1 = Q) ∧ (0 ≤ r.toInt ∧ r.toInt ≤ 60)))) 0 0 (sgA 26 h sz) := by
  refine sg_ofWi (cc := cX12_slipped) (maxL := 4) RX12 (by decide) rfl rfl (Nat.le_of_ble_eq_true rfl) ?_
  intro p e s m below meth cd Qz ls hx hb hml hown hts hK hZ hP hS hl hret
  have hA := sgY.self (n := 26) (h := h) (sz := s.heap.size)
  have hl : lv_has ls 4 [(0, .ref (h 0)), (1, .int x0), (2, .int x1)] := hl
  obtain ⟨H, hH⟩ : ∃ z : Heap, z = s.heap := ⟨_, rfl⟩
  obtain ⟨locs, hlo⟩ : ∃ z : List Loc, z = [] := ⟨_, rfl⟩
  have hP : va_P D vwCl (sgw 26 h (eM ca h) f L Q) H := by rw [hH]; exact hP
  have hS : va_S (sgA 26 h s.heap.size) s.heap H locs := by rw [hH, hlo]; exact hS
  suffices hgo : W p l e ({ frames := 0, cells := 0, slots := 0, locals := 0 }) s m ([.ref (h 0), .int x0, .int x1] : List Value).toArray below meth cd H locs 0 0 Qz (F0 m 0 ls []) by rw [hH, hlo] at hgo; exact hgo
  clear hH hlo
  refine lv_iload_n hx hb dX12_slipped_0 rfl (lv_at hl 2 rfl) ?_
  refine lv_aload_n hx hb dX12_slipped_1 rfl (lv_at hl 0 rfl) ?_
  refine sg_get (ci := 12) (v := .ref (h 1)) (C := RX12) (T := TX12) (N := 55) hx hb hts (fun w h => List.mem_cons_of_mem _ (gx_12 w h)) hown hK hP 0 (by decide) rfl rfl 0 (by decide) (hts _ (List.mem_cons_of_mem _ mw_600)) (fun _ h9 => h9) rfl dX12_slipped_2 ?_
  refine lv_bipush (v := 64) hx hb dX12_slipped_5 (by decide) ?_
  refine lv_iload_n hx hb dX12_slipped_7 rfl (lv_at hl 1 rfl) ?_
  refine lv_iadd hx hb dX12_slipped_8 ?_
  refine lv_topi (fun v_1 ev_1 => ?_)
  have q_2 : v_1.toInt = 64 + x0.toInt := by rw [ev_1]; have k0 : (64 : Int32).toInt = 64 := (by decide); exact (bn_addI (by omega) (by omega)).trans (by omega)
  refine sg_iald hx hb hK hP 1 (by decide) 0 rfl rfl (i := v_1) (vp_in_iff.mpr ⟨by omega, by omega⟩) dX12_slipped_9 ?_
  refine lv_topi (fun v_3 ev_3 => ?_)
  have q_4 : v_1.toInt < 64 → v_3.toInt ≤ 60 := by rw [ev_3]; have z1 := segM1_r hI (j := Int32.toNatClampNeg v_1); have z2 := bn_clI (x := v_1) (by omega); intro z3; exact (z1.2.2 (by omega)).2
  have q_5 : 0 ≤ v_3.toInt ∧ v_3.toInt ≤ 99 := by rw [ev_3]; have z1 := segM1_r hI (j := Int32.toNatClampNeg v_1); have z2 := bn_clI (x := v_1) (by omega); omega
  refine lv_isub hx hb dX12_slipped_10 ?_
  refine lv_topi (fun v_6 ev_6 => ?_)
  have q_7 : v_6.toInt = x1.toInt - v_3.toInt := by rw [ev_6]; exact (bn_subI (by omega) (by omega)).trans (by omega)
  refine lv_istore_n (lv' := [(3, .int v_6), (0, .ref (h 0)), (1, .int x0), (2, .int x1)]) hx hb dX12_slipped_11 rfl hl (by decide) rfl (fun ls hl => ?_)
  refine lv_iload_n hx hb dX12_slipped_12 rfl (lv_at hl 0 rfl) ?_
  refine lv_if_ge (tgt := 20) hx hb dX12_slipped_13 (by decide) (fun c => ?_) (fun c => ?_)
  · skip
    have c_8 : 0 ≤ v_6.toInt := (by have z := bn_le c; have k1 : (0 : Int32).toInt = 0 := (by decide); omega)
    refine lv_iload_n hx hb dX12_slipped_20 rfl (lv_at hl 0 rfl) ?_
    exact hret _ _ _ _ (v_6) f L Q dX12_slipped_21 hP hS ⟨⟨rfl, rfl, rfl⟩, (by omega)⟩
  · skip
    have c_9 : v_6.toInt < 0 := (by have z := bn_nle c; have k1 : (0 : Int32).toInt = 0 := (by decide); omega)
    refine lv_iconst (v := 0) hx hb dX12_slipped_16 (by decide) ?_
    refine lv_goto (tgt := 21) hx hb dX12_slipped_17 (by decide) ?_
    have k99 : (0 : Int32).toInt = 0 := (by decide)
    exact hret _ _ _ _ (0) f L Q dX12_slipped_21 hP hS ⟨⟨rfl, rfl, rfl⟩, (by decide)⟩

set_option maxHeartbeats 4000000 in
set_option maxRecDepth 100000 in
theorem kX12_costBy (l : Launch) (D : va_G) (ca : Nat → ClassId) (za h : Nat → Nat) (hh : sgH 26 h) (f : sg_F) (L : sg_L) (Q : sg_Q) (hI : sgI loM hiM f) (x0 : Int32) (x1 : Int32) (x2 : Int32) (x3 : Int32) (b0 : 0 ≤ x0.toInt ∧ x0.toInt ≤ 2) (b1 : 0 ≤ x1.toInt ∧ x1.toInt ≤ 20) (b2 : 0 ≤ x2.toInt ∧ x2.toInt ≤ 60) (b3 : 0 ≤ x3.toInt ∧ x3.toInt ≤ 60) (sz : Nat) : Met l yX12_costBy gwX12_costBy { frames := 1, cells := 0, slots := 0, locals := 23 } (sgP D vwCl (tyX ca) 26 h (eM ca h) zcM za f L Q sz [.ref (h 0), .int x0, .int x1, .int x2, .int x3]) (sgQi D vwCl 26 h (eM ca h) sz (fun r f1 L1 Q1 => ((f1 = f ∧ L1 = L ∧ Q1 = Q) ∧ True))) 0 0 (sgA 26 h sz) := by
  refine sg_ofWi (cc := cX12_costBy) (maxL := 5) RX12 (by decide) rfl rfl (Nat.le_of_ble_eq_true rfl) ?_
  intro p e s m below meth cd Qz ls hx hb hml hown hts hK hZ hP hS hl hret
  have hA := sgY.self (n := 26) (h := h) (sz := s.heap.size)
  have hl : lv_has ls 5 [(0, .ref (h 0)), (1, .int x0), (2, .int x1), (3, .int x2), (4, .int x3)] := hl
  obtain ⟨H, hH⟩ : ∃ z : Heap, z = s.heap := ⟨_, rfl⟩
  obtain ⟨locs, hlo⟩ : ∃ z : List Loc, z = [] := ⟨_, rfl⟩
  have hP : va_P D vwCl (sgw 26 h (eM ca h) f L Q) H := by rw [hH]; exact hP
  have hS : va_S (sgA 26 h s.heap.size) s.heap H locs := by rw [hH, hlo]; exact hS
  suffices hgo : W p l e ({ frames := 1, cells := 0, slots := 0, locals := 23 }) s m ([.ref (h 0), .int x0, .int x1, .int x2, .int x3] : List Value).toArray below meth cd H locs 0 0 Qz (F0 m 0 ls []) by rw [hH, hlo] at hgo; exact hgo
  clear hH hlo
  refine lv_iload hx hb dX12_costBy_0 (lv_at hl 4 rfl) ?_
  refine lv_iload_n hx hb dX12_costBy_2 rfl (lv_at hl 3 rfl) ?_
  refine lv_isub hx hb dX12_costBy_3 ?_
  refine lv_topi (fun v_1 ev_1 => ?_)
  have q_2 : v_1.toInt = x3.toInt - x2.toInt := by rw [ev_1]; exact (bn_subI (by omega) (by omega)).trans (by omega)
  refine sg_calli (va_runS (As := [.int v_1]) (rest := []) ⟨hx, hb, hml, hown, hts⟩ (kX12_sizeOf l D ca za h hh f L Q hI v_1 (by omega) H.size) (va_cwS 1 hts (gw_S (fun _ h => List.mem_cons_of_mem _ h) mw_682 mw_683 mw_619 mw_681) rfl rfl rfl (by decide +kernel) ⟨Nat.le_of_ble_eq_true rfl, Nat.le_of_ble_eq_true rfl⟩) (sg_preS hA hK hP hS hZ) rfl rfl hl.1 rfl (lv_room (Nat.le_of_ble_eq_true rfl)) dX12_costBy_4 ⟨Nat.le_refl _, Nat.le_refl _⟩) hA hS (fun r_6 f_3 L_4 Q_5 H locs hq hP hS => ?_)
  obtain ⟨⟨ef9, eL9, eQ9⟩, hq⟩ := hq
  rw [ef9, eL9, eQ9] at hP; clear ef9 eL9 eQ9
  refine lv_aload_n hx hb dX12_costBy_7 rfl (lv_at hl 0 rfl) ?_
  refine sg_get (ci := 12) (v := .ref (h 1)) (C := RX12) (T := TX12) (N := 55) hx hb hts (fun w h => List.mem_cons_of_mem _ (gx_12 w h)) hown hK hP 0 (by decide) rfl rfl 0 (by decide) (hts _ (List.mem_cons_of_mem _ mw_600)) (fun _ h9 => h9) rfl dX12_costBy_8 ?_
  refine lv_bipush (v := 67) hx hb dX12_costBy_11 (by decide) ?_
  refine lv_iload_n hx hb dX12_costBy_13 rfl (lv_at hl 1 rfl) ?_
  refine lv_iadd hx hb dX12_costBy_14 ?_
  refine lv_topi (fun v_7 ev_7 => ?_)
  have q_8 : v_7.toInt = 67 + x0.toInt := by rw [ev_7]; have k0 : (67 : Int32).toInt = 67 := (by decide); exact (bn_addI (by omega) (by omega)).trans (by omega)
  refine sg_iald hx hb hK hP 1 (by decide) 0 rfl rfl (i := v_7) (vp_in_iff.mpr ⟨by omega, by omega⟩) dX12_costBy_15 ?_
  refine lv_topi (fun v_9 ev_9 => ?_)
  have q_10 : v_7.toInt < 64 → v_9.toInt ≤ 60 := by rw [ev_9]; have z1 := segM1_r hI (j := Int32.toNatClampNeg v_7); have z2 := bn_clI (x := v_7) (by omega); intro z3; exact (z1.2.2 (by omega)).2
  have q_11 : 0 ≤ v_9.toInt ∧ v_9.toInt ≤ 99 := by rw [ev_9]; have z1 := segM1_r hI (j := Int32.toNatClampNeg v_7); have z2 := bn_clI (x := v_7) (by omega); omega
  refine lv_imul hx hb dX12_costBy_16 ?_
  refine lv_topi (fun v_12 ev_12 => ?_)
  refine lv_aload_n hx hb dX12_costBy_17 rfl (lv_at hl 0 rfl) ?_
  refine sg_get (ci := 12) (v := .ref (h 9)) (C := RX12) (T := TX12) (N := 55) hx hb hts (fun w h => List.mem_cons_of_mem _ (gx_12 w h)) hown hK hP 0 (by decide) rfl rfl 18 (by decide) (hts _ (List.mem_cons_of_mem _ mw_783)) (fun _ h9 => h9) rfl dX12_costBy_18 ?_
  refine lv_bipush (v := 61) hx hb dX12_costBy_21 (by decide) ?_
  refine lv_iload_n hx hb dX12_costBy_23 rfl (lv_at hl 2 rfl) ?_
  refine lv_imul hx hb dX12_costBy_24 ?_
  refine lv_topi (fun v_13 ev_13 => ?_)
  have q_14 : v_13.toInt = 61 * x1.toInt := by rw [ev_13]; exact bn_mulJ (by decide) (by omega) (by omega)
  refine lv_iload hx hb dX12_costBy_25 (lv_at hl 4 rfl) ?_
  refine lv_iadd hx hb dX12_costBy_27 ?_
  refine lv_topi (fun v_15 ev_15 => ?_)
  have q_16 : v_15.toInt = v_13.toInt + x3.toInt := by rw [ev_15]; exact (bn_addI (by omega) (by omega)).trans (by omega)
  refine sg_iald hx hb hK hP 9 (by decide) 0 rfl rfl (i := v_15) (vp_in_iff.mpr ⟨by omega, by omega⟩) dX12_costBy_28 ?_
  refine lv_topi (fun v_17 ev_17 => ?_)
  refine lv_iadd hx hb dX12_costBy_29 ?_
  refine lv_topi (fun v_18 ev_18 => ?_)
  refine lv_aload_n hx hb dX12_costBy_30 rfl (lv_at hl 0 rfl) ?_
  refine sg_get (ci := 12) (v := .ref (h 10)) (C := RX12) (T := TX12) (N := 55) hx hb hts (fun w h => List.mem_cons_of_mem _ (gx_12 w h)) hown hK hP 0 (by decide) rfl rfl 19 (by decide) (hts _ (List.mem_cons_of_mem _ mw_821)) (fun _ h9 => h9) rfl dX12_costBy_31 ?_
  refine lv_bipush (v := 61) hx hb dX12_costBy_34 (by decide) ?_
  refine lv_iload_n hx hb dX12_costBy_36 rfl (lv_at hl 2 rfl) ?_
  refine lv_iconst (v := 1) hx hb dX12_costBy_37 (by decide) ?_
  refine lv_iadd hx hb dX12_costBy_38 ?_
  refine lv_topi (fun v_19 ev_19 => ?_)
  have q_20 : v_19.toInt = x1.toInt + 1 := by rw [ev_19]; have k1 : (1 : Int32).toInt = 1 := (by decide); exact (bn_addI (by omega) (by omega)).trans (by omega)
  refine lv_imul hx hb dX12_costBy_39 ?_
  refine lv_topi (fun v_21 ev_21 => ?_)
  have q_22 : v_21.toInt = 61 * v_19.toInt := by rw [ev_21]; exact bn_mulJ (by decide) (by omega) (by omega)
  refine lv_aload_n hx hb dX12_costBy_40 rfl (lv_at hl 0 rfl) ?_
  refine lv_iload_n hx hb dX12_costBy_41 rfl (lv_at hl 1 rfl) ?_
  refine lv_iload hx hb dX12_costBy_42 (lv_at hl 4 rfl) ?_
  refine sg_calli (va_runV (As := [.int x0, .int x3]) (rest := [.int v_21, .ref (h 10), .int v_18]) ⟨hx, hb, hml, hown, hts⟩ (kX12_slipped l D ca za h hh f L Q hI x0 x3 (by omega) (by omega) H.size) (cwV 2 hts (gw_V (fun _ h => List.mem_cons_of_mem _ h) mw_649 mw_650 mw_651 mw_619 mw_648) rfl rfl rfl (by decide +kernel) ⟨Nat.le_of_ble_eq_true rfl, Nat.le_of_ble_eq_true rfl⟩) (sg_preV (ci := 12) (C := RX12) (T := TX12) (N := 55) hA hK hP hS hZ 0 (by decide) rfl rfl) rfl rfl hl.1 rfl (lv_room (Nat.le_of_ble_eq_true rfl)) dX12_costBy_44 ⟨Nat.le_refl _, Nat.le_refl _⟩) hA hS (fun r_26 f_23 L_24 Q_25 H locs hq hP hS => ?_)
  obtain ⟨⟨ef9, eL9, eQ9⟩, hq⟩ := hq
  rw [ef9, eL9, eQ9] at hP; clear ef9 eL9 eQ9
  refine lv_iadd hx hb dX12_costBy_47 ?_
  refine lv_topi (fun v_27 ev_27 => ?_)
  have q_28 : v_27.toInt = v_21.toInt + r_26.toInt := by rw [ev_27]; exact (bn_addI (by omega) (by omega)).trans (by omega)
  refine sg_iald hx hb hK hP 10 (by decide) 0 rfl rfl (i := v_27) (vp_in_iff.mpr ⟨by omega, by omega⟩) dX12_costBy_48 ?_
  refine lv_topi (fun v_29 ev_29 => ?_)
  refine lv_iadd hx hb dX12_costBy_49 ?_
  refine lv_topi (fun v_30 ev_30 => ?_)
  exact hret _ _ _ _ (v_30) f L Q dX12_costBy_50 hP hS ⟨⟨rfl, rfl, rfl⟩, trivial⟩

abbrev WkX12_shifts : List (Nat × Nat × Option Nat) := [(0, 0, some 12), (0, 0, some 13), (0, 0, some 14), (0, 0, some 15), (0, 0, some 16), (8, 8, none), (9, 9, none), (10, 10, none)]
set_option maxHeartbeats 4000000 in
set_option maxRecDepth 100000 in
theorem kX12_shifts (l : Launch) (D : va_G) (ca : Nat → ClassId) (za h : Nat → Nat) (hh : sgH 26 h) (f : sg_F) (L : sg_L) (Q : sg_Q) (hI : sgI loM hiM f) (x0 : Int32) (x1 : Int32) (x2 : Int32) (sz : Nat) : Met l yX12_shifts gwX12_shifts { frames := 46, cells := 0, slots := 0, locals := 1056 } (sgP D vwCl (tyX ca) 26 h (eM ca h) zcM za f L Q sz [.ref (h 0), .int x0, .int x1, .int x2]) (sgQi D vwCl 26 h (eM ca h) sz (fun r f1 L1 Q1 => ((sgI loM hiM f1 ∧ sgK WkX12_shifts f f1 ∧ L1 = L ∧ Q1 = Q) ∧ True))) 0 0 (sgA 26 h sz) := by
  refine sg_ofWi (cc := cX12_shifts) (maxL := 10) RX12 (by decide) rfl rfl (Nat.le_of_ble_eq_true rfl) ?_
  intro p e s m below meth cd Qz ls hx hb hml hown hts hK hZ hP hS hl hret
  have hA := sgY.self (n := 26) (h := h) (sz := s.heap.size)
  have hl : lv_has ls 10 [(0, .ref (h 0)), (1, .int x0), (2, .int x1), (3, .int x2)] := hl
  obtain ⟨H, hH⟩ : ∃ z : Heap, z = s.heap := ⟨_, rfl⟩
  obtain ⟨locs, hlo⟩ : ∃ z : List Loc, z = [] := ⟨_, rfl⟩
  have hP : va_P D vwCl (sgw 26 h (eM ca h) f L Q) H := by rw [hH]; exact hP
  have hS : va_S (sgA 26 h s.heap.size) s.heap H locs := by rw [hH, hlo]; exact hS
  suffices hgo : W p l e ({ frames := 46, cells := 0, slots := 0, locals := 1056 }) s m ([.ref (h 0), .int x0, .int x1, .int x2] : List Value).toArray below meth cd H locs 0 0 Qz (F0 m 0 ls []) by rw [hH, hlo] at hgo; exact hgo
  clear hH hlo
  have hF : sgK WkX12_shifts f f := sgK.rf
  have blk_303 : ∀ (y4_303 : Int32) (y6_303 : Int32) (fp_303 : sg_F) (H : Heap) (locs : List Loc) (ls : Array Slot), 0 ≤ x0.toInt ∧ x0.toInt ≤ 5 → 0 ≤ x1.toInt ∧ x1.toInt ≤ 2 → 0 ≤ x2.toInt → 0 ≤ y4_303.toInt ∧ y4_303.toInt ≤ 21 → (-2) ≤ y6_303.toInt ∧ y6_303.toInt ≤ 60 → sgI loM hiM fp_303 → sgK WkX12_shifts f fp_303 → va_P D vwCl (sgw 26 h (eM ca h) fp_303 L Q) H → va_S (sgA 26 h s.heap.size) s.heap H locs → lv_has ls 10 [(3, .int x2), (4, .int y4_303), (6, .int y6_303)] → W p l e ({ frames := 46, cells := 0, slots := 0, locals := 1056 }) s m ([.ref (h 0), .int x0, .int x1, .int x2] : List Value).toArray below meth cd H locs 0 0 Qz (F0 m 303 ls []) := by
    intro y4_303 y6_303 fp_303 H locs ls hy0_303 hy1_303 hy2_303 hy3_303 hy4_303 hI hF hP hS hl
    refine lv_iload_n hx hb dX12_shifts_303 rfl (lv_at hl 0 rfl) ?_
    refine lv_iload hx hb dX12_shifts_304 (lv_at hl 1 rfl) ?_
    refine lv_icmp_ge (tgt := 314) hx hb dX12_shifts_306 (by decide) (fun c => ?_) (fun c => ?_)
    · skip
      have c_1 : y4_303.toInt ≤ x2.toInt := (by have z := bn_le c; omega)
      refine lv_bipush (v := (-2)) hx hb dX12_shifts_314 (by decide) ?_
      have k99 : ((-2) : Int32).toInt = (-2) := (by decide)
      exact hret _ _ _ _ (-2) fp_303 L Q dX12_shifts_316 hP hS ⟨⟨hI, hF, rfl, rfl⟩, trivial⟩
    · skip
      have c_2 : x2.toInt < y4_303.toInt := (by have z := bn_nle c; omega)
      refine lv_iload hx hb dX12_shifts_309 (lv_at hl 2 rfl) ?_
      refine lv_goto (tgt := 316) hx hb dX12_shifts_311 (by decide) ?_
      exact hret _ _ _ _ (y6_303) fp_303 L Q dX12_shifts_316 hP hS ⟨⟨hI, hF, rfl, rfl⟩, trivial⟩
  have loop_216 : ∀ (n_216 : Nat) (y4_216 : Int32) (y5_216 : Int32) (y6_216 : Int32) (y7_216 : Int32) (fp_216 : sg_F) (H : Heap) (locs : List Loc) (ls : Array Slot), 21 - y7_216.toInt < (n_216 : Int) → 0 ≤ x0.toInt ∧ x0.toInt ≤ 5 → 0 ≤ x1.toInt ∧ x1.toInt ≤ 2 → 0 ≤ x2.toInt → 0 ≤ y4_216.toInt ∧ y4_216.toInt ≤ 21 → 0 ≤ y5_216.toInt ∧ y5_216.toInt ≤ 60 → (-2) ≤ y6_216.toInt ∧ y6_216.toInt ≤ 60 → 0 ≤ y7_216.toInt ∧ y7_216.toInt ≤ 21 → sgI loM hiM fp_216 → sgK WkX12_shifts f fp_216 → va_P D vwCl (sgw 26 h (eM ca h) fp_216 L Q) H → va_S (sgA 26 h s.heap.size) s.heap H locs → lv_has ls 10 [(0, .ref (h 0)), (2, .int x1), (3, .int x2), (4, .int y4_216), (5, .int y5_216), (6, .int y6_216), (7, .int y7_216)] → W p l e ({ frames := 46, cells := 0, slots := 0, locals := 1056 }) s m ([.ref (h 0), .int x0, .int x1, .int x2] : List Value).toArray below meth cd H locs 0 0 Qz (F0 m 216 ls []) := by
    intro n_216
    induction n_216 with
    | zero => intro y4_216 y5_216 y6_216 y7_216 fp_216 H locs ls hm_216 hy0_216 hy1_216 hy2_216 hy3_216 hy4_216 hy5_216 hy6_216 hI hF hP hS hl; exact absurd hm_216 (by omega)
    | succ n_216 ih_216 =>
      have blk_288 : ∀ (y4_288 : Int32) (y6_288 : Int32) (y7_288 : Int32) (fp_288 : sg_F) (H : Heap) (locs : List Loc) (ls : Array Slot), 21 - y7_288.toInt < ((n_216 + 1 : Nat) : Int) → 0 ≤ x0.toInt ∧ x0.toInt ≤ 5 → 0 ≤ x1.toInt ∧ x1.toInt ≤ 2 → 0 ≤ x2.toInt → 1 ≤ y4_288.toInt ∧ y4_288.toInt ≤ 21 → (-1) ≤ y6_288.toInt ∧ y6_288.toInt ≤ 60 → 0 ≤ y7_288.toInt ∧ y7_288.toInt ≤ 20 → sgI loM hiM fp_288 → sgK WkX12_shifts f fp_288 → va_P D vwCl (sgw 26 h (eM ca h) fp_288 L Q) H → va_S (sgA 26 h s.heap.size) s.heap H locs → lv_has ls 10 [(0, .ref (h 0)), (2, .int x1), (3, .int x2), (4, .int y4_288), (6, .int y6_288), (7, .int y7_288)] → W p l e ({ frames := 46, cells := 0, slots := 0, locals := 1056 }) s m ([.ref (h 0), .int x0, .int x1, .int x2] : List Value).toArray below meth cd H locs 0 0 Qz (F0 m 288 ls []) := by
        intro y4_288 y6_288 y7_288 fp_288 H locs ls hm_216 hy0_288 hy1_288 hy2_288 hy3_288 hy4_288 hy5_288 hI hF hP hS hl
        refine lv_aload_n hx hb dX12_shifts_288 rfl (lv_at hl 0 rfl) ?_
        refine lv_iload_n hx hb dX12_shifts_289 rfl (lv_at hl 1 rfl) ?_
        refine lv_iload hx hb dX12_shifts_290 (lv_at hl 4 rfl) ?_
        refine sg_calli (va_runV (As := [.int x1, .int y6_288]) (rest := []) ⟨hx, hb, hml, hown, hts⟩ (kX12_slipped l D ca za h hh fp_288 L Q hI x1 y6_288 (by omega) (by omega) H.size) (cwV 2 hts (gw_V (fun _ h => List.mem_cons_of_mem _ h) mw_649 mw_650 mw_651 mw_619 mw_648) rfl rfl rfl (by decide +kernel) ⟨Nat.le_of_ble_eq_true rfl, Nat.le_of_ble_eq_true rfl⟩) (sg_preV (ci := 12) (C := RX12) (T := TX12) (N := 55) hA hK hP hS hZ 0 (by decide) rfl rfl) rfl rfl hl.1 rfl (lv_room (Nat.le_of_ble_eq_true rfl)) dX12_shifts_292 ⟨Nat.le_refl _, Nat.le_refl _⟩) hA hS (fun r_6 f_3 L_4 Q_5 H locs hq hP hS => ?_)
        obtain ⟨⟨ef9, eL9, eQ9⟩, hq⟩ := hq
        rw [ef9, eL9, eQ9] at hP; clear ef9 eL9 eQ9
        refine lv_istore (lv' := [(5, .int r_6), (0, .ref (h 0)), (2, .int x1), (3, .int x2), (4, .int y4_288), (6, .int y6_288), (7, .int y7_288)]) hx hb dX12_shifts_295 hl (by decide) rfl (fun ls hl => ?_)
        obtain ⟨v_7, ev_7⟩ : ∃ z : Int32, z = y7_288 + 1 := ⟨_, rfl⟩
        have q_8 : v_7.toInt = y7_288.toInt + 1 := by rw [ev_7]; exact (bn_addc y7_288 1 (by decide) (by omega) (by omega))
        refine lv_iinc (v := v_7) (lv' := [(7, .int v_7), (5, .int r_6), (0, .ref (h 0)), (2, .int x1), (3, .int x2), (4, .int y4_288), (6, .int y6_288)]) hx hb dX12_shifts_297 hl (k := 6) rfl (by rw [ev_7]; rfl) (by decide) rfl (fun ls hl => ?_)
        refine lv_goto (tgt := 216) hx hb dX12_shifts_300 (by decide) ?_
        exact ih_216 y4_288 r_6 y6_288 v_7 fp_288 _ _ _ (by omega) (by omega) (by omega) (by omega) (by omega) (by omega) (by omega) (by omega) hI hF hP hS (lv_sub hl [2, 3, 4, 5, 1, 6, 0] rfl)
      have loop_235 : ∀ (n_235 : Nat) (y4_235 : Int32) (y5_235 : Int32) (y6_235 : Int32) (y7_235 : Int32) (y8_235 : Int32) (fp_235 : sg_F) (H : Heap) (locs : List Loc) (ls : Array Slot), 61 - y8_235.toInt < (n_235 : Int) → 21 - y7_235.toInt < ((n_216 + 1 : Nat) : Int) → 0 ≤ x0.toInt ∧ x0.toInt ≤ 5 → 0 ≤ x1.toInt ∧ x1.toInt ≤ 2 → 0 ≤ x2.toInt → 1 ≤ y4_235.toInt ∧ y4_235.toInt ≤ 21 → 0 ≤ y5_235.toInt ∧ y5_235.toInt ≤ 60 → (-1) ≤ y6_235.toInt ∧ y6_235.toInt ≤ 60 → 0 ≤ y7_235.toInt ∧ y7_235.toInt ≤ 20 → 0 ≤ y8_235.toInt ∧ y8_235.toInt ≤ 61 → sgI loM hiM fp_235 → sgK WkX12_shifts f fp_235 → va_P D vwCl (sgw 26 h (eM ca h) fp_235 L Q) H → va_S (sgA 26 h s.heap.size) s.heap H locs → lv_has ls 10 [(0, .ref (h 0)), (2, .int x1), (3, .int x2), (4, .int y4_235), (5, .int y5_235), (6, .int y6_235), (7, .int y7_235), (8, .int y8_235)] → W p l e ({ frames := 46, cells := 0, slots := 0, locals := 1056 }) s m ([.ref (h 0), .int x0, .int x1, .int x2] : List Value).toArray below meth cd H locs 0 0 Qz (F0 m 235 ls []) := by
        intro n_235
        induction n_235 with
        | zero => intro y4_235 y5_235 y6_235 y7_235 y8_235 fp_235 H locs ls hm_235 hm_216 hy0_235 hy1_235 hy2_235 hy3_235 hy4_235 hy5_235 hy6_235 hy7_235 hI hF hP hS hl; exact absurd hm_235 (by omega)
        | succ n_235 ih_235 =>
          intro y4_235 y5_235 y6_235 y7_235 y8_235 fp_235 H locs ls hm_235 hm_216 hy0_235 hy1_235 hy2_235 hy3_235 hy4_235 hy5_235 hy6_235 hy7_235 hI hF hP hS hl
          refine lv_iload hx hb dX12_shifts_235 (lv_at hl 7 rfl) ?_
          refine lv_bipush (v := 61) hx hb dX12_shifts_237 (by decide) ?_
          refine lv_icmp_ge (tgt := 288) hx hb dX12_shifts_239 (by decide) (fun c => ?_) (fun c => ?_)
          · skip
            have c_9 : 61 ≤ y8_235.toInt := (by have z := bn_le c; have k1 : (61 : Int32).toInt = 61 := (by decide); omega)
            exact blk_288 y4_235 y6_235 y7_235 fp_235 _ _ _ (by omega) (by omega) (by omega) (by omega) (by omega) (by omega) (by omega) hI hF hP hS (lv_sub hl [0, 1, 2, 3, 5, 6] rfl)
          · skip
            have c_10 : y8_235.toInt < 61 := (by have z := bn_nle c; have k1 : (61 : Int32).toInt = 61 := (by decide); omega)
            refine lv_iload hx hb dX12_shifts_242 (lv_at hl 5 rfl) ?_
            refine lv_if_ge (tgt := 288) hx hb dX12_shifts_244 (by decide) (fun c => ?_) (fun c => ?_)
            · skip
              have c_11 : 0 ≤ y6_235.toInt := (by have z := bn_le c; have k1 : (0 : Int32).toInt = 0 := (by decide); omega)
              exact blk_288 y4_235 y6_235 y7_235 fp_235 _ _ _ (by omega) (by omega) (by omega) (by omega) (by omega) (by omega) (by omega) hI hF hP hS (lv_sub hl [0, 1, 2, 3, 5, 6] rfl)
            · skip
              have c_12 : y6_235.toInt < 0 := (by have z := bn_nle c; have k1 : (0 : Int32).toInt = 0 := (by decide); omega)
              refine lv_aload_n hx hb dX12_shifts_247 rfl (lv_at hl 0 rfl) ?_
              refine lv_iload_n hx hb dX12_shifts_248 rfl (lv_at hl 1 rfl) ?_
              refine lv_iload hx hb dX12_shifts_249 (lv_at hl 6 rfl) ?_
              refine lv_iload hx hb dX12_shifts_251 (lv_at hl 4 rfl) ?_
              refine lv_iload hx hb dX12_shifts_253 (lv_at hl 7 rfl) ?_
              refine sg_calli (va_runV (As := [.int x1, .int y7_235, .int y5_235, .int y8_235]) (rest := []) ⟨hx, hb, hml, hown, hts⟩ (kX12_costBy l D ca za h hh fp_235 L Q hI x1 y7_235 y5_235 y8_235 (by omega) (by omega) (by omega) (by omega) H.size) (cwV 4 hts (gw_V (fun _ h => List.mem_cons_of_mem _ h) mw_865 mw_866 mw_867 mw_619 mw_864) rfl rfl rfl (by decide +kernel) ⟨Nat.le_of_ble_eq_true rfl, Nat.le_of_ble_eq_true rfl⟩) (sg_preV (ci := 12) (C := RX12) (T := TX12) (N := 55) hA hK hP hS hZ 0 (by decide) rfl rfl) rfl rfl hl.1 rfl (lv_room (Nat.le_of_ble_eq_true rfl)) dX12_shifts_255 ⟨Nat.le_refl _, Nat.le_refl _⟩) hA hS (fun r_16 f_13 L_14 Q_15 H locs hq hP hS => ?_)
              obtain ⟨⟨ef9, eL9, eQ9⟩, hq⟩ := hq
              rw [ef9, eL9, eQ9] at hP; clear ef9 eL9 eQ9
              refine lv_aload_n hx hb dX12_shifts_258 rfl (lv_at hl 0 rfl) ?_
              refine sg_get (ci := 12) (v := .ref (h 10)) (C := RX12) (T := TX12) (N := 55) hx hb hts (fun w h => List.mem_cons_of_mem _ (gx_12 w h)) hown hK hP 0 (by decide) rfl rfl 19 (by decide) (hts _ (List.mem_cons_of_mem _ mw_821)) (fun _ h9 => h9) rfl dX12_shifts_259 ?_
              refine lv_bipush (v := 61) hx hb dX12_shifts_262 (by decide) ?_
              refine lv_iload hx hb dX12_shifts_264 (lv_at hl 6 rfl) ?_
              refine lv_imul hx hb dX12_shifts_266 ?_
              refine lv_topi (fun v_17 ev_17 => ?_)
              have q_18 : v_17.toInt = 61 * y7_235.toInt := by rw [ev_17]; exact bn_mulJ (by decide) (by omega) (by omega)
              refine lv_iload hx hb dX12_shifts_267 (lv_at hl 4 rfl) ?_
              refine lv_iadd hx hb dX12_shifts_269 ?_
              refine lv_topi (fun v_19 ev_19 => ?_)
              have q_20 : v_19.toInt = v_17.toInt + y5_235.toInt := by rw [ev_19]; exact (bn_addI (by omega) (by omega)).trans (by omega)
              refine sg_iald hx hb hK hP 10 (by decide) 0 rfl rfl (i := v_19) (vp_in_iff.mpr ⟨by omega, by omega⟩) dX12_shifts_270 ?_
              refine lv_topi (fun v_21 ev_21 => ?_)
              refine lv_icmp_ne (tgt := 279) hx hb dX12_shifts_271 (by decide) (fun c => ?_) (fun c => ?_)
              · skip
                have c_22 : r_16.toInt ≠ v_21.toInt := (by have z := bn_ne c; omega)
                refine lv_iconst (v := (-1)) hx hb dX12_shifts_279 (by decide) ?_
                refine lv_istore (lv' := [(6, .int (-1)), (0, .ref (h 0)), (2, .int x1), (3, .int x2), (4, .int y4_235), (5, .int y5_235), (7, .int y7_235), (8, .int y8_235)]) hx hb dX12_shifts_280 hl (by decide) rfl (fun ls hl => ?_)
                obtain ⟨v_24, ev_24⟩ : ∃ z : Int32, z = y8_235 + 1 := ⟨_, rfl⟩
                have q_25 : v_24.toInt = y8_235.toInt + 1 := by rw [ev_24]; exact (bn_addc y8_235 1 (by decide) (by omega) (by omega))
                refine lv_iinc (v := v_24) (lv' := [(8, .int v_24), (6, .int (-1)), (0, .ref (h 0)), (2, .int x1), (3, .int x2), (4, .int y4_235), (5, .int y5_235), (7, .int y7_235)]) hx hb dX12_shifts_282 hl (k := 7) rfl (by rw [ev_24]; rfl) (by decide) rfl (fun ls hl => ?_)
                refine lv_goto (tgt := 235) hx hb dX12_shifts_285 (by decide) ?_
                exact ih_235 y4_235 y5_235 (-1) y7_235 v_24 fp_235 _ _ _ (by have kc2 : ((-1) : Int32).toInt = (-1) := (by decide); omega) (by have kc2 : ((-1) : Int32).toInt = (-1) := (by decide); omega) (by omega) (by omega) (by omega) (by omega) (by omega) (by decide) (by omega) (by omega) hI hF hP hS (lv_sub hl [2, 3, 4, 5, 6, 1, 7, 0] rfl)
              · skip
                have c_23 : r_16.toInt = v_21.toInt := (by have z := Int32.toInt_inj.mpr c; omega)
                refine lv_iload hx hb dX12_shifts_274 (lv_at hl 7 rfl) ?_
                refine lv_goto (tgt := 280) hx hb dX12_shifts_276 (by decide) ?_
                refine lv_istore (lv' := [(6, .int y8_235), (0, .ref (h 0)), (2, .int x1), (3, .int x2), (4, .int y4_235), (5, .int y5_235), (7, .int y7_235), (8, .int y8_235)]) hx hb dX12_shifts_280 hl (by decide) rfl (fun ls hl => ?_)
                obtain ⟨v_26, ev_26⟩ : ∃ z : Int32, z = y8_235 + 1 := ⟨_, rfl⟩
                have q_27 : v_26.toInt = y8_235.toInt + 1 := by rw [ev_26]; exact (bn_addc y8_235 1 (by decide) (by omega) (by omega))
                refine lv_iinc (v := v_26) (lv' := [(8, .int v_26), (6, .int y8_235), (0, .ref (h 0)), (2, .int x1), (3, .int x2), (4, .int y4_235), (5, .int y5_235), (7, .int y7_235)]) hx hb dX12_shifts_282 hl (k := 7) rfl (by rw [ev_26]; rfl) (by decide) rfl (fun ls hl => ?_)
                refine lv_goto (tgt := 235) hx hb dX12_shifts_285 (by decide) ?_
                exact ih_235 y4_235 y5_235 y8_235 y7_235 v_26 fp_235 _ _ _ (by omega) (by omega) (by omega) (by omega) (by omega) (by omega) (by omega) (by omega) (by omega) (by omega) hI hF hP hS (lv_sub hl [2, 3, 4, 5, 6, 1, 7, 0] rfl)
      intro y4_216 y5_216 y6_216 y7_216 fp_216 H locs ls hm_216 hy0_216 hy1_216 hy2_216 hy3_216 hy4_216 hy5_216 hy6_216 hI hF hP hS hl
      refine lv_iload hx hb dX12_shifts_216 (lv_at hl 6 rfl) ?_
      refine lv_iload hx hb dX12_shifts_218 (lv_at hl 3 rfl) ?_
      refine lv_icmp_ge (tgt := 303) hx hb dX12_shifts_220 (by decide) (fun c => ?_) (fun c => ?_)
      · skip
        have c_28 : y4_216.toInt ≤ y7_216.toInt := (by have z := bn_le c; omega)
        exact blk_303 y4_216 y6_216 fp_216 _ _ _ (by omega) (by omega) (by omega) (by omega) (by omega) hI hF hP hS (lv_sub hl [2, 3, 5] rfl)
      · skip
        have c_29 : y7_216.toInt < y4_216.toInt := (by have z := bn_nle c; omega)
        refine lv_iload hx hb dX12_shifts_223 (lv_at hl 6 rfl) ?_
        refine lv_iload_n hx hb dX12_shifts_225 rfl (lv_at hl 2 rfl) ?_
        refine lv_icmp_gt (tgt := 303) hx hb dX12_shifts_226 (by decide) (fun c => ?_) (fun c => ?_)
        · skip
          have c_30 : x2.toInt < y7_216.toInt := (by have z := bn_lt c; omega)
          exact blk_303 y4_216 y6_216 fp_216 _ _ _ (by omega) (by omega) (by omega) (by omega) (by omega) hI hF hP hS (lv_sub hl [2, 3, 5] rfl)
        · skip
          have c_31 : y7_216.toInt ≤ x2.toInt := (by have z := bn_nlt c; omega)
          refine lv_iconst (v := (-1)) hx hb dX12_shifts_229 (by decide) ?_
          refine lv_istore (lv' := [(6, .int (-1)), (0, .ref (h 0)), (2, .int x1), (3, .int x2), (4, .int y4_216), (5, .int y5_216), (7, .int y7_216)]) hx hb dX12_shifts_230 hl (by decide) rfl (fun ls hl => ?_)
          refine lv_iconst (v := 0) hx hb dX12_shifts_232 (by decide) ?_
          refine lv_istore (lv' := [(8, .int 0), (6, .int (-1)), (0, .ref (h 0)), (2, .int x1), (3, .int x2), (4, .int y4_216), (5, .int y5_216), (7, .int y7_216)]) hx hb dX12_shifts_233 hl (by decide) rfl (fun ls hl => ?_)
          exact loop_235 62 y4_216 y5_216 (-1) y7_216 0 fp_216 _ _ _ (by have kc2 : ((-1) : Int32).toInt = (-1) := (by decide); have kc4 : (0 : Int32).toInt = 0 := (by decide); omega) (by have kc2 : ((-1) : Int32).toInt = (-1) := (by decide); have kc4 : (0 : Int32).toInt = 0 := (by decide); omega) (by omega) (by omega) (by omega) (by omega) (by omega) (by decide) (by omega) (by decide) hI hF hP hS (lv_sub hl [2, 3, 4, 5, 6, 1, 7, 0] rfl)
  have loop_86 : ∀ (n_86 : Nat) (y4_86 : Int32) (y5_86 : Int32) (fp_86 : sg_F) (H : Heap) (locs : List Loc) (ls : Array Slot), y5_86.toInt - (-1) < (n_86 : Int) → 0 ≤ x0.toInt ∧ x0.toInt ≤ 5 → 0 ≤ x1.toInt ∧ x1.toInt ≤ 2 → (-1) ≤ x2.toInt → 0 ≤ y4_86.toInt ∧ y4_86.toInt ≤ 21 → (-1) ≤ y5_86.toInt ∧ y5_86.toInt ≤ 20 → sgI loM hiM fp_86 → sgK WkX12_shifts f fp_86 → va_P D vwCl (sgw 26 h (eM ca h) fp_86 L Q) H → va_S (sgA 26 h s.heap.size) s.heap H locs → lv_has ls 10 [(0, .ref (h 0)), (2, .int x1), (3, .int x2), (4, .int y4_86), (5, .int y5_86)] → W p l e ({ frames := 46, cells := 0, slots := 0, locals := 1056 }) s m ([.ref (h 0), .int x0, .int x1, .int x2] : List Value).toArray below meth cd H locs 0 0 Qz (F0 m 86 ls []) := by
    intro n_86
    induction n_86 with
    | zero => intro y4_86 y5_86 fp_86 H locs ls hm_86 hy0_86 hy1_86 hy2_86 hy3_86 hy4_86 hI hF hP hS hl; exact absurd hm_86 (by omega)
    | succ n_86 ih_86 =>
      have loop_94 : ∀ (n_94 : Nat) (y4_94 : Int32) (y5_94 : Int32) (y6_94 : Int32) (fp_94 : sg_F) (H : Heap) (locs : List Loc) (ls : Array Slot), 61 - y6_94.toInt < (n_94 : Int) → y5_94.toInt - (-1) < ((n_86 + 1 : Nat) : Int) → 0 ≤ x0.toInt ∧ x0.toInt ≤ 5 → 0 ≤ x1.toInt ∧ x1.toInt ≤ 2 → (-1) ≤ x2.toInt → 0 ≤ y4_94.toInt ∧ y4_94.toInt ≤ 21 → 0 ≤ y5_94.toInt ∧ y5_94.toInt ≤ 20 → 0 ≤ y6_94.toInt ∧ y6_94.toInt ≤ 61 → sgI loM hiM fp_94 → sgK WkX12_shifts f fp_94 → va_P D vwCl (sgw 26 h (eM ca h) fp_94 L Q) H → va_S (sgA 26 h s.heap.size) s.heap H locs → lv_has ls 10 [(0, .ref (h 0)), (2, .int x1), (3, .int x2), (4, .int y4_94), (5, .int y5_94), (6, .int y6_94)] → W p l e ({ frames := 46, cells := 0, slots := 0, locals := 1056 }) s m ([.ref (h 0), .int x0, .int x1, .int x2] : List Value).toArray below meth cd H locs 0 0 Qz (F0 m 94 ls []) := by
        intro n_94
        induction n_94 with
        | zero => intro y4_94 y5_94 y6_94 fp_94 H locs ls hm_94 hm_86 hy0_94 hy1_94 hy2_94 hy3_94 hy4_94 hy5_94 hI hF hP hS hl; exact absurd hm_94 (by omega)
        | succ n_94 ih_94 =>
          have loop_116 : ∀ (n_116 : Nat) (y4_116 : Int32) (y5_116 : Int32) (y6_116 : Int32) (y7_116 : Int32) (y8_116 : Int32) (fp_116 : sg_F) (H : Heap) (locs : List Loc) (ls : Array Slot), 61 - y8_116.toInt < (n_116 : Int) → y5_116.toInt - (-1) < ((n_86 + 1 : Nat) : Int) → 61 - y6_116.toInt < ((n_94 + 1 : Nat) : Int) → 0 ≤ x0.toInt ∧ x0.toInt ≤ 5 → 0 ≤ x1.toInt ∧ x1.toInt ≤ 2 → (-1) ≤ x2.toInt → 0 ≤ y4_116.toInt ∧ y4_116.toInt ≤ 21 → 0 ≤ y5_116.toInt ∧ y5_116.toInt ≤ 20 → 0 ≤ y6_116.toInt ∧ y6_116.toInt ≤ 60 → 1 ≤ y8_116.toInt ∧ y8_116.toInt ≤ 61 → sgI loM hiM fp_116 → sgK WkX12_shifts f fp_116 → va_P D vwCl (sgw 26 h (eM ca h) fp_116 L Q) H → va_S (sgA 26 h s.heap.size) s.heap H locs → lv_has ls 10 [(0, .ref (h 0)), (2, .int x1), (3, .int x2), (4, .int y4_116), (5, .int y5_116), (6, .int y6_116), (7, .int y7_116), (8, .int y8_116)] → W p l e ({ frames := 46, cells := 0, slots := 0, locals := 1056 }) s m ([.ref (h 0), .int x0, .int x1, .int x2] : List Value).toArray below meth cd H locs 0 0 Qz (F0 m 116 ls []) := by
            intro n_116
            induction n_116 with
            | zero => intro y4_116 y5_116 y6_116 y7_116 y8_116 fp_116 H locs ls hm_116 hm_86 hm_94 hy0_116 hy1_116 hy2_116 hy3_116 hy4_116 hy5_116 hy6_116 hI hF hP hS hl; exact absurd hm_116 (by omega)
            | succ n_116 ih_116 =>
              intro y4_116 y5_116 y6_116 y7_116 y8_116 fp_116 H locs ls hm_116 hm_86 hm_94 hy0_116 hy1_116 hy2_116 hy3_116 hy4_116 hy5_116 hy6_116 hI hF hP hS hl
              refine lv_iload hx hb dX12_shifts_116 (lv_at hl 7 rfl) ?_
              refine lv_bipush (v := 61) hx hb dX12_shifts_118 (by decide) ?_
              refine lv_icmp_ge (tgt := 158) hx hb dX12_shifts_120 (by decide) (fun c => ?_) (fun c => ?_)
              · skip
                have c_32 : 61 ≤ y8_116.toInt := (by have z := bn_le c; have k1 : (61 : Int32).toInt = 61 := (by decide); omega)
                refine lv_aload_n hx hb dX12_shifts_158 rfl (lv_at hl 0 rfl) ?_
                refine sg_get (ci := 12) (v := .ref (h 10)) (C := RX12) (T := TX12) (N := 55) hx hb hts (fun w h => List.mem_cons_of_mem _ (gx_12 w h)) hown hK hP 0 (by decide) rfl rfl 19 (by decide) (hts _ (List.mem_cons_of_mem _ mw_821)) (fun _ h9 => h9) rfl dX12_shifts_159 ?_
                refine lv_bipush (v := 61) hx hb dX12_shifts_162 (by decide) ?_
                refine lv_iload hx hb dX12_shifts_164 (lv_at hl 4 rfl) ?_
                refine lv_imul hx hb dX12_shifts_166 ?_
                refine lv_topi (fun v_34 ev_34 => ?_)
                have q_35 : v_34.toInt = 61 * y5_116.toInt := by rw [ev_34]; exact bn_mulJ (by decide) (by omega) (by omega)
                refine lv_iload hx hb dX12_shifts_167 (lv_at hl 5 rfl) ?_
                refine lv_iadd hx hb dX12_shifts_169 ?_
                refine lv_topi (fun v_36 ev_36 => ?_)
                have q_37 : v_36.toInt = v_34.toInt + y6_116.toInt := by rw [ev_36]; exact (bn_addI (by omega) (by omega)).trans (by omega)
                refine lv_iload hx hb dX12_shifts_170 (lv_at hl 6 rfl) ?_
                refine sg_iast hx hb hh hA hK hP hS 10 (by decide) 0 (fun _ => rfl) rfl (i := v_36) (x := y7_116) (vp_in_iff.mpr ⟨by omega, by omega⟩) dX12_shifts_172 (fun f_38 H locs ef_38 hP hS => ?_)
                have hI : sgI loM hiM f_38 := by rw [ef_38]; exact sgI.put hI 10 v_36.toNatClampNeg (bn_top _)
                have hF : sgK WkX12_shifts f f_38 := sgK.put hF ef_38 (by rfl)
                obtain ⟨v_39, ev_39⟩ : ∃ z : Int32, z = y6_116 + 1 := ⟨_, rfl⟩
                have q_40 : v_39.toInt = y6_116.toInt + 1 := by rw [ev_39]; exact (bn_addc y6_116 1 (by decide) (by omega) (by omega))
                refine lv_iinc (v := v_39) (lv' := [(6, .int v_39), (0, .ref (h 0)), (2, .int x1), (3, .int x2), (4, .int y4_116), (5, .int y5_116), (7, .int y7_116), (8, .int y8_116)]) hx hb dX12_shifts_173 hl (k := 5) rfl (by rw [ev_39]; rfl) (by decide) rfl (fun ls hl => ?_)
                refine lv_goto (tgt := 94) hx hb dX12_shifts_176 (by decide) ?_
                exact ih_94 y4_116 y5_116 v_39 f_38 _ _ _ (by omega) (by omega) (by omega) (by omega) (by omega) (by omega) (by omega) (by omega) hI hF hP hS (lv_sub hl [1, 2, 3, 4, 5, 0] rfl)
              · skip
                have c_33 : y8_116.toInt < 61 := (by have z := bn_nle c; have k1 : (61 : Int32).toInt = 61 := (by decide); omega)
                refine lv_aload_n hx hb dX12_shifts_123 rfl (lv_at hl 0 rfl) ?_
                refine lv_iload_n hx hb dX12_shifts_124 rfl (lv_at hl 1 rfl) ?_
                refine lv_iload hx hb dX12_shifts_125 (lv_at hl 4 rfl) ?_
                refine lv_iload hx hb dX12_shifts_127 (lv_at hl 5 rfl) ?_
                refine lv_iload hx hb dX12_shifts_129 (lv_at hl 7 rfl) ?_
                refine sg_calli (va_runV (As := [.int x1, .int y5_116, .int y6_116, .int y8_116]) (rest := []) ⟨hx, hb, hml, hown, hts⟩ (kX12_costBy l D ca za h hh fp_116 L Q hI x1 y5_116 y6_116 y8_116 (by omega) (by omega) (by omega) (by omega) H.size) (cwV 4 hts (gw_V (fun _ h => List.mem_cons_of_mem _ h) mw_865 mw_866 mw_867 mw_619 mw_864) rfl rfl rfl (by decide +kernel) ⟨Nat.le_of_ble_eq_true rfl, Nat.le_of_ble_eq_true rfl⟩) (sg_preV (ci := 12) (C := RX12) (T := TX12) (N := 55) hA hK hP hS hZ 0 (by decide) rfl rfl) rfl rfl hl.1 rfl (lv_room (Nat.le_of_ble_eq_true rfl)) dX12_shifts_131 ⟨Nat.le_refl _, Nat.le_refl _⟩) hA hS (fun r_44 f_41 L_42 Q_43 H locs hq hP hS => ?_)
                obtain ⟨⟨ef9, eL9, eQ9⟩, hq⟩ := hq
                rw [ef9, eL9, eQ9] at hP; clear ef9 eL9 eQ9
                refine lv_istore (lv' := [(9, .int r_44), (0, .ref (h 0)), (2, .int x1), (3, .int x2), (4, .int y4_116), (5, .int y5_116), (6, .int y6_116), (7, .int y7_116), (8, .int y8_116)]) hx hb dX12_shifts_134 hl (by decide) rfl (fun ls hl => ?_)
                refine lv_iload hx hb dX12_shifts_136 (lv_at hl 0 rfl) ?_
                refine lv_iload hx hb dX12_shifts_138 (lv_at hl 7 rfl) ?_
                refine lv_icmp_ge (tgt := 148) hx hb dX12_shifts_140 (by decide) (fun c => ?_) (fun c => ?_)
                · skip
                  have c_45 : y7_116.toInt ≤ r_44.toInt := (by have z := bn_le c; omega)
                  refine lv_iload hx hb dX12_shifts_148 (lv_at hl 7 rfl) ?_
                  refine lv_istore (lv' := [(7, .int y7_116), (9, .int r_44), (0, .ref (h 0)), (2, .int x1), (3, .int x2), (4, .int y4_116), (5, .int y5_116), (6, .int y6_116), (8, .int y8_116)]) hx hb dX12_shifts_150 hl (by decide) rfl (fun ls hl => ?_)
                  obtain ⟨v_47, ev_47⟩ : ∃ z : Int32, z = y8_116 + 1 := ⟨_, rfl⟩
                  have q_48 : v_47.toInt = y8_116.toInt + 1 := by rw [ev_47]; exact (bn_addc y8_116 1 (by decide) (by omega) (by omega))
                  refine lv_iinc (v := v_47) (lv' := [(8, .int v_47), (7, .int y7_116), (9, .int r_44), (0, .ref (h 0)), (2, .int x1), (3, .int x2), (4, .int y4_116), (5, .int y5_116), (6, .int y6_116)]) hx hb dX12_shifts_152 hl (k := 8) rfl (by rw [ev_47]; rfl) (by decide) rfl (fun ls hl => ?_)
                  refine lv_goto (tgt := 116) hx hb dX12_shifts_155 (by decide) ?_
                  exact ih_116 y4_116 y5_116 y6_116 y7_116 v_47 fp_116 _ _ _ (by omega) (by omega) (by omega) (by omega) (by omega) (by omega) (by omega) (by omega) (by omega) (by omega) hI hF hP hS (lv_sub hl [3, 4, 5, 6, 7, 8, 1, 0] rfl)
                · skip
                  have c_46 : r_44.toInt < y7_116.toInt := (by have z := bn_nle c; omega)
                  refine lv_iload hx hb dX12_shifts_143 (lv_at hl 0 rfl) ?_
                  refine lv_goto (tgt := 150) hx hb dX12_shifts_145 (by decide) ?_
                  refine lv_istore (lv' := [(7, .int r_44), (9, .int r_44), (0, .ref (h 0)), (2, .int x1), (3, .int x2), (4, .int y4_116), (5, .int y5_116), (6, .int y6_116), (8, .int y8_116)]) hx hb dX12_shifts_150 hl (by decide) rfl (fun ls hl => ?_)
                  obtain ⟨v_49, ev_49⟩ : ∃ z : Int32, z = y8_116 + 1 := ⟨_, rfl⟩
                  have q_50 : v_49.toInt = y8_116.toInt + 1 := by rw [ev_49]; exact (bn_addc y8_116 1 (by decide) (by omega) (by omega))
                  refine lv_iinc (v := v_49) (lv' := [(8, .int v_49), (7, .int r_44), (9, .int r_44), (0, .ref (h 0)), (2, .int x1), (3, .int x2), (4, .int y4_116), (5, .int y5_116), (6, .int y6_116)]) hx hb dX12_shifts_152 hl (k := 8) rfl (by rw [ev_49]; rfl) (by decide) rfl (fun ls hl => ?_)
                  refine lv_goto (tgt := 116) hx hb dX12_shifts_155 (by decide) ?_
                  exact ih_116 y4_116 y5_116 y6_116 r_44 v_49 fp_116 _ _ _ (by omega) (by omega) (by omega) (by omega) (by omega) (by omega) (by omega) (by omega) (by omega) (by omega) hI hF hP hS (lv_sub hl [3, 4, 5, 6, 7, 8, 1, 0] rfl)
          intro y4_94 y5_94 y6_94 fp_94 H locs ls hm_94 hm_86 hy0_94 hy1_94 hy2_94 hy3_94 hy4_94 hy5_94 hI hF hP hS hl
          refine lv_iload hx hb dX12_shifts_94 (lv_at hl 5 rfl) ?_
          refine lv_bipush (v := 61) hx hb dX12_shifts_96 (by decide) ?_
          refine lv_icmp_ge (tgt := 179) hx hb dX12_shifts_98 (by decide) (fun c => ?_) (fun c => ?_)
          · skip
            have c_51 : 61 ≤ y6_94.toInt := (by have z := bn_le c; have k1 : (61 : Int32).toInt = 61 := (by decide); omega)
            obtain ⟨v_53, ev_53⟩ : ∃ z : Int32, z = y5_94 + (-1) := ⟨_, rfl⟩
            have q_54 : v_53.toInt = y5_94.toInt + (-1) := by rw [ev_53]; exact (bn_addc y5_94 (-1) (by decide) (by omega) (by omega))
            refine lv_iinc (v := v_53) (lv' := [(5, .int v_53), (0, .ref (h 0)), (2, .int x1), (3, .int x2), (4, .int y4_94), (6, .int y6_94)]) hx hb dX12_shifts_179 hl (k := 4) rfl (by rw [ev_53]; rfl) (by decide) rfl (fun ls hl => ?_)
            refine lv_goto (tgt := 86) hx hb dX12_shifts_182 (by decide) ?_
            exact ih_86 y4_94 v_53 fp_94 _ _ _ (by omega) (by omega) (by omega) (by omega) (by omega) (by omega) hI hF hP hS (lv_sub hl [1, 2, 3, 4, 0] rfl)
          · skip
            have c_52 : y6_94.toInt < 61 := (by have z := bn_nle c; have k1 : (61 : Int32).toInt = 61 := (by decide); omega)
            refine lv_aload_n hx hb dX12_shifts_101 rfl (lv_at hl 0 rfl) ?_
            refine lv_iload_n hx hb dX12_shifts_102 rfl (lv_at hl 1 rfl) ?_
            refine lv_iload hx hb dX12_shifts_103 (lv_at hl 4 rfl) ?_
            refine lv_iload hx hb dX12_shifts_105 (lv_at hl 5 rfl) ?_
            refine lv_iconst (v := 0) hx hb dX12_shifts_107 (by decide) ?_
            refine sg_calli (va_runV (As := [.int x1, .int y5_94, .int y6_94, .int 0]) (rest := []) ⟨hx, hb, hml, hown, hts⟩ (kX12_costBy l D ca za h hh fp_94 L Q hI x1 y5_94 y6_94 0 (by omega) (by omega) (by omega) (by decide) H.size) (cwV 4 hts (gw_V (fun _ h => List.mem_cons_of_mem _ h) mw_865 mw_866 mw_867 mw_619 mw_864) rfl rfl rfl (by decide +kernel) ⟨Nat.le_of_ble_eq_true rfl, Nat.le_of_ble_eq_true rfl⟩) (sg_preV (ci := 12) (C := RX12) (T := TX12) (N := 55) hA hK hP hS hZ 0 (by decide) rfl rfl) rfl rfl hl.1 rfl (lv_room (Nat.le_of_ble_eq_true rfl)) dX12_shifts_108 ⟨Nat.le_refl _, Nat.le_refl _⟩) hA hS (fun r_58 f_55 L_56 Q_57 H locs hq hP hS => ?_)
            obtain ⟨⟨ef9, eL9, eQ9⟩, hq⟩ := hq
            rw [ef9, eL9, eQ9] at hP; clear ef9 eL9 eQ9
            refine lv_istore (lv' := [(7, .int r_58), (0, .ref (h 0)), (2, .int x1), (3, .int x2), (4, .int y4_94), (5, .int y5_94), (6, .int y6_94)]) hx hb dX12_shifts_111 hl (by decide) rfl (fun ls hl => ?_)
            refine lv_iconst (v := 1) hx hb dX12_shifts_113 (by decide) ?_
            refine lv_istore (lv' := [(8, .int 1), (7, .int r_58), (0, .ref (h 0)), (2, .int x1), (3, .int x2), (4, .int y4_94), (5, .int y5_94), (6, .int y6_94)]) hx hb dX12_shifts_114 hl (by decide) rfl (fun ls hl => ?_)
            exact loop_116 61 y4_94 y5_94 y6_94 r_58 1 fp_94 _ _ _ (by have kc4 : (1 : Int32).toInt = 1 := (by decide); omega) (by have kc4 : (1 : Int32).toInt = 1 := (by decide); omega) (by have kc4 : (1 : Int32).toInt = 1 := (by decide); omega) (by omega) (by omega) (by omega) (by omega) (by omega) (by omega) (by decide) hI hF hP hS (lv_sub hl [2, 3, 4, 5, 6, 7, 1, 0] rfl)
      intro y4_86 y5_86 fp_86 H locs ls hm_86 hy0_86 hy1_86 hy2_86 hy3_86 hy4_86 hI hF hP hS hl
      refine lv_iload hx hb dX12_shifts_86 (lv_at hl 4 rfl) ?_
      refine lv_if_lt (tgt := 185) hx hb dX12_shifts_88 (by decide) (fun c => ?_) (fun c => ?_)
      · skip
        have c_59 : y5_86.toInt < 0 := (by have z := bn_lt c; have k1 : (0 : Int32).toInt = 0 := (by decide); omega)
        refine lv_iload_n hx hb dX12_shifts_185 rfl (lv_at hl 2 rfl) ?_
        refine lv_if_ge (tgt := 201) hx hb dX12_shifts_186 (by decide) (fun c => ?_) (fun c => ?_)
        · skip
          have c_61 : 0 ≤ x2.toInt := (by have z := bn_le c; have k1 : (0 : Int32).toInt = 0 := (by decide); omega)
          refine lv_aload_n hx hb dX12_shifts_201 rfl (lv_at hl 0 rfl) ?_
          refine sg_get (ci := 12) (v := .ref (h 5)) (C := RX12) (T := TX12) (N := 55) hx hb hts (fun w h => List.mem_cons_of_mem _ (gx_12 w h)) hown hK hP 0 (by decide) rfl rfl 7 (by decide) (hts _ (List.mem_cons_of_mem _ mw_607)) (fun _ h9 => h9) rfl dX12_shifts_202 ?_
          refine lv_iload_n hx hb dX12_shifts_205 rfl (lv_at hl 1 rfl) ?_
          refine sg_iald hx hb hK hP 5 (by decide) 0 rfl rfl (i := x1) (vp_in_iff.mpr ⟨by omega, by omega⟩) dX12_shifts_206 ?_
          refine lv_topi (fun v_63 ev_63 => ?_)
          have q_64 : 0 ≤ v_63.toInt ∧ v_63.toInt ≤ 60 := by rw [ev_63]; exact hI 5 _
          refine lv_istore (lv' := [(5, .int v_63), (0, .ref (h 0)), (2, .int x1), (3, .int x2), (4, .int y4_86)]) hx hb dX12_shifts_207 hl (by decide) rfl (fun ls hl => ?_)
          refine lv_bipush (v := (-2)) hx hb dX12_shifts_209 (by decide) ?_
          refine lv_istore (lv' := [(6, .int (-2)), (5, .int v_63), (0, .ref (h 0)), (2, .int x1), (3, .int x2), (4, .int y4_86)]) hx hb dX12_shifts_211 hl (by decide) rfl (fun ls hl => ?_)
          refine lv_iconst (v := 0) hx hb dX12_shifts_213 (by decide) ?_
          refine lv_istore (lv' := [(7, .int 0), (6, .int (-2)), (5, .int v_63), (0, .ref (h 0)), (2, .int x1), (3, .int x2), (4, .int y4_86)]) hx hb dX12_shifts_214 hl (by decide) rfl (fun ls hl => ?_)
          exact loop_216 22 y4_86 v_63 (-2) 0 fp_86 _ _ _ (by have kc2 : ((-2) : Int32).toInt = (-2) := (by decide); have kc3 : (0 : Int32).toInt = 0 := (by decide); omega) (by omega) (by omega) (by omega) (by omega) (by omega) (by decide) (by decide) hI hF hP hS (lv_sub hl [3, 4, 5, 6, 2, 1, 0] rfl)
        · skip
          have c_62 : x2.toInt < 0 := (by have z := bn_nle c; have k1 : (0 : Int32).toInt = 0 := (by decide); omega)
          refine lv_aload_n hx hb dX12_shifts_189 rfl (lv_at hl 0 rfl) ?_
          refine sg_get (ci := 12) (v := .ref (h 10)) (C := RX12) (T := TX12) (N := 55) hx hb hts (fun w h => List.mem_cons_of_mem _ (gx_12 w h)) hown hK hP 0 (by decide) rfl rfl 19 (by decide) (hts _ (List.mem_cons_of_mem _ mw_821)) (fun _ h9 => h9) rfl dX12_shifts_190 ?_
          refine lv_aload_n hx hb dX12_shifts_193 rfl (lv_at hl 0 rfl) ?_
          refine sg_get (ci := 12) (v := .ref (h 5)) (C := RX12) (T := TX12) (N := 55) hx hb hts (fun w h => List.mem_cons_of_mem _ (gx_12 w h)) hown hK hP 0 (by decide) rfl rfl 7 (by decide) (hts _ (List.mem_cons_of_mem _ mw_607)) (fun _ h9 => h9) rfl dX12_shifts_194 ?_
          refine lv_iload_n hx hb dX12_shifts_197 rfl (lv_at hl 1 rfl) ?_
          refine sg_iald hx hb hK hP 5 (by decide) 0 rfl rfl (i := x1) (vp_in_iff.mpr ⟨by omega, by omega⟩) dX12_shifts_198 ?_
          refine lv_topi (fun v_65 ev_65 => ?_)
          have q_66 : 0 ≤ v_65.toInt ∧ v_65.toInt ≤ 60 := by rw [ev_65]; exact hI 5 _
          refine sg_iald hx hb hK hP 10 (by decide) 0 rfl rfl (i := v_65) (vp_in_iff.mpr ⟨by omega, by omega⟩) dX12_shifts_199 ?_
          refine lv_topi (fun v_67 ev_67 => ?_)
          exact hret _ _ _ _ (v_67) fp_86 L Q dX12_shifts_200 hP hS ⟨⟨hI, hF, rfl, rfl⟩, trivial⟩
      · skip
        have c_60 : 0 ≤ y5_86.toInt := (by have z := bn_nlt c; have k1 : (0 : Int32).toInt = 0 := (by decide); omega)
        refine lv_iconst (v := 0) hx hb dX12_shifts_91 (by decide) ?_
        refine lv_istore (lv' := [(6, .int 0), (0, .ref (h 0)), (2, .int x1), (3, .int x2), (4, .int y4_86), (5, .int y5_86)]) hx hb dX12_shifts_92 hl (by decide) rfl (fun ls hl => ?_)
        exact loop_94 62 y4_86 y5_86 0 fp_86 _ _ _ (by have kc2 : (0 : Int32).toInt = 0 := (by decide); omega) (by have kc2 : (0 : Int32).toInt = 0 := (by decide); omega) (by omega) (by omega) (by omega) (by omega) (by omega) (by decide) hI hF hP hS (lv_sub hl [1, 2, 3, 4, 5, 0] rfl)
  have loop_53 : ∀ (n_53 : Nat) (y4_53 : Int32) (y5_53 : Int32) (fp_53 : sg_F) (H : Heap) (locs : List Loc) (ls : Array Slot), 61 - y5_53.toInt < (n_53 : Int) → 0 ≤ x0.toInt ∧ x0.toInt ≤ 5 → 0 ≤ x1.toInt ∧ x1.toInt ≤ 2 → (-1) ≤ x2.toInt → 0 ≤ y4_53.toInt ∧ y4_53.toInt ≤ 21 → 0 ≤ y5_53.toInt ∧ y5_53.toInt ≤ 61 → sgI loM hiM fp_53 → sgK WkX12_shifts f fp_53 → va_P D vwCl (sgw 26 h (eM ca h) fp_53 L Q) H → va_S (sgA 26 h s.heap.size) s.heap H locs → lv_has ls 10 [(0, .ref (h 0)), (2, .int x1), (3, .int x2), (4, .int y4_53), (5, .int y5_53)] → W p l e ({ frames := 46, cells := 0, slots := 0, locals := 1056 }) s m ([.ref (h 0), .int x0, .int x1, .int x2] : List Value).toArray below meth cd H locs 0 0 Qz (F0 m 53 ls []) := by
    intro n_53
    induction n_53 with
    | zero => intro y4_53 y5_53 fp_53 H locs ls hm_53 hy0_53 hy1_53 hy2_53 hy3_53 hy4_53 hI hF hP hS hl; exact absurd hm_53 (by omega)
    | succ n_53 ih_53 =>
      intro y4_53 y5_53 fp_53 H locs ls hm_53 hy0_53 hy1_53 hy2_53 hy3_53 hy4_53 hI hF hP hS hl
      refine lv_iload hx hb dX12_shifts_53 (lv_at hl 4 rfl) ?_
      refine lv_bipush (v := 61) hx hb dX12_shifts_55 (by decide) ?_
      refine lv_icmp_ge (tgt := 80) hx hb dX12_shifts_57 (by decide) (fun c => ?_) (fun c => ?_)
      · skip
        have c_68 : 61 ≤ y5_53.toInt := (by have z := bn_le c; have k1 : (61 : Int32).toInt = 61 := (by decide); omega)
        refine lv_iload hx hb dX12_shifts_80 (lv_at hl 3 rfl) ?_
        refine lv_iconst (v := 1) hx hb dX12_shifts_82 (by decide) ?_
        refine lv_isub hx hb dX12_shifts_83 ?_
        refine lv_topi (fun v_70 ev_70 => ?_)
        have q_71 : v_70.toInt = y4_53.toInt - 1 := by rw [ev_70]; have k1 : (1 : Int32).toInt = 1 := (by decide); exact (bn_subI (by omega) (by omega)).trans (by omega)
        refine lv_istore (lv' := [(5, .int v_70), (0, .ref (h 0)), (2, .int x1), (3, .int x2), (4, .int y4_53)]) hx hb dX12_shifts_84 hl (by decide) rfl (fun ls hl => ?_)
        exact loop_86 22 y4_53 v_70 fp_53 _ _ _ (by omega) (by omega) (by omega) (by omega) (by omega) (by omega) hI hF hP hS (lv_sub hl [1, 2, 3, 4, 0] rfl)
      · skip
        have c_69 : y5_53.toInt < 61 := (by have z := bn_nle c; have k1 : (61 : Int32).toInt = 61 := (by decide); omega)
        refine lv_aload_n hx hb dX12_shifts_60 rfl (lv_at hl 0 rfl) ?_
        refine sg_get (ci := 12) (v := .ref (h 10)) (C := RX12) (T := TX12) (N := 55) hx hb hts (fun w h => List.mem_cons_of_mem _ (gx_12 w h)) hown hK hP 0 (by decide) rfl rfl 19 (by decide) (hts _ (List.mem_cons_of_mem _ mw_821)) (fun _ h9 => h9) rfl dX12_shifts_61 ?_
        refine lv_bipush (v := 61) hx hb dX12_shifts_64 (by decide) ?_
        refine lv_iload hx hb dX12_shifts_66 (lv_at hl 3 rfl) ?_
        refine lv_imul hx hb dX12_shifts_68 ?_
        refine lv_topi (fun v_72 ev_72 => ?_)
        have q_73 : v_72.toInt = 61 * y4_53.toInt := by rw [ev_72]; exact bn_mulJ (by decide) (by omega) (by omega)
        refine lv_iload hx hb dX12_shifts_69 (lv_at hl 4 rfl) ?_
        refine lv_iadd hx hb dX12_shifts_71 ?_
        refine lv_topi (fun v_74 ev_74 => ?_)
        have q_75 : v_74.toInt = v_72.toInt + y5_53.toInt := by rw [ev_74]; exact (bn_addI (by omega) (by omega)).trans (by omega)
        refine lv_iconst (v := 0) hx hb dX12_shifts_72 (by decide) ?_
        refine sg_iast hx hb hh hA hK hP hS 10 (by decide) 0 (fun _ => rfl) rfl (i := v_74) (x := 0) (vp_in_iff.mpr ⟨by omega, by omega⟩) dX12_shifts_73 (fun f_76 H locs ef_76 hP hS => ?_)
        have hI : sgI loM hiM f_76 := by rw [ef_76]; exact sgI.put hI 10 v_74.toNatClampNeg (bn_top _)
        have hF : sgK WkX12_shifts f f_76 := sgK.put hF ef_76 (by rfl)
        obtain ⟨v_77, ev_77⟩ : ∃ z : Int32, z = y5_53 + 1 := ⟨_, rfl⟩
        have q_78 : v_77.toInt = y5_53.toInt + 1 := by rw [ev_77]; exact (bn_addc y5_53 1 (by decide) (by omega) (by omega))
        refine lv_iinc (v := v_77) (lv' := [(5, .int v_77), (0, .ref (h 0)), (2, .int x1), (3, .int x2), (4, .int y4_53)]) hx hb dX12_shifts_74 hl (k := 4) rfl (by rw [ev_77]; rfl) (by decide) rfl (fun ls hl => ?_)
        refine lv_goto (tgt := 53) hx hb dX12_shifts_77 (by decide) ?_
        exact ih_53 y4_53 v_77 f_76 _ _ _ (by omega) (by omega) (by omega) (by omega) (by omega) (by omega) hI hF hP hS (lv_sub hl [1, 2, 3, 4, 0] rfl)
  refine lv_aload_n hx hb dX12_shifts_0 rfl (lv_at hl 0 rfl) ?_
  refine lv_iload_n hx hb dX12_shifts_1 rfl (lv_at hl 1 rfl) ?_
  refine sg_calli (va_runV (As := [.int x0]) (rest := []) ⟨hx, hb, hml, hown, hts⟩ (kX12_bytesIs l D ca za h hh f L Q hI x0 H.size) (cwV 1 hts (gw_V (fun _ h => List.mem_cons_of_mem _ h) mw_685 mw_686 mw_687 mw_619 mw_684) rfl rfl rfl (by decide +kernel) ⟨Nat.le_of_ble_eq_true rfl, Nat.le_of_ble_eq_true rfl⟩) (sg_preV (ci := 12) (C := RX12) (T := TX12) (N := 55) hA hK hP hS hZ 0 (by decide) rfl rfl) rfl rfl hl.1 rfl (lv_room (Nat.le_of_ble_eq_true rfl)) dX12_shifts_2 ⟨Nat.le_refl _, Nat.le_refl _⟩) hA hS (fun r_82 f_79 L_80 Q_81 H locs hq hP hS => ?_)
  obtain ⟨⟨ef9, eL9, eQ9⟩, hq⟩ := hq
  rw [ef9, eL9, eQ9] at hP; clear ef9 eL9 eQ9
  rcases hq with ⟨rfl, hq⟩ | hq | ⟨rfl, hq⟩
  · skip
    have q_83 := hq
    refine lv_iconst (v := (-1)) hx hb dX12_shifts_5 (by decide) ?_
    refine lv_icmp_eq (tgt := 21) hx hb dX12_shifts_6 (by decide) (fun c => absurd c (by decide)) (fun c => ?_)
    refine lv_iload_n hx hb dX12_shifts_9 rfl (lv_at hl 2 rfl) ?_
    refine sg_calli (va_runS (As := [.int x1]) (rest := []) ⟨hx, hb, hml, hown, hts⟩ (kX12_isPart l D ca za h hh f L Q hI x1 H.size) (va_cwS 1 hts (gw_S (fun _ h => List.mem_cons_of_mem _ h) mw_636 mw_637 mw_619 mw_635) rfl rfl rfl (by decide +kernel) ⟨Nat.le_of_ble_eq_true rfl, Nat.le_of_ble_eq_true rfl⟩) (sg_preS hA hK hP hS hZ) rfl rfl hl.1 rfl (lv_room (Nat.le_of_ble_eq_true rfl)) dX12_shifts_10 ⟨Nat.le_refl _, Nat.le_refl _⟩) hA hS (fun r_87 f_84 L_85 Q_86 H locs hq hP hS => ?_)
    obtain ⟨⟨ef9, eL9, eQ9⟩, hq⟩ := hq
    rw [ef9, eL9, eQ9] at hP; clear ef9 eL9 eQ9
    rcases hq with ⟨rfl, hq⟩ | ⟨rfl, hq⟩
    · skip
      have q_88 := hq
      refine lv_if_eq (tgt := 21) hx hb dX12_shifts_13 (by decide) (fun c => absurd c (by decide)) (fun c => ?_)
      refine lv_iload_n hx hb dX12_shifts_16 rfl (lv_at hl 3 rfl) ?_
      refine lv_iconst (v := (-1)) hx hb dX12_shifts_17 (by decide) ?_
      refine lv_icmp_ge (tgt := 23) hx hb dX12_shifts_18 (by decide) (fun c => ?_) (fun c => ?_)
      · skip
        have c_89 : (-1) ≤ x2.toInt := (by have z := bn_le c; have k1 : ((-1) : Int32).toInt = (-1) := (by decide); omega)
        refine lv_aload_n hx hb dX12_shifts_23 rfl (lv_at hl 0 rfl) ?_
        refine lv_iload_n hx hb dX12_shifts_24 rfl (lv_at hl 1 rfl) ?_
        refine sg_calli (va_runV (As := [.int x0]) (rest := []) ⟨hx, hb, hml, hown, hts⟩ (kX12_bytesIs l D ca za h hh f L Q hI x0 H.size) (cwV 1 hts (gw_V (fun _ h => List.mem_cons_of_mem _ h) mw_685 mw_686 mw_687 mw_619 mw_684) rfl rfl rfl (by decide +kernel) ⟨Nat.le_of_ble_eq_true rfl, Nat.le_of_ble_eq_true rfl⟩) (sg_preV (ci := 12) (C := RX12) (T := TX12) (N := 55) hA hK hP hS hZ 0 (by decide) rfl rfl) rfl rfl hl.1 rfl (lv_room (Nat.le_of_ble_eq_true rfl)) dX12_shifts_25 ⟨Nat.le_refl _, Nat.le_refl _⟩) hA hS (fun r_94 f_91 L_92 Q_93 H locs hq hP hS => ?_)
        obtain ⟨⟨ef9, eL9, eQ9⟩, hq⟩ := hq
        rw [ef9, eL9, eQ9] at hP; clear ef9 eL9 eQ9
        rcases hq with ⟨rfl, hq⟩ | hq | ⟨rfl, hq⟩
        · skip
          have q_95 := hq
          refine lv_if_ge (tgt := 37) hx hb dX12_shifts_28 (by decide) (fun c => ?_) (fun c => absurd c (by decide))
          refine lv_aload_n hx hb dX12_shifts_37 rfl (lv_at hl 0 rfl) ?_
          refine lv_iload_n hx hb dX12_shifts_38 rfl (lv_at hl 1 rfl) ?_
          refine sg_calli (va_runV (As := [.int x0]) (rest := []) ⟨hx, hb, hml, hown, hts⟩ (kX12_shiftsOf l D ca za h hh f L Q hI x0 (by omega) H.size) (cwV 1 hts (gw_V (fun _ h => List.mem_cons_of_mem _ h) mw_714 mw_715 mw_716 mw_619 mw_713) rfl rfl rfl (by decide +kernel) ⟨Nat.le_of_ble_eq_true rfl, Nat.le_of_ble_eq_true rfl⟩) (sg_preV (ci := 12) (C := RX12) (T := TX12) (N := 55) hA hK hP hS hZ 0 (by decide) rfl rfl) rfl rfl hl.1 rfl (lv_room (Nat.le_of_ble_eq_true rfl)) dX12_shifts_39 ⟨Nat.le_refl _, Nat.le_refl _⟩) hA hS (fun r_99 f_96 L_97 Q_98 H locs hq hP hS => ?_)
          obtain ⟨⟨ef9, eL9, eQ9⟩, hq⟩ := hq
          rw [ef9, eL9, eQ9] at hP; clear ef9 eL9 eQ9
          refine lv_istore (lv' := [(4, .int r_99), (0, .ref (h 0)), (1, .int x0), (2, .int x1), (3, .int x2)]) hx hb dX12_shifts_42 hl (by decide) rfl (fun ls hl => ?_)
          refine lv_aload_n hx hb dX12_shifts_44 rfl (lv_at hl 1 rfl) ?_
          refine lv_iload_n hx hb dX12_shifts_45 rfl (lv_at hl 2 rfl) ?_
          refine lv_iload_n hx hb dX12_shifts_46 rfl (lv_at hl 3 rfl) ?_
          refine sg_callv (va_runV (As := [.int x0, .int x1]) (rest := []) ⟨hx, hb, hml, hown, hts⟩ (kX12_asksLosses l D ca za h hh f L Q hI x0 x1 (by omega) (by omega) H.size) (cwV 2 hts (gw_V (fun _ h => List.mem_cons_of_mem _ h) mw_818 mw_819 mw_820 mw_619 mw_817) rfl rfl rfl (by decide +kernel) ⟨Nat.le_of_ble_eq_true rfl, Nat.le_of_ble_eq_true rfl⟩) (sg_preV (ci := 12) (C := RX12) (T := TX12) (N := 55) hA hK hP hS hZ 0 (by decide) rfl rfl) rfl rfl hl.1 rfl (lv_room (Nat.le_of_ble_eq_true rfl)) dX12_shifts_47 ⟨Nat.le_refl _, Nat.le_refl _⟩) hA hS (fun f_100 L_101 Q_102 H locs hq hP hS => ?_)
          obtain ⟨hI, hk_f_100, eL9, eQ9⟩ := hq
          rw [eL9, eQ9] at hP; clear eL9 eQ9
          have hF : sgK WkX12_shifts f f_100 := sgK.tr hF hk_f_100 (by decide)
          refine lv_iconst (v := 0) hx hb dX12_shifts_50 (by decide) ?_
          refine lv_istore (lv' := [(5, .int 0), (4, .int r_99), (0, .ref (h 0)), (1, .int x0), (2, .int x1), (3, .int x2)]) hx hb dX12_shifts_51 hl (by decide) rfl (fun ls hl => ?_)
          exact loop_53 62 r_99 0 f_100 _ _ _ (by have kc1 : (0 : Int32).toInt = 0 := (by decide); omega) (by omega) (by omega) (by omega) (by omega) (by decide) hI hF hP hS (lv_sub hl [2, 4, 5, 1, 0] rfl)
        · skip
          have q_103 := hq
          refine lv_if_ge (tgt := 37) hx hb dX12_shifts_28 (by decide) (fun c => ?_) (fun c => ?_)
          · skip
            exfalso; have c_104 : 0 ≤ r_94.toInt := (by have z := bn_le c; have k1 : (0 : Int32).toInt = 0 := (by decide); omega); omega
          · skip
            have c_105 : r_94.toInt < 0 := (by have z := bn_nle c; have k1 : (0 : Int32).toInt = 0 := (by decide); omega)
            refine lv_aload_n hx hb dX12_shifts_31 rfl (lv_at hl 0 rfl) ?_
            refine lv_iload_n hx hb dX12_shifts_32 rfl (lv_at hl 1 rfl) ?_
            refine sg_calli (va_runV (As := [.int x0]) (rest := []) ⟨hx, hb, hml, hown, hts⟩ (kX12_bytesIs l D ca za h hh f L Q hI x0 H.size) (cwV 1 hts (gw_V (fun _ h => List.mem_cons_of_mem _ h) mw_685 mw_686 mw_687 mw_619 mw_684) rfl rfl rfl (by decide +kernel) ⟨Nat.le_of_ble_eq_true rfl, Nat.le_of_ble_eq_true rfl⟩) (sg_preV (ci := 12) (C := RX12) (T := TX12) (N := 55) hA hK hP hS hZ 0 (by decide) rfl rfl) rfl rfl hl.1 rfl (lv_room (Nat.le_of_ble_eq_true rfl)) dX12_shifts_33 ⟨Nat.le_refl _, Nat.le_refl _⟩) hA hS (fun r_109 f_106 L_107 Q_108 H locs hq hP hS => ?_)
            obtain ⟨⟨ef9, eL9, eQ9⟩, hq⟩ := hq
            rw [ef9, eL9, eQ9] at hP; clear ef9 eL9 eQ9
            rcases hq with ⟨rfl, hq⟩ | hq | ⟨rfl, hq⟩
            · skip
              have q_110 := hq
              have k99 : (1 : Int32).toInt = 1 := (by decide)
              exact hret _ _ _ _ (1) f L Q dX12_shifts_36 hP hS ⟨⟨hI, hF, rfl, rfl⟩, trivial⟩
            · skip
              have q_111 := hq
              exact hret _ _ _ _ (r_109) f L Q dX12_shifts_36 hP hS ⟨⟨hI, hF, rfl, rfl⟩, trivial⟩
            · skip
              have q_112 := hq
              have k99 : ((-1) : Int32).toInt = (-1) := (by decide)
              exact hret _ _ _ _ (-1) f L Q dX12_shifts_36 hP hS ⟨⟨hI, hF, rfl, rfl⟩, trivial⟩
        · skip
          have q_113 := hq
          refine lv_if_ge (tgt := 37) hx hb dX12_shifts_28 (by decide) (fun c => absurd c (by decide)) (fun c => ?_)
          refine lv_aload_n hx hb dX12_shifts_31 rfl (lv_at hl 0 rfl) ?_
          refine lv_iload_n hx hb dX12_shifts_32 rfl (lv_at hl 1 rfl) ?_
          refine sg_calli (va_runV (As := [.int x0]) (rest := []) ⟨hx, hb, hml, hown, hts⟩ (kX12_bytesIs l D ca za h hh f L Q hI x0 H.size) (cwV 1 hts (gw_V (fun _ h => List.mem_cons_of_mem _ h) mw_685 mw_686 mw_687 mw_619 mw_684) rfl rfl rfl (by decide +kernel) ⟨Nat.le_of_ble_eq_true rfl, Nat.le_of_ble_eq_true rfl⟩) (sg_preV (ci := 12) (C := RX12) (T := TX12) (N := 55) hA hK hP hS hZ 0 (by decide) rfl rfl) rfl rfl hl.1 rfl (lv_room (Nat.le_of_ble_eq_true rfl)) dX12_shifts_33 ⟨Nat.le_refl _, Nat.le_refl _⟩) hA hS (fun r_117 f_114 L_115 Q_116 H locs hq hP hS => ?_)
          obtain ⟨⟨ef9, eL9, eQ9⟩, hq⟩ := hq
          rw [ef9, eL9, eQ9] at hP; clear ef9 eL9 eQ9
          rcases hq with ⟨rfl, hq⟩ | hq | ⟨rfl, hq⟩
          · skip
            have q_118 := hq
            have k99 : (1 : Int32).toInt = 1 := (by decide)
            exact hret _ _ _ _ (1) f L Q dX12_shifts_36 hP hS ⟨⟨hI, hF, rfl, rfl⟩, trivial⟩
          · skip
            have q_119 := hq
            exact hret _ _ _ _ (r_117) f L Q dX12_shifts_36 hP hS ⟨⟨hI, hF, rfl, rfl⟩, trivial⟩
          · skip
            have q_120 := hq
            have k99 : ((-1) : Int32).toInt = (-1) := (by decide)
            exact hret _ _ _ _ (-1) f L Q dX12_shifts_36 hP hS ⟨⟨hI, hF, rfl, rfl⟩, trivial⟩
      · skip
        have c_90 : x2.toInt < (-1) := (by have z := bn_nle c; have k1 : ((-1) : Int32).toInt = (-1) := (by decide); omega)
        refine lv_iconst (v := (-1)) hx hb dX12_shifts_21 (by decide) ?_
        have k99 : ((-1) : Int32).toInt = (-1) := (by decide)
        exact hret _ _ _ _ (-1) f L Q dX12_shifts_22 hP hS ⟨⟨hI, hF, rfl, rfl⟩, trivial⟩
    · skip
      have q_121 := hq
      refine lv_if_eq (tgt := 21) hx hb dX12_shifts_13 (by decide) (fun c => ?_) (fun c => absurd c (by decide))
      refine lv_iconst (v := (-1)) hx hb dX12_shifts_21 (by decide) ?_
      have k99 : ((-1) : Int32).toInt = (-1) := (by decide)
      exact hret _ _ _ _ (-1) f L Q dX12_shifts_22 hP hS ⟨⟨hI, hF, rfl, rfl⟩, trivial⟩
  · skip
    have q_122 := hq
    refine lv_iconst (v := (-1)) hx hb dX12_shifts_5 (by decide) ?_
    refine lv_icmp_eq (tgt := 21) hx hb dX12_shifts_6 (by decide) (fun c => ?_) (fun c => ?_)
    · skip
      exfalso; have c_123 : r_82.toInt = (-1) := (by have z := Int32.toInt_inj.mpr c; have k1 : ((-1) : Int32).toInt = (-1) := (by decide); omega); omega
    · skip
      have c_124 : r_82.toInt ≠ (-1) := (by have z := bn_ne c; have k1 : ((-1) : Int32).toInt = (-1) := (by decide); omega)
      refine lv_iload_n hx hb dX12_shifts_9 rfl (lv_at hl 2 rfl) ?_
      refine sg_calli (va_runS (As := [.int x1]) (rest := []) ⟨hx, hb, hml, hown, hts⟩ (kX12_isPart l D ca za h hh f L Q hI x1 H.size) (va_cwS 1 hts (gw_S (fun _ h => List.mem_cons_of_mem _ h) mw_636 mw_637 mw_619 mw_635) rfl rfl rfl (by decide +kernel) ⟨Nat.le_of_ble_eq_true rfl, Nat.le_of_ble_eq_true rfl⟩) (sg_preS hA hK hP hS hZ) rfl rfl hl.1 rfl (lv_room (Nat.le_of_ble_eq_true rfl)) dX12_shifts_10 ⟨Nat.le_refl _, Nat.le_refl _⟩) hA hS (fun r_128 f_125 L_126 Q_127 H locs hq hP hS => ?_)
      obtain ⟨⟨ef9, eL9, eQ9⟩, hq⟩ := hq
      rw [ef9, eL9, eQ9] at hP; clear ef9 eL9 eQ9
      rcases hq with ⟨rfl, hq⟩ | ⟨rfl, hq⟩
      · skip
        have q_129 := hq
        refine lv_if_eq (tgt := 21) hx hb dX12_shifts_13 (by decide) (fun c => absurd c (by decide)) (fun c => ?_)
        refine lv_iload_n hx hb dX12_shifts_16 rfl (lv_at hl 3 rfl) ?_
        refine lv_iconst (v := (-1)) hx hb dX12_shifts_17 (by decide) ?_
        refine lv_icmp_ge (tgt := 23) hx hb dX12_shifts_18 (by decide) (fun c => ?_) (fun c => ?_)
        · skip
          have c_130 : (-1) ≤ x2.toInt := (by have z := bn_le c; have k1 : ((-1) : Int32).toInt = (-1) := (by decide); omega)
          refine lv_aload_n hx hb dX12_shifts_23 rfl (lv_at hl 0 rfl) ?_
          refine lv_iload_n hx hb dX12_shifts_24 rfl (lv_at hl 1 rfl) ?_
          refine sg_calli (va_runV (As := [.int x0]) (rest := []) ⟨hx, hb, hml, hown, hts⟩ (kX12_bytesIs l D ca za h hh f L Q hI x0 H.size) (cwV 1 hts (gw_V (fun _ h => List.mem_cons_of_mem _ h) mw_685 mw_686 mw_687 mw_619 mw_684) rfl rfl rfl (by decide +kernel) ⟨Nat.le_of_ble_eq_true rfl, Nat.le_of_ble_eq_true rfl⟩) (sg_preV (ci := 12) (C := RX12) (T := TX12) (N := 55) hA hK hP hS hZ 0 (by decide) rfl rfl) rfl rfl hl.1 rfl (lv_room (Nat.le_of_ble_eq_true rfl)) dX12_shifts_25 ⟨Nat.le_refl _, Nat.le_refl _⟩) hA hS (fun r_135 f_132 L_133 Q_134 H locs hq hP hS => ?_)
          obtain ⟨⟨ef9, eL9, eQ9⟩, hq⟩ := hq
          rw [ef9, eL9, eQ9] at hP; clear ef9 eL9 eQ9
          rcases hq with ⟨rfl, hq⟩ | hq | ⟨rfl, hq⟩
          · skip
            have q_136 := hq
            refine lv_if_ge (tgt := 37) hx hb dX12_shifts_28 (by decide) (fun c => ?_) (fun c => absurd c (by decide))
            refine lv_aload_n hx hb dX12_shifts_37 rfl (lv_at hl 0 rfl) ?_
            refine lv_iload_n hx hb dX12_shifts_38 rfl (lv_at hl 1 rfl) ?_
            refine sg_calli (va_runV (As := [.int x0]) (rest := []) ⟨hx, hb, hml, hown, hts⟩ (kX12_shiftsOf l D ca za h hh f L Q hI x0 (by omega) H.size) (cwV 1 hts (gw_V (fun _ h => List.mem_cons_of_mem _ h) mw_714 mw_715 mw_716 mw_619 mw_713) rfl rfl rfl (by decide +kernel) ⟨Nat.le_of_ble_eq_true rfl, Nat.le_of_ble_eq_true rfl⟩) (sg_preV (ci := 12) (C := RX12) (T := TX12) (N := 55) hA hK hP hS hZ 0 (by decide) rfl rfl) rfl rfl hl.1 rfl (lv_room (Nat.le_of_ble_eq_true rfl)) dX12_shifts_39 ⟨Nat.le_refl _, Nat.le_refl _⟩) hA hS (fun r_140 f_137 L_138 Q_139 H locs hq hP hS => ?_)
            obtain ⟨⟨ef9, eL9, eQ9⟩, hq⟩ := hq
            rw [ef9, eL9, eQ9] at hP; clear ef9 eL9 eQ9
            refine lv_istore (lv' := [(4, .int r_140), (0, .ref (h 0)), (1, .int x0), (2, .int x1), (3, .int x2)]) hx hb dX12_shifts_42 hl (by decide) rfl (fun ls hl => ?_)
            refine lv_aload_n hx hb dX12_shifts_44 rfl (lv_at hl 1 rfl) ?_
            refine lv_iload_n hx hb dX12_shifts_45 rfl (lv_at hl 2 rfl) ?_
            refine lv_iload_n hx hb dX12_shifts_46 rfl (lv_at hl 3 rfl) ?_
            refine sg_callv (va_runV (As := [.int x0, .int x1]) (rest := []) ⟨hx, hb, hml, hown, hts⟩ (kX12_asksLosses l D ca za h hh f L Q hI x0 x1 (by omega) (by omega) H.size) (cwV 2 hts (gw_V (fun _ h => List.mem_cons_of_mem _ h) mw_818 mw_819 mw_820 mw_619 mw_817) rfl rfl rfl (by decide +kernel) ⟨Nat.le_of_ble_eq_true rfl, Nat.le_of_ble_eq_true rfl⟩) (sg_preV (ci := 12) (C := RX12) (T := TX12) (N := 55) hA hK hP hS hZ 0 (by decide) rfl rfl) rfl rfl hl.1 rfl (lv_room (Nat.le_of_ble_eq_true rfl)) dX12_shifts_47 ⟨Nat.le_refl _, Nat.le_refl _⟩) hA hS (fun f_141 L_142 Q_143 H locs hq hP hS => ?_)
            obtain ⟨hI, hk_f_141, eL9, eQ9⟩ := hq
            rw [eL9, eQ9] at hP; clear eL9 eQ9
            have hF : sgK WkX12_shifts f f_141 := sgK.tr hF hk_f_141 (by decide)
            refine lv_iconst (v := 0) hx hb dX12_shifts_50 (by decide) ?_
            refine lv_istore (lv' := [(5, .int 0), (4, .int r_140), (0, .ref (h 0)), (1, .int x0), (2, .int x1), (3, .int x2)]) hx hb dX12_shifts_51 hl (by decide) rfl (fun ls hl => ?_)
            exact loop_53 62 r_140 0 f_141 _ _ _ (by have kc1 : (0 : Int32).toInt = 0 := (by decide); omega) (by omega) (by omega) (by omega) (by omega) (by decide) hI hF hP hS (lv_sub hl [2, 4, 5, 1, 0] rfl)
          · skip
            have q_144 := hq
            refine lv_if_ge (tgt := 37) hx hb dX12_shifts_28 (by decide) (fun c => ?_) (fun c => ?_)
            · skip
              exfalso; have c_145 : 0 ≤ r_135.toInt := (by have z := bn_le c; have k1 : (0 : Int32).toInt = 0 := (by decide); omega); omega
            · skip
              have c_146 : r_135.toInt < 0 := (by have z := bn_nle c; have k1 : (0 : Int32).toInt = 0 := (by decide); omega)
              refine lv_aload_n hx hb dX12_shifts_31 rfl (lv_at hl 0 rfl) ?_
              refine lv_iload_n hx hb dX12_shifts_32 rfl (lv_at hl 1 rfl) ?_
              refine sg_calli (va_runV (As := [.int x0]) (rest := []) ⟨hx, hb, hml, hown, hts⟩ (kX12_bytesIs l D ca za h hh f L Q hI x0 H.size) (cwV 1 hts (gw_V (fun _ h => List.mem_cons_of_mem _ h) mw_685 mw_686 mw_687 mw_619 mw_684) rfl rfl rfl (by decide +kernel) ⟨Nat.le_of_ble_eq_true rfl, Nat.le_of_ble_eq_true rfl⟩) (sg_preV (ci := 12) (C := RX12) (T := TX12) (N := 55) hA hK hP hS hZ 0 (by decide) rfl rfl) rfl rfl hl.1 rfl (lv_room (Nat.le_of_ble_eq_true rfl)) dX12_shifts_33 ⟨Nat.le_refl _, Nat.le_refl _⟩) hA hS (fun r_150 f_147 L_148 Q_149 H locs hq hP hS => ?_)
              obtain ⟨⟨ef9, eL9, eQ9⟩, hq⟩ := hq
              rw [ef9, eL9, eQ9] at hP; clear ef9 eL9 eQ9
              rcases hq with ⟨rfl, hq⟩ | hq | ⟨rfl, hq⟩
              · skip
                have q_151 := hq
                have k99 : (1 : Int32).toInt = 1 := (by decide)
                exact hret _ _ _ _ (1) f L Q dX12_shifts_36 hP hS ⟨⟨hI, hF, rfl, rfl⟩, trivial⟩
              · skip
                have q_152 := hq
                exact hret _ _ _ _ (r_150) f L Q dX12_shifts_36 hP hS ⟨⟨hI, hF, rfl, rfl⟩, trivial⟩
              · skip
                have q_153 := hq
                have k99 : ((-1) : Int32).toInt = (-1) := (by decide)
                exact hret _ _ _ _ (-1) f L Q dX12_shifts_36 hP hS ⟨⟨hI, hF, rfl, rfl⟩, trivial⟩
          · skip
            have q_154 := hq
            refine lv_if_ge (tgt := 37) hx hb dX12_shifts_28 (by decide) (fun c => absurd c (by decide)) (fun c => ?_)
            refine lv_aload_n hx hb dX12_shifts_31 rfl (lv_at hl 0 rfl) ?_
            refine lv_iload_n hx hb dX12_shifts_32 rfl (lv_at hl 1 rfl) ?_
            refine sg_calli (va_runV (As := [.int x0]) (rest := []) ⟨hx, hb, hml, hown, hts⟩ (kX12_bytesIs l D ca za h hh f L Q hI x0 H.size) (cwV 1 hts (gw_V (fun _ h => List.mem_cons_of_mem _ h) mw_685 mw_686 mw_687 mw_619 mw_684) rfl rfl rfl (by decide +kernel) ⟨Nat.le_of_ble_eq_true rfl, Nat.le_of_ble_eq_true rfl⟩) (sg_preV (ci := 12) (C := RX12) (T := TX12) (N := 55) hA hK hP hS hZ 0 (by decide) rfl rfl) rfl rfl hl.1 rfl (lv_room (Nat.le_of_ble_eq_true rfl)) dX12_shifts_33 ⟨Nat.le_refl _, Nat.le_refl _⟩) hA hS (fun r_158 f_155 L_156 Q_157 H locs hq hP hS => ?_)
            obtain ⟨⟨ef9, eL9, eQ9⟩, hq⟩ := hq
            rw [ef9, eL9, eQ9] at hP; clear ef9 eL9 eQ9
            rcases hq with ⟨rfl, hq⟩ | hq | ⟨rfl, hq⟩
            · skip
              have q_159 := hq
              have k99 : (1 : Int32).toInt = 1 := (by decide)
              exact hret _ _ _ _ (1) f L Q dX12_shifts_36 hP hS ⟨⟨hI, hF, rfl, rfl⟩, trivial⟩
            · skip
              have q_160 := hq
              exact hret _ _ _ _ (r_158) f L Q dX12_shifts_36 hP hS ⟨⟨hI, hF, rfl, rfl⟩, trivial⟩
            · skip
              have q_161 := hq
              have k99 : ((-1) : Int32).toInt = (-1) := (by decide)
              exact hret _ _ _ _ (-1) f L Q dX12_shifts_36 hP hS ⟨⟨hI, hF, rfl, rfl⟩, trivial⟩
        · skip
          have c_131 : x2.toInt < (-1) := (by have z := bn_nle c; have k1 : ((-1) : Int32).toInt = (-1) := (by decide); omega)
          refine lv_iconst (v := (-1)) hx hb dX12_shifts_21 (by decide) ?_
          have k99 : ((-1) : Int32).toInt = (-1) := (by decide)
          exact hret _ _ _ _ (-1) f L Q dX12_shifts_22 hP hS ⟨⟨hI, hF, rfl, rfl⟩, trivial⟩
      · skip
        have q_162 := hq
        refine lv_if_eq (tgt := 21) hx hb dX12_shifts_13 (by decide) (fun c => ?_) (fun c => absurd c (by decide))
        refine lv_iconst (v := (-1)) hx hb dX12_shifts_21 (by decide) ?_
        have k99 : ((-1) : Int32).toInt = (-1) := (by decide)
        exact hret _ _ _ _ (-1) f L Q dX12_shifts_22 hP hS ⟨⟨hI, hF, rfl, rfl⟩, trivial⟩
  · skip
    have q_163 := hq
    refine lv_iconst (v := (-1)) hx hb dX12_shifts_5 (by decide) ?_
    refine lv_icmp_eq (tgt := 21) hx hb dX12_shifts_6 (by decide) (fun c => ?_) (fun c => absurd c (by decide))
    refine lv_iconst (v := (-1)) hx hb dX12_shifts_21 (by decide) ?_
    have k99 : ((-1) : Int32).toInt = (-1) := (by decide)
    exact hret _ _ _ _ (-1) f L Q dX12_shifts_22 hP hS ⟨⟨hI, hF, rfl, rfl⟩, trivial⟩

abbrev WkX12_once : List (Nat × Nat × Option Nat) := [(0, 0, some 12), (0, 0, some 13), (0, 0, some 14), (0, 0, some 15), (0, 0, some 16), (8, 8, none), (9, 9, none)]
set_option maxHeartbeats 4000000 in
set_option maxRecDepth 100000 in
theorem kX12_once (l : Launch) (D : va_G) (ca : Nat → ClassId) (za h : Nat → Nat) (hh : sgH 26 h) (f : sg_F) (L : sg_L) (Q : sg_Q) (hI : sgI loM hiM f) (x0 : Int32) (x1 : Int32) (x2 : Int32) (sz : Nat) : Met l yX12_once gwX12_once { frames := 46, cells := 0, slots := 0, locals := 1056 } (sgP D vwCl (tyX ca) 26 h (eM ca h) zcM za f L Q sz [.ref (h 0), .int x0, .int x1, .int x2]) (sgQi D vwCl 26 h (eM ca h) sz (fun r f1 L1 Q1 => ((sgI loM hiM f1 ∧ sgK WkX12_once f f1 ∧ L1 = L ∧ Q1 = Q) ∧ True))) 0 0 (sgA 26 h sz) := by
  refine sg_ofWi (cc := cX12_once) (maxL := 13) RX12 (by decide) rfl rfl (Nat.le_of_ble_eq_true rfl) ?_
  intro p e s m below meth cd Qz ls hx hb hml hown hts hK hZ hP hS hl hret
  have hA := sgY.self (n := 26) (h := h) (sz := s.heap.size)
  have hl : lv_has ls 13 [(0, .ref (h 0)), (1, .int x0), (2, .int x1), (3, .int x2)] := hl
  obtain ⟨H, hH⟩ : ∃ z : Heap, z = s.heap := ⟨_, rfl⟩
  obtain ⟨locs, hlo⟩ : ∃ z : List Loc, z = [] := ⟨_, rfl⟩
  have hP : va_P D vwCl (sgw 26 h (eM ca h) f L Q) H := by rw [hH]; exact hP
  have hS : va_S (sgA 26 h s.heap.size) s.heap H locs := by rw [hH, hlo]; exact hS
  suffices hgo : W p l e ({ frames := 46, cells := 0, slots := 0, locals := 1056 }) s m ([.ref (h 0), .int x0, .int x1, .int x2] : List Value).toArray below meth cd H locs 0 0 Qz (F0 m 0 ls []) by rw [hH, hlo] at hgo; exact hgo
  clear hH hlo
  have hF : sgK WkX12_once f f := sgK.rf
  have loop_71 : ∀ (n_71 : Nat) (y4_71 : Int32) (y5_71 : Int32) (y6_71 : Int32) (y7_71 : Int32) (y8_71 : Int32) (fp_71 : sg_F) (H : Heap) (locs : List Loc) (ls : Array Slot), 21 - y8_71.toInt < (n_71 : Int) → 0 ≤ x0.toInt ∧ x0.toInt ≤ 5 → 0 ≤ x1.toInt ∧ x1.toInt ≤ 2 → 0 ≤ x2.toInt ∧ x2.toInt ≤ 2 → 0 ≤ y4_71.toInt ∧ y4_71.toInt ≤ 21 → (-2) ≤ y6_71.toInt ∧ y6_71.toInt ≤ 20 → (-2) ≤ y7_71.toInt ∧ y7_71.toInt ≤ 60 → (-1) ≤ y8_71.toInt ∧ y8_71.toInt ≤ 21 → sgI loM hiM fp_71 → sgK WkX12_once f fp_71 → va_P D vwCl (sgw 26 h (eM ca h) fp_71 L Q) H → va_S (sgA 26 h s.heap.size) s.heap H locs → lv_has ls 13 [(0, .ref (h 0)), (2, .int x1), (3, .int x2), (4, .int y4_71), (5, .int y5_71), (6, .int y6_71), (7, .int y7_71), (8, .int y8_71)] → W p l e ({ frames := 46, cells := 0, slots := 0, locals := 1056 }) s m ([.ref (h 0), .int x0, .int x1, .int x2] : List Value).toArray below meth cd H locs 0 0 Qz (F0 m 71 ls []) := by
    intro n_71
    induction n_71 with
    | zero => intro y4_71 y5_71 y6_71 y7_71 y8_71 fp_71 H locs ls hm_71 hy0_71 hy1_71 hy2_71 hy3_71 hy4_71 hy5_71 hy6_71 hI hF hP hS hl; exact absurd hm_71 (by omega)
    | succ n_71 ih_71 =>
      have loop_81 : ∀ (n_81 : Nat) (y4_81 : Int32) (y5_81 : Int32) (y6_81 : Int32) (y7_81 : Int32) (y8_81 : Int32) (y9_81 : Int32) (fp_81 : sg_F) (H : Heap) (locs : List Loc) (ls : Array Slot), 61 - y9_81.toInt < (n_81 : Int) → 21 - y8_81.toInt < ((n_71 + 1 : Nat) : Int) → 0 ≤ x0.toInt ∧ x0.toInt ≤ 5 → 0 ≤ x1.toInt ∧ x1.toInt ≤ 2 → 0 ≤ x2.toInt ∧ x2.toInt ≤ 2 → 0 ≤ y4_81.toInt ∧ y4_81.toInt ≤ 21 → (-2) ≤ y6_81.toInt ∧ y6_81.toInt ≤ 20 → (-2) ≤ y7_81.toInt ∧ y7_81.toInt ≤ 60 → (-1) ≤ y8_81.toInt ∧ y8_81.toInt ≤ 20 → 0 ≤ y9_81.toInt ∧ y9_81.toInt ≤ 61 → sgI loM hiM fp_81 → sgK WkX12_once f fp_81 → va_P D vwCl (sgw 26 h (eM ca h) fp_81 L Q) H → va_S (sgA 26 h s.heap.size) s.heap H locs → lv_has ls 13 [(0, .ref (h 0)), (2, .int x1), (3, .int x2), (4, .int y4_81), (5, .int y5_81), (6, .int y6_81), (7, .int y7_81), (8, .int y8_81), (9, .int y9_81)] → W p l e ({ frames := 46, cells := 0, slots := 0, locals := 1056 }) s m ([.ref (h 0), .int x0, .int x1, .int x2] : List Value).toArray below meth cd H locs 0 0 Qz (F0 m 81 ls []) := by
        intro n_81
        induction n_81 with
        | zero => intro y4_81 y5_81 y6_81 y7_81 y8_81 y9_81 fp_81 H locs ls hm_81 hm_71 hy0_81 hy1_81 hy2_81 hy3_81 hy4_81 hy5_81 hy6_81 hy7_81 hI hF hP hS hl; exact absurd hm_81 (by omega)
        | succ n_81 ih_81 =>
          have blk_245 : ∀ (y4_245 : Int32) (y5_245 : Int32) (y6_245 : Int32) (y7_245 : Int32) (y8_245 : Int32) (y9_245 : Int32) (fp_245 : sg_F) (H : Heap) (locs : List Loc) (ls : Array Slot), 21 - y8_245.toInt < ((n_71 + 1 : Nat) : Int) → 61 - y9_245.toInt < ((n_81 + 1 : Nat) : Int) → 0 ≤ x0.toInt ∧ x0.toInt ≤ 5 → 0 ≤ x1.toInt ∧ x1.toInt ≤ 2 → 0 ≤ x2.toInt ∧ x2.toInt ≤ 2 → 0 ≤ y4_245.toInt ∧ y4_245.toInt ≤ 21 → (-2) ≤ y6_245.toInt ∧ y6_245.toInt ≤ 20 → (-2) ≤ y7_245.toInt ∧ y7_245.toInt ≤ 60 → (-1) ≤ y8_245.toInt ∧ y8_245.toInt ≤ 20 → 0 ≤ y9_245.toInt ∧ y9_245.toInt ≤ 60 → sgI loM hiM fp_245 → sgK WkX12_once f fp_245 → va_P D vwCl (sgw 26 h (eM ca h) fp_245 L Q) H → va_S (sgA 26 h s.heap.size) s.heap H locs → lv_has ls 13 [(0, .ref (h 0)), (2, .int x1), (3, .int x2), (4, .int y4_245), (5, .int y5_245), (6, .int y6_245), (7, .int y7_245), (8, .int y8_245), (9, .int y9_245)] → W p l e ({ frames := 46, cells := 0, slots := 0, locals := 1056 }) s m ([.ref (h 0), .int x0, .int x1, .int x2] : List Value).toArray below meth cd H locs 0 0 Qz (F0 m 245 ls []) := by
            intro y4_245 y5_245 y6_245 y7_245 y8_245 y9_245 fp_245 H locs ls hm_71 hm_81 hy0_245 hy1_245 hy2_245 hy3_245 hy4_245 hy5_245 hy6_245 hy7_245 hI hF hP hS hl
            obtain ⟨v_1, ev_1⟩ : ∃ z : Int32, z = y9_245 + 1 := ⟨_, rfl⟩
            have q_2 : v_1.toInt = y9_245.toInt + 1 := by rw [ev_1]; exact (bn_addc y9_245 1 (by decide) (by omega) (by omega))
            refine lv_iinc (v := v_1) (lv' := [(9, .int v_1), (0, .ref (h 0)), (2, .int x1), (3, .int x2), (4, .int y4_245), (5, .int y5_245), (6, .int y6_245), (7, .int y7_245), (8, .int y8_245)]) hx hb dX12_once_245 hl (k := 8) rfl (by rw [ev_1]; rfl) (by decide) rfl (fun ls hl => ?_)
            refine lv_goto (tgt := 81) hx hb dX12_once_248 (by decide) ?_
            exact ih_81 y4_245 y5_245 y6_245 y7_245 y8_245 v_1 fp_245 _ _ _ (by omega) (by omega) (by omega) (by omega) (by omega) (by omega) (by omega) (by omega) (by omega) (by omega) hI hF hP hS (lv_sub hl [1, 2, 3, 4, 5, 6, 7, 8, 0] rfl)
          have blk_213 : ∀ (y11_213 : Int32) (y4_213 : Int32) (y8_213 : Int32) (y9_213 : Int32) (fp_213 : sg_F) (H : Heap) (locs : List Loc) (ls : Array Slot), 21 - y8_213.toInt < ((n_71 + 1 : Nat) : Int) → 61 - y9_213.toInt < ((n_81 + 1 : Nat) : Int) → 0 ≤ x0.toInt ∧ x0.toInt ≤ 5 → 0 ≤ x1.toInt ∧ x1.toInt ≤ 2 → 0 ≤ x2.toInt ∧ x2.toInt ≤ 2 → 0 ≤ y4_213.toInt ∧ y4_213.toInt ≤ 21 → (-1) ≤ y8_213.toInt ∧ y8_213.toInt ≤ 20 → 0 ≤ y9_213.toInt ∧ y9_213.toInt ≤ 60 → sgI loM hiM fp_213 → sgK WkX12_once f fp_213 → va_P D vwCl (sgw 26 h (eM ca h) fp_213 L Q) H → va_S (sgA 26 h s.heap.size) s.heap H locs → lv_has ls 13 [(0, .ref (h 0)), (2, .int x1), (3, .int x2), (4, .int y4_213), (8, .int y8_213), (9, .int y9_213), (11, .int y11_213)] → W p l e ({ frames := 46, cells := 0, slots := 0, locals := 1056 }) s m ([.ref (h 0), .int x0, .int x1, .int x2] : List Value).toArray below meth cd H locs 0 0 Qz (F0 m 213 ls []) := by
            intro y11_213 y4_213 y8_213 y9_213 fp_213 H locs ls hm_71 hm_81 hy0_213 hy1_213 hy2_213 hy3_213 hy4_213 hy5_213 hI hF hP hS hl
            refine lv_iload hx hb dX12_once_213 (lv_at hl 6 rfl) ?_
            refine lv_istore (lv' := [(5, .int y11_213), (0, .ref (h 0)), (2, .int x1), (3, .int x2), (4, .int y4_213), (8, .int y8_213), (9, .int y9_213), (11, .int y11_213)]) hx hb dX12_once_215 hl (by decide) rfl (fun ls hl => ?_)
            refine lv_iload hx hb dX12_once_217 (lv_at hl 5 rfl) ?_
            refine lv_if_ge (tgt := 227) hx hb dX12_once_219 (by decide) (fun c => ?_) (fun c => ?_)
            · skip
              have c_3 : 0 ≤ y8_213.toInt := (by have z := bn_le c; have k1 : (0 : Int32).toInt = 0 := (by decide); omega)
              refine lv_iload hx hb dX12_once_227 (lv_at hl 5 rfl) ?_
              refine lv_istore (lv' := [(6, .int y8_213), (5, .int y11_213), (0, .ref (h 0)), (2, .int x1), (3, .int x2), (4, .int y4_213), (8, .int y8_213), (9, .int y9_213), (11, .int y11_213)]) hx hb dX12_once_229 hl (by decide) rfl (fun ls hl => ?_)
              refine lv_iload hx hb dX12_once_231 (lv_at hl 6 rfl) ?_
              refine lv_if_ge (tgt := 241) hx hb dX12_once_233 (by decide) (fun c => ?_) (fun c => ?_)
              · skip
                have c_5 : 0 ≤ y8_213.toInt := (by have z := bn_le c; have k1 : (0 : Int32).toInt = 0 := (by decide); omega)
                refine lv_iload hx hb dX12_once_241 (lv_at hl 7 rfl) ?_
                refine lv_istore (lv' := [(7, .int y9_213), (6, .int y8_213), (5, .int y11_213), (0, .ref (h 0)), (2, .int x1), (3, .int x2), (4, .int y4_213), (8, .int y8_213), (9, .int y9_213), (11, .int y11_213)]) hx hb dX12_once_243 hl (by decide) rfl (fun ls hl => ?_)
                exact blk_245 y4_213 y11_213 y8_213 y9_213 y8_213 y9_213 fp_213 _ _ _ (by omega) (by omega) (by omega) (by omega) (by omega) (by omega) (by omega) (by omega) (by omega) (by omega) hI hF hP hS (lv_sub hl [3, 4, 5, 6, 2, 1, 0, 7, 8] rfl)
              · skip
                exfalso; have c_6 : y8_213.toInt < 0 := (by have z := bn_nle c; have k1 : (0 : Int32).toInt = 0 := (by decide); omega); omega
            · skip
              have c_4 : y8_213.toInt < 0 := (by have z := bn_nle c; have k1 : (0 : Int32).toInt = 0 := (by decide); omega)
              refine lv_bipush (v := (-2)) hx hb dX12_once_222 (by decide) ?_
              refine lv_goto (tgt := 229) hx hb dX12_once_224 (by decide) ?_
              refine lv_istore (lv' := [(6, .int (-2)), (5, .int y11_213), (0, .ref (h 0)), (2, .int x1), (3, .int x2), (4, .int y4_213), (8, .int y8_213), (9, .int y9_213), (11, .int y11_213)]) hx hb dX12_once_229 hl (by decide) rfl (fun ls hl => ?_)
              refine lv_iload hx hb dX12_once_231 (lv_at hl 6 rfl) ?_
              refine lv_if_ge (tgt := 241) hx hb dX12_once_233 (by decide) (fun c => ?_) (fun c => ?_)
              · skip
                exfalso; have c_7 : 0 ≤ y8_213.toInt := (by have z := bn_le c; have k1 : (0 : Int32).toInt = 0 := (by decide); omega); omega
              · skip
                have c_8 : y8_213.toInt < 0 := (by have z := bn_nle c; have k1 : (0 : Int32).toInt = 0 := (by decide); omega)
                refine lv_bipush (v := (-2)) hx hb dX12_once_236 (by decide) ?_
                refine lv_goto (tgt := 243) hx hb dX12_once_238 (by decide) ?_
                refine lv_istore (lv' := [(7, .int (-2)), (6, .int (-2)), (5, .int y11_213), (0, .ref (h 0)), (2, .int x1), (3, .int x2), (4, .int y4_213), (8, .int y8_213), (9, .int y9_213), (11, .int y11_213)]) hx hb dX12_once_243 hl (by decide) rfl (fun ls hl => ?_)
                exact blk_245 y4_213 y11_213 (-2) (-2) y8_213 y9_213 fp_213 _ _ _ (by have kc2 : ((-2) : Int32).toInt = (-2) := (by decide); have kc3 : ((-2) : Int32).toInt = (-2) := (by decide); omega) (by have kc2 : ((-2) : Int32).toInt = (-2) := (by decide); have kc3 : ((-2) : Int32).toInt = (-2) := (by decide); omega) (by omega) (by omega) (by omega) (by omega) (by decide) (by decide) (by omega) (by omega) hI hF hP hS (lv_sub hl [3, 4, 5, 6, 2, 1, 0, 7, 8] rfl)
          have loop_111 : ∀ (n_111 : Nat) (y10_111 : Int32) (y11_111 : Int32) (y12_111 : Int32) (y4_111 : Int32) (y5_111 : Int32) (y6_111 : Int32) (y7_111 : Int32) (y8_111 : Int32) (y9_111 : Int32) (fp_111 : sg_F) (H : Heap) (locs : List Loc) (ls : Array Slot), 21 - y12_111.toInt < (n_111 : Int) → 21 - y8_111.toInt < ((n_71 + 1 : Nat) : Int) → 61 - y9_111.toInt < ((n_81 + 1 : Nat) : Int) → 0 ≤ x0.toInt ∧ x0.toInt ≤ 5 → 0 ≤ x1.toInt ∧ x1.toInt ≤ 2 → 0 ≤ x2.toInt ∧ x2.toInt ≤ 2 → 0 ≤ y10_111.toInt ∧ y10_111.toInt ≤ 60 → 0 ≤ y12_111.toInt ∧ y12_111.toInt ≤ 21 → 0 ≤ y4_111.toInt ∧ y4_111.toInt ≤ 21 → (-2) ≤ y6_111.toInt ∧ y6_111.toInt ≤ 20 → (-2) ≤ y7_111.toInt ∧ y7_111.toInt ≤ 60 → (-1) ≤ y8_111.toInt ∧ y8_111.toInt ≤ 20 → 0 ≤ y9_111.toInt ∧ y9_111.toInt ≤ 60 → sgI loM hiM fp_111 → sgK WkX12_once f fp_111 → va_P D vwCl (sgw 26 h (eM ca h) fp_111 L Q) H → va_S (sgA 26 h s.heap.size) s.heap H locs → lv_has ls 13 [(0, .ref (h 0)), (2, .int x1), (3, .int x2), (4, .int y4_111), (5, .int y5_111), (6, .int y6_111), (7, .int y7_111), (8, .int y8_111), (9, .int y9_111), (10, .int y10_111), (11, .int y11_111), (12, .int y12_111)] → W p l e ({ frames := 46, cells := 0, slots := 0, locals := 1056 }) s m ([.ref (h 0), .int x0, .int x1, .int x2] : List Value).toArray below meth cd H locs 0 0 Qz (F0 m 111 ls []) := by
            intro n_111
            induction n_111 with
            | zero => intro y10_111 y11_111 y12_111 y4_111 y5_111 y6_111 y7_111 y8_111 y9_111 fp_111 H locs ls hm_111 hm_71 hm_81 hy0_111 hy1_111 hy2_111 hy3_111 hy4_111 hy5_111 hy6_111 hy7_111 hy8_111 hy9_111 hI hF hP hS hl; exact absurd hm_111 (by omega)
            | succ n_111 ih_111 =>
              intro y10_111 y11_111 y12_111 y4_111 y5_111 y6_111 y7_111 y8_111 y9_111 fp_111 H locs ls hm_111 hm_71 hm_81 hy0_111 hy1_111 hy2_111 hy3_111 hy4_111 hy5_111 hy6_111 hy7_111 hy8_111 hy9_111 hI hF hP hS hl
              refine lv_iload hx hb dX12_once_111 (lv_at hl 11 rfl) ?_
              refine lv_iload hx hb dX12_once_113 (lv_at hl 3 rfl) ?_
              refine lv_icmp_ge (tgt := 201) hx hb dX12_once_115 (by decide) (fun c => ?_) (fun c => ?_)
              · skip
                have c_9 : y4_111.toInt ≤ y12_111.toInt := (by have z := bn_le c; omega)
                refine lv_iload hx hb dX12_once_201 (lv_at hl 7 rfl) ?_
                refine lv_if_lt (tgt := 213) hx hb dX12_once_203 (by decide) (fun c => ?_) (fun c => ?_)
                · skip
                  have c_11 : y8_111.toInt < 0 := (by have z := bn_lt c; have k1 : (0 : Int32).toInt = 0 := (by decide); omega)
                  exact blk_213 y11_111 y4_111 y8_111 y9_111 fp_111 _ _ _ (by omega) (by omega) (by omega) (by omega) (by omega) (by omega) (by omega) (by omega) hI hF hP hS (lv_sub hl [0, 1, 2, 3, 7, 8, 10] rfl)
                · skip
                  have c_12 : 0 ≤ y8_111.toInt := (by have z := bn_nlt c; have k1 : (0 : Int32).toInt = 0 := (by decide); omega)
                  refine lv_iload hx hb dX12_once_206 (lv_at hl 10 rfl) ?_
                  refine lv_iload hx hb dX12_once_208 (lv_at hl 4 rfl) ?_
                  refine lv_icmp_ge (tgt := 245) hx hb dX12_once_210 (by decide) (fun c => ?_) (fun c => ?_)
                  · skip
                    have c_13 : y5_111.toInt ≤ y11_111.toInt := (by have z := bn_le c; omega)
                    exact blk_245 y4_111 y5_111 y6_111 y7_111 y8_111 y9_111 fp_111 _ _ _ (by omega) (by omega) (by omega) (by omega) (by omega) (by omega) (by omega) (by omega) (by omega) (by omega) hI hF hP hS (lv_sub hl [0, 1, 2, 3, 4, 5, 6, 7, 8] rfl)
                  · skip
                    have c_14 : y11_111.toInt < y5_111.toInt := (by have z := bn_nle c; omega)
                    exact blk_213 y11_111 y4_111 y8_111 y9_111 fp_111 _ _ _ (by omega) (by omega) (by omega) (by omega) (by omega) (by omega) (by omega) (by omega) hI hF hP hS (lv_sub hl [0, 1, 2, 3, 7, 8, 10] rfl)
              · skip
                have c_10 : y12_111.toInt < y4_111.toInt := (by have z := bn_nle c; omega)
                refine lv_iload hx hb dX12_once_118 (lv_at hl 10 rfl) ?_
                refine lv_iload hx hb dX12_once_120 (lv_at hl 11 rfl) ?_
                refine lv_iload hx hb dX12_once_122 (lv_at hl 7 rfl) ?_
                refine lv_icmp_ne (tgt := 148) hx hb dX12_once_124 (by decide) (fun c => ?_) (fun c => ?_)
                · skip
                  have c_15 : y12_111.toInt ≠ y8_111.toInt := (by have z := bn_ne c; omega)
                  refine lv_iconst (v := 0) hx hb dX12_once_148 (by decide) ?_
                  refine lv_iadd hx hb dX12_once_149 ?_
                  refine W.eq (g2 := F0 m 150 ls [.int y11_111]) (by rw [Int32.add_zero]) ?_
                  refine lv_istore (lv' := [(11, .int y11_111), (0, .ref (h 0)), (2, .int x1), (3, .int x2), (4, .int y4_111), (5, .int y5_111), (6, .int y6_111), (7, .int y7_111), (8, .int y8_111), (9, .int y9_111), (10, .int y10_111), (12, .int y12_111)]) hx hb dX12_once_150 hl (by decide) rfl (fun ls hl => ?_)
                  refine lv_iload hx hb dX12_once_152 (lv_at hl 11 rfl) ?_
                  refine lv_iload hx hb dX12_once_154 (lv_at hl 8 rfl) ?_
                  refine lv_icmp_ne (tgt := 164) hx hb dX12_once_156 (by decide) (fun c => ?_) (fun c => ?_)
                  · skip
                    have c_17 : y12_111.toInt ≠ y8_111.toInt := (by have z := bn_ne c; omega)
                    refine lv_iload hx hb dX12_once_164 (lv_at hl 10 rfl) ?_
                    refine lv_istore (lv' := [(10, .int y10_111), (11, .int y11_111), (0, .ref (h 0)), (2, .int x1), (3, .int x2), (4, .int y4_111), (5, .int y5_111), (6, .int y6_111), (7, .int y7_111), (8, .int y8_111), (9, .int y9_111), (12, .int y12_111)]) hx hb dX12_once_166 hl (by decide) rfl (fun ls hl => ?_)
                    refine lv_iload hx hb dX12_once_168 (lv_at hl 1 rfl) ?_
                    refine lv_aload_n hx hb dX12_once_170 rfl (lv_at hl 2 rfl) ?_
                    refine sg_get (ci := 12) (v := .ref (h 9)) (C := RX12) (T := TX12) (N := 55) hx hb hts (fun w h => List.mem_cons_of_mem _ (gx_12 w h)) hown hK hP 0 (by decide) rfl rfl 18 (by decide) (hts _ (List.mem_cons_of_mem _ mw_783)) (fun _ h9 => h9) rfl dX12_once_171 ?_
                    refine lv_bipush (v := 61) hx hb dX12_once_174 (by decide) ?_
                    refine lv_iload hx hb dX12_once_176 (lv_at hl 11 rfl) ?_
                    refine lv_imul hx hb dX12_once_178 ?_
                    refine lv_topi (fun v_19 ev_19 => ?_)
                    have q_20 : v_19.toInt = 61 * y12_111.toInt := by rw [ev_19]; exact bn_mulJ (by decide) (by omega) (by omega)
                    refine lv_iload hx hb dX12_once_179 (lv_at hl 0 rfl) ?_
                    refine lv_iadd hx hb dX12_once_181 ?_
                    refine lv_topi (fun v_21 ev_21 => ?_)
                    have q_22 : v_21.toInt = v_19.toInt + y10_111.toInt := by rw [ev_21]; exact (bn_addI (by omega) (by omega)).trans (by omega)
                    refine sg_iald hx hb hK hP 9 (by decide) 0 rfl rfl (i := v_21) (vp_in_iff.mpr ⟨by omega, by omega⟩) dX12_once_182 ?_
                    refine lv_topi (fun v_23 ev_23 => ?_)
                    refine lv_iadd hx hb dX12_once_183 ?_
                    refine lv_topi (fun v_24 ev_24 => ?_)
                    refine lv_istore (lv' := [(11, .int v_24), (10, .int y10_111), (0, .ref (h 0)), (2, .int x1), (3, .int x2), (4, .int y4_111), (5, .int y5_111), (6, .int y6_111), (7, .int y7_111), (8, .int y8_111), (9, .int y9_111), (12, .int y12_111)]) hx hb dX12_once_184 hl (by decide) rfl (fun ls hl => ?_)
                    refine lv_aload_n hx hb dX12_once_186 rfl (lv_at hl 2 rfl) ?_
                    refine lv_iload_n hx hb dX12_once_187 rfl (lv_at hl 3 rfl) ?_
                    refine lv_iload hx hb dX12_once_188 (lv_at hl 1 rfl) ?_
                    refine sg_calli (va_runV (As := [.int x1, .int y10_111]) (rest := []) ⟨hx, hb, hml, hown, hts⟩ (kX12_slipped l D ca za h hh fp_111 L Q hI x1 y10_111 (by omega) (by omega) H.size) (cwV 2 hts (gw_V (fun _ h => List.mem_cons_of_mem _ h) mw_649 mw_650 mw_651 mw_619 mw_648) rfl rfl rfl (by decide +kernel) ⟨Nat.le_of_ble_eq_true rfl, Nat.le_of_ble_eq_true rfl⟩) (sg_preV (ci := 12) (C := RX12) (T := TX12) (N := 55) hA hK hP hS hZ 0 (by decide) rfl rfl) rfl rfl hl.1 rfl (lv_room (Nat.le_of_ble_eq_true rfl)) dX12_once_190 ⟨Nat.le_refl _, Nat.le_refl _⟩) hA hS (fun r_28 f_25 L_26 Q_27 H locs hq hP hS => ?_)
                    obtain ⟨⟨ef9, eL9, eQ9⟩, hq⟩ := hq
                    rw [ef9, eL9, eQ9] at hP; clear ef9 eL9 eQ9
                    refine lv_istore (lv' := [(10, .int r_28), (11, .int v_24), (0, .ref (h 0)), (2, .int x1), (3, .int x2), (4, .int y4_111), (5, .int y5_111), (6, .int y6_111), (7, .int y7_111), (8, .int y8_111), (9, .int y9_111), (12, .int y12_111)]) hx hb dX12_once_193 hl (by decide) rfl (fun ls hl => ?_)
                    obtain ⟨v_29, ev_29⟩ : ∃ z : Int32, z = y12_111 + 1 := ⟨_, rfl⟩
                    have q_30 : v_29.toInt = y12_111.toInt + 1 := by rw [ev_29]; exact (bn_addc y12_111 1 (by decide) (by omega) (by omega))
                    refine lv_iinc (v := v_29) (lv' := [(12, .int v_29), (10, .int r_28), (11, .int v_24), (0, .ref (h 0)), (2, .int x1), (3, .int x2), (4, .int y4_111), (5, .int y5_111), (6, .int y6_111), (7, .int y7_111), (8, .int y8_111), (9, .int y9_111)]) hx hb dX12_once_195 hl (k := 11) rfl (by rw [ev_29]; rfl) (by decide) rfl (fun ls hl => ?_)
                    refine lv_goto (tgt := 111) hx hb dX12_once_198 (by decide) ?_
                    exact ih_111 r_28 v_24 v_29 y4_111 y5_111 y6_111 y7_111 y8_111 y9_111 fp_111 _ _ _ (by omega) (by omega) (by omega) (by omega) (by omega) (by omega) (by omega) (by omega) (by omega) (by omega) (by omega) (by omega) (by omega) hI hF hP hS (lv_sub hl [3, 4, 5, 6, 7, 8, 9, 10, 11, 1, 2, 0] rfl)
                  · skip
                    have c_18 : y12_111.toInt = y8_111.toInt := (by have z := Int32.toInt_inj.mpr c; omega)
                    refine lv_iload hx hb dX12_once_159 (lv_at hl 9 rfl) ?_
                    refine lv_goto (tgt := 166) hx hb dX12_once_161 (by decide) ?_
                    refine lv_istore (lv' := [(10, .int y9_111), (11, .int y11_111), (0, .ref (h 0)), (2, .int x1), (3, .int x2), (4, .int y4_111), (5, .int y5_111), (6, .int y6_111), (7, .int y7_111), (8, .int y8_111), (9, .int y9_111), (12, .int y12_111)]) hx hb dX12_once_166 hl (by decide) rfl (fun ls hl => ?_)
                    refine lv_iload hx hb dX12_once_168 (lv_at hl 1 rfl) ?_
                    refine lv_aload_n hx hb dX12_once_170 rfl (lv_at hl 2 rfl) ?_
                    refine sg_get (ci := 12) (v := .ref (h 9)) (C := RX12) (T := TX12) (N := 55) hx hb hts (fun w h => List.mem_cons_of_mem _ (gx_12 w h)) hown hK hP 0 (by decide) rfl rfl 18 (by decide) (hts _ (List.mem_cons_of_mem _ mw_783)) (fun _ h9 => h9) rfl dX12_once_171 ?_
                    refine lv_bipush (v := 61) hx hb dX12_once_174 (by decide) ?_
                    refine lv_iload hx hb dX12_once_176 (lv_at hl 11 rfl) ?_
                    refine lv_imul hx hb dX12_once_178 ?_
                    refine lv_topi (fun v_31 ev_31 => ?_)
                    have q_32 : v_31.toInt = 61 * y12_111.toInt := by rw [ev_31]; exact bn_mulJ (by decide) (by omega) (by omega)
                    refine lv_iload hx hb dX12_once_179 (lv_at hl 0 rfl) ?_
                    refine lv_iadd hx hb dX12_once_181 ?_
                    refine lv_topi (fun v_33 ev_33 => ?_)
                    have q_34 : v_33.toInt = v_31.toInt + y9_111.toInt := by rw [ev_33]; exact (bn_addI (by omega) (by omega)).trans (by omega)
                    refine sg_iald hx hb hK hP 9 (by decide) 0 rfl rfl (i := v_33) (vp_in_iff.mpr ⟨by omega, by omega⟩) dX12_once_182 ?_
                    refine lv_topi (fun v_35 ev_35 => ?_)
                    refine lv_iadd hx hb dX12_once_183 ?_
                    refine lv_topi (fun v_36 ev_36 => ?_)
                    refine lv_istore (lv' := [(11, .int v_36), (10, .int y9_111), (0, .ref (h 0)), (2, .int x1), (3, .int x2), (4, .int y4_111), (5, .int y5_111), (6, .int y6_111), (7, .int y7_111), (8, .int y8_111), (9, .int y9_111), (12, .int y12_111)]) hx hb dX12_once_184 hl (by decide) rfl (fun ls hl => ?_)
                    refine lv_aload_n hx hb dX12_once_186 rfl (lv_at hl 2 rfl) ?_
                    refine lv_iload_n hx hb dX12_once_187 rfl (lv_at hl 3 rfl) ?_
                    refine lv_iload hx hb dX12_once_188 (lv_at hl 1 rfl) ?_
                    refine sg_calli (va_runV (As := [.int x1, .int y9_111]) (rest := []) ⟨hx, hb, hml, hown, hts⟩ (kX12_slipped l D ca za h hh fp_111 L Q hI x1 y9_111 (by omega) (by omega) H.size) (cwV 2 hts (gw_V (fun _ h => List.mem_cons_of_mem _ h) mw_649 mw_650 mw_651 mw_619 mw_648) rfl rfl rfl (by decide +kernel) ⟨Nat.le_of_ble_eq_true rfl, Nat.le_of_ble_eq_true rfl⟩) (sg_preV (ci := 12) (C := RX12) (T := TX12) (N := 55) hA hK hP hS hZ 0 (by decide) rfl rfl) rfl rfl hl.1 rfl (lv_room (Nat.le_of_ble_eq_true rfl)) dX12_once_190 ⟨Nat.le_refl _, Nat.le_refl _⟩) hA hS (fun r_40 f_37 L_38 Q_39 H locs hq hP hS => ?_)
                    obtain ⟨⟨ef9, eL9, eQ9⟩, hq⟩ := hq
                    rw [ef9, eL9, eQ9] at hP; clear ef9 eL9 eQ9
                    refine lv_istore (lv' := [(10, .int r_40), (11, .int v_36), (0, .ref (h 0)), (2, .int x1), (3, .int x2), (4, .int y4_111), (5, .int y5_111), (6, .int y6_111), (7, .int y7_111), (8, .int y8_111), (9, .int y9_111), (12, .int y12_111)]) hx hb dX12_once_193 hl (by decide) rfl (fun ls hl => ?_)
                    obtain ⟨v_41, ev_41⟩ : ∃ z : Int32, z = y12_111 + 1 := ⟨_, rfl⟩
                    have q_42 : v_41.toInt = y12_111.toInt + 1 := by rw [ev_41]; exact (bn_addc y12_111 1 (by decide) (by omega) (by omega))
                    refine lv_iinc (v := v_41) (lv' := [(12, .int v_41), (10, .int r_40), (11, .int v_36), (0, .ref (h 0)), (2, .int x1), (3, .int x2), (4, .int y4_111), (5, .int y5_111), (6, .int y6_111), (7, .int y7_111), (8, .int y8_111), (9, .int y9_111)]) hx hb dX12_once_195 hl (k := 11) rfl (by rw [ev_41]; rfl) (by decide) rfl (fun ls hl => ?_)
                    refine lv_goto (tgt := 111) hx hb dX12_once_198 (by decide) ?_
                    exact ih_111 r_40 v_36 v_41 y4_111 y5_111 y6_111 y7_111 y8_111 y9_111 fp_111 _ _ _ (by omega) (by omega) (by omega) (by omega) (by omega) (by omega) (by omega) (by omega) (by omega) (by omega) (by omega) (by omega) (by omega) hI hF hP hS (lv_sub hl [3, 4, 5, 6, 7, 8, 9, 10, 11, 1, 2, 0] rfl)
                · skip
                  have c_16 : y12_111.toInt = y8_111.toInt := (by have z := Int32.toInt_inj.mpr c; omega)
                  refine lv_iload hx hb dX12_once_127 (lv_at hl 8 rfl) ?_
                  refine lv_iload hx hb dX12_once_129 (lv_at hl 9 rfl) ?_
                  refine lv_isub hx hb dX12_once_131 ?_
                  refine lv_topi (fun v_43 ev_43 => ?_)
                  have q_44 : v_43.toInt = y9_111.toInt - y10_111.toInt := by rw [ev_43]; exact (bn_subI (by omega) (by omega)).trans (by omega)
                  refine sg_calli (va_runS (As := [.int v_43]) (rest := [.int y11_111]) ⟨hx, hb, hml, hown, hts⟩ (kX12_sizeOf l D ca za h hh fp_111 L Q hI v_43 (by omega) H.size) (va_cwS 1 hts (gw_S (fun _ h => List.mem_cons_of_mem _ h) mw_682 mw_683 mw_619 mw_681) rfl rfl rfl (by decide +kernel) ⟨Nat.le_of_ble_eq_true rfl, Nat.le_of_ble_eq_true rfl⟩) (sg_preS hA hK hP hS hZ) rfl rfl hl.1 rfl (lv_room (Nat.le_of_ble_eq_true rfl)) dX12_once_132 ⟨Nat.le_refl _, Nat.le_refl _⟩) hA hS (fun r_48 f_45 L_46 Q_47 H locs hq hP hS => ?_)
                  obtain ⟨⟨ef9, eL9, eQ9⟩, hq⟩ := hq
                  rw [ef9, eL9, eQ9] at hP; clear ef9 eL9 eQ9
                  refine lv_aload_n hx hb dX12_once_135 rfl (lv_at hl 0 rfl) ?_
                  refine sg_get (ci := 12) (v := .ref (h 1)) (C := RX12) (T := TX12) (N := 55) hx hb hts (fun w h => List.mem_cons_of_mem _ (gx_12 w h)) hown hK hP 0 (by decide) rfl rfl 0 (by decide) (hts _ (List.mem_cons_of_mem _ mw_600)) (fun _ h9 => h9) rfl dX12_once_136 ?_
                  refine lv_bipush (v := 67) hx hb dX12_once_139 (by decide) ?_
                  refine lv_iload_n hx hb dX12_once_141 rfl (lv_at hl 1 rfl) ?_
                  refine lv_iadd hx hb dX12_once_142 ?_
                  refine lv_topi (fun v_49 ev_49 => ?_)
                  have q_50 : v_49.toInt = 67 + x1.toInt := by rw [ev_49]; have k0 : (67 : Int32).toInt = 67 := (by decide); exact (bn_addI (by omega) (by omega)).trans (by omega)
                  refine sg_iald hx hb hK hP 1 (by decide) 0 rfl rfl (i := v_49) (vp_in_iff.mpr ⟨by omega, by omega⟩) dX12_once_143 ?_
                  refine lv_topi (fun v_51 ev_51 => ?_)
                  have q_52 : v_49.toInt < 64 → v_51.toInt ≤ 60 := by rw [ev_51]; have z1 := segM1_r hI (j := Int32.toNatClampNeg v_49); have z2 := bn_clI (x := v_49) (by omega); intro z3; exact (z1.2.2 (by omega)).2
                  have q_53 : 0 ≤ v_51.toInt ∧ v_51.toInt ≤ 99 := by rw [ev_51]; have z1 := segM1_r hI (j := Int32.toNatClampNeg v_49); have z2 := bn_clI (x := v_49) (by omega); omega
                  refine lv_imul hx hb dX12_once_144 ?_
                  refine lv_topi (fun v_54 ev_54 => ?_)
                  refine lv_goto (tgt := 149) hx hb dX12_once_145 (by decide) ?_
                  refine lv_iadd hx hb dX12_once_149 ?_
                  refine lv_topi (fun v_55 ev_55 => ?_)
                  refine lv_istore (lv' := [(11, .int v_55), (0, .ref (h 0)), (2, .int x1), (3, .int x2), (4, .int y4_111), (5, .int y5_111), (6, .int y6_111), (7, .int y7_111), (8, .int y8_111), (9, .int y9_111), (10, .int y10_111), (12, .int y12_111)]) hx hb dX12_once_150 hl (by decide) rfl (fun ls hl => ?_)
                  refine lv_iload hx hb dX12_once_152 (lv_at hl 11 rfl) ?_
                  refine lv_iload hx hb dX12_once_154 (lv_at hl 8 rfl) ?_
                  refine lv_icmp_ne (tgt := 164) hx hb dX12_once_156 (by decide) (fun c => ?_) (fun c => ?_)
                  · skip
                    have c_56 : y12_111.toInt ≠ y8_111.toInt := (by have z := bn_ne c; omega)
                    refine lv_iload hx hb dX12_once_164 (lv_at hl 10 rfl) ?_
                    refine lv_istore (lv' := [(10, .int y10_111), (11, .int v_55), (0, .ref (h 0)), (2, .int x1), (3, .int x2), (4, .int y4_111), (5, .int y5_111), (6, .int y6_111), (7, .int y7_111), (8, .int y8_111), (9, .int y9_111), (12, .int y12_111)]) hx hb dX12_once_166 hl (by decide) rfl (fun ls hl => ?_)
                    refine lv_iload hx hb dX12_once_168 (lv_at hl 1 rfl) ?_
                    refine lv_aload_n hx hb dX12_once_170 rfl (lv_at hl 2 rfl) ?_
                    refine sg_get (ci := 12) (v := .ref (h 9)) (C := RX12) (T := TX12) (N := 55) hx hb hts (fun w h => List.mem_cons_of_mem _ (gx_12 w h)) hown hK hP 0 (by decide) rfl rfl 18 (by decide) (hts _ (List.mem_cons_of_mem _ mw_783)) (fun _ h9 => h9) rfl dX12_once_171 ?_
                    refine lv_bipush (v := 61) hx hb dX12_once_174 (by decide) ?_
                    refine lv_iload hx hb dX12_once_176 (lv_at hl 11 rfl) ?_
                    refine lv_imul hx hb dX12_once_178 ?_
                    refine lv_topi (fun v_58 ev_58 => ?_)
                    have q_59 : v_58.toInt = 61 * y12_111.toInt := by rw [ev_58]; exact bn_mulJ (by decide) (by omega) (by omega)
                    refine lv_iload hx hb dX12_once_179 (lv_at hl 0 rfl) ?_
                    refine lv_iadd hx hb dX12_once_181 ?_
                    refine lv_topi (fun v_60 ev_60 => ?_)
                    have q_61 : v_60.toInt = v_58.toInt + y10_111.toInt := by rw [ev_60]; exact (bn_addI (by omega) (by omega)).trans (by omega)
                    refine sg_iald hx hb hK hP 9 (by decide) 0 rfl rfl (i := v_60) (vp_in_iff.mpr ⟨by omega, by omega⟩) dX12_once_182 ?_
                    refine lv_topi (fun v_62 ev_62 => ?_)
                    refine lv_iadd hx hb dX12_once_183 ?_
                    refine lv_topi (fun v_63 ev_63 => ?_)
                    refine lv_istore (lv' := [(11, .int v_63), (10, .int y10_111), (0, .ref (h 0)), (2, .int x1), (3, .int x2), (4, .int y4_111), (5, .int y5_111), (6, .int y6_111), (7, .int y7_111), (8, .int y8_111), (9, .int y9_111), (12, .int y12_111)]) hx hb dX12_once_184 hl (by decide) rfl (fun ls hl => ?_)
                    refine lv_aload_n hx hb dX12_once_186 rfl (lv_at hl 2 rfl) ?_
                    refine lv_iload_n hx hb dX12_once_187 rfl (lv_at hl 3 rfl) ?_
                    refine lv_iload hx hb dX12_once_188 (lv_at hl 1 rfl) ?_
                    refine sg_calli (va_runV (As := [.int x1, .int y10_111]) (rest := []) ⟨hx, hb, hml, hown, hts⟩ (kX12_slipped l D ca za h hh fp_111 L Q hI x1 y10_111 (by omega) (by omega) H.size) (cwV 2 hts (gw_V (fun _ h => List.mem_cons_of_mem _ h) mw_649 mw_650 mw_651 mw_619 mw_648) rfl rfl rfl (by decide +kernel) ⟨Nat.le_of_ble_eq_true rfl, Nat.le_of_ble_eq_true rfl⟩) (sg_preV (ci := 12) (C := RX12) (T := TX12) (N := 55) hA hK hP hS hZ 0 (by decide) rfl rfl) rfl rfl hl.1 rfl (lv_room (Nat.le_of_ble_eq_true rfl)) dX12_once_190 ⟨Nat.le_refl _, Nat.le_refl _⟩) hA hS (fun r_67 f_64 L_65 Q_66 H locs hq hP hS => ?_)
                    obtain ⟨⟨ef9, eL9, eQ9⟩, hq⟩ := hq
                    rw [ef9, eL9, eQ9] at hP; clear ef9 eL9 eQ9
                    refine lv_istore (lv' := [(10, .int r_67), (11, .int v_63), (0, .ref (h 0)), (2, .int x1), (3, .int x2), (4, .int y4_111), (5, .int y5_111), (6, .int y6_111), (7, .int y7_111), (8, .int y8_111), (9, .int y9_111), (12, .int y12_111)]) hx hb dX12_once_193 hl (by decide) rfl (fun ls hl => ?_)
                    obtain ⟨v_68, ev_68⟩ : ∃ z : Int32, z = y12_111 + 1 := ⟨_, rfl⟩
                    have q_69 : v_68.toInt = y12_111.toInt + 1 := by rw [ev_68]; exact (bn_addc y12_111 1 (by decide) (by omega) (by omega))
                    refine lv_iinc (v := v_68) (lv' := [(12, .int v_68), (10, .int r_67), (11, .int v_63), (0, .ref (h 0)), (2, .int x1), (3, .int x2), (4, .int y4_111), (5, .int y5_111), (6, .int y6_111), (7, .int y7_111), (8, .int y8_111), (9, .int y9_111)]) hx hb dX12_once_195 hl (k := 11) rfl (by rw [ev_68]; rfl) (by decide) rfl (fun ls hl => ?_)
                    refine lv_goto (tgt := 111) hx hb dX12_once_198 (by decide) ?_
                    exact ih_111 r_67 v_63 v_68 y4_111 y5_111 y6_111 y7_111 y8_111 y9_111 fp_111 _ _ _ (by omega) (by omega) (by omega) (by omega) (by omega) (by omega) (by omega) (by omega) (by omega) (by omega) (by omega) (by omega) (by omega) hI hF hP hS (lv_sub hl [3, 4, 5, 6, 7, 8, 9, 10, 11, 1, 2, 0] rfl)
                  · skip
                    have c_57 : y12_111.toInt = y8_111.toInt := (by have z := Int32.toInt_inj.mpr c; omega)
                    refine lv_iload hx hb dX12_once_159 (lv_at hl 9 rfl) ?_
                    refine lv_goto (tgt := 166) hx hb dX12_once_161 (by decide) ?_
                    refine lv_istore (lv' := [(10, .int y9_111), (11, .int v_55), (0, .ref (h 0)), (2, .int x1), (3, .int x2), (4, .int y4_111), (5, .int y5_111), (6, .int y6_111), (7, .int y7_111), (8, .int y8_111), (9, .int y9_111), (12, .int y12_111)]) hx hb dX12_once_166 hl (by decide) rfl (fun ls hl => ?_)
                    refine lv_iload hx hb dX12_once_168 (lv_at hl 1 rfl) ?_
                    refine lv_aload_n hx hb dX12_once_170 rfl (lv_at hl 2 rfl) ?_
                    refine sg_get (ci := 12) (v := .ref (h 9)) (C := RX12) (T := TX12) (N := 55) hx hb hts (fun w h => List.mem_cons_of_mem _ (gx_12 w h)) hown hK hP 0 (by decide) rfl rfl 18 (by decide) (hts _ (List.mem_cons_of_mem _ mw_783)) (fun _ h9 => h9) rfl dX12_once_171 ?_
                    refine lv_bipush (v := 61) hx hb dX12_once_174 (by decide) ?_
                    refine lv_iload hx hb dX12_once_176 (lv_at hl 11 rfl) ?_
                    refine lv_imul hx hb dX12_once_178 ?_
                    refine lv_topi (fun v_70 ev_70 => ?_)
                    have q_71 : v_70.toInt = 61 * y12_111.toInt := by rw [ev_70]; exact bn_mulJ (by decide) (by omega) (by omega)
                    refine lv_iload hx hb dX12_once_179 (lv_at hl 0 rfl) ?_
                    refine lv_iadd hx hb dX12_once_181 ?_
                    refine lv_topi (fun v_72 ev_72 => ?_)
                    have q_73 : v_72.toInt = v_70.toInt + y9_111.toInt := by rw [ev_72]; exact (bn_addI (by omega) (by omega)).trans (by omega)
                    refine sg_iald hx hb hK hP 9 (by decide) 0 rfl rfl (i := v_72) (vp_in_iff.mpr ⟨by omega, by omega⟩) dX12_once_182 ?_
                    refine lv_topi (fun v_74 ev_74 => ?_)
                    refine lv_iadd hx hb dX12_once_183 ?_
                    refine lv_topi (fun v_75 ev_75 => ?_)
                    refine lv_istore (lv' := [(11, .int v_75), (10, .int y9_111), (0, .ref (h 0)), (2, .int x1), (3, .int x2), (4, .int y4_111), (5, .int y5_111), (6, .int y6_111), (7, .int y7_111), (8, .int y8_111), (9, .int y9_111), (12, .int y12_111)]) hx hb dX12_once_184 hl (by decide) rfl (fun ls hl => ?_)
                    refine lv_aload_n hx hb dX12_once_186 rfl (lv_at hl 2 rfl) ?_
                    refine lv_iload_n hx hb dX12_once_187 rfl (lv_at hl 3 rfl) ?_
                    refine lv_iload hx hb dX12_once_188 (lv_at hl 1 rfl) ?_
                    refine sg_calli (va_runV (As := [.int x1, .int y9_111]) (rest := []) ⟨hx, hb, hml, hown, hts⟩ (kX12_slipped l D ca za h hh fp_111 L Q hI x1 y9_111 (by omega) (by omega) H.size) (cwV 2 hts (gw_V (fun _ h => List.mem_cons_of_mem _ h) mw_649 mw_650 mw_651 mw_619 mw_648) rfl rfl rfl (by decide +kernel) ⟨Nat.le_of_ble_eq_true rfl, Nat.le_of_ble_eq_true rfl⟩) (sg_preV (ci := 12) (C := RX12) (T := TX12) (N := 55) hA hK hP hS hZ 0 (by decide) rfl rfl) rfl rfl hl.1 rfl (lv_room (Nat.le_of_ble_eq_true rfl)) dX12_once_190 ⟨Nat.le_refl _, Nat.le_refl _⟩) hA hS (fun r_79 f_76 L_77 Q_78 H locs hq hP hS => ?_)
                    obtain ⟨⟨ef9, eL9, eQ9⟩, hq⟩ := hq
                    rw [ef9, eL9, eQ9] at hP; clear ef9 eL9 eQ9
                    refine lv_istore (lv' := [(10, .int r_79), (11, .int v_75), (0, .ref (h 0)), (2, .int x1), (3, .int x2), (4, .int y4_111), (5, .int y5_111), (6, .int y6_111), (7, .int y7_111), (8, .int y8_111), (9, .int y9_111), (12, .int y12_111)]) hx hb dX12_once_193 hl (by decide) rfl (fun ls hl => ?_)
                    obtain ⟨v_80, ev_80⟩ : ∃ z : Int32, z = y12_111 + 1 := ⟨_, rfl⟩
                    have q_81 : v_80.toInt = y12_111.toInt + 1 := by rw [ev_80]; exact (bn_addc y12_111 1 (by decide) (by omega) (by omega))
                    refine lv_iinc (v := v_80) (lv' := [(12, .int v_80), (10, .int r_79), (11, .int v_75), (0, .ref (h 0)), (2, .int x1), (3, .int x2), (4, .int y4_111), (5, .int y5_111), (6, .int y6_111), (7, .int y7_111), (8, .int y8_111), (9, .int y9_111)]) hx hb dX12_once_195 hl (k := 11) rfl (by rw [ev_80]; rfl) (by decide) rfl (fun ls hl => ?_)
                    refine lv_goto (tgt := 111) hx hb dX12_once_198 (by decide) ?_
                    exact ih_111 r_79 v_75 v_80 y4_111 y5_111 y6_111 y7_111 y8_111 y9_111 fp_111 _ _ _ (by omega) (by omega) (by omega) (by omega) (by omega) (by omega) (by omega) (by omega) (by omega) (by omega) (by omega) (by omega) (by omega) hI hF hP hS (lv_sub hl [3, 4, 5, 6, 7, 8, 9, 10, 11, 1, 2, 0] rfl)
          intro y4_81 y5_81 y6_81 y7_81 y8_81 y9_81 fp_81 H locs ls hm_81 hm_71 hy0_81 hy1_81 hy2_81 hy3_81 hy4_81 hy5_81 hy6_81 hy7_81 hI hF hP hS hl
          refine lv_iload hx hb dX12_once_81 (lv_at hl 8 rfl) ?_
          refine lv_iload hx hb dX12_once_83 (lv_at hl 7 rfl) ?_
          refine lv_if_ge (tgt := 92) hx hb dX12_once_85 (by decide) (fun c => ?_) (fun c => ?_)
          · skip
            have c_82 : 0 ≤ y8_81.toInt := (by have z := bn_le c; have k1 : (0 : Int32).toInt = 0 := (by decide); omega)
            refine lv_bipush (v := 61) hx hb dX12_once_92 (by decide) ?_
            refine lv_icmp_ge (tgt := 251) hx hb dX12_once_94 (by decide) (fun c => ?_) (fun c => ?_)
            · skip
              have c_84 : 61 ≤ y9_81.toInt := (by have z := bn_le c; have k1 : (61 : Int32).toInt = 61 := (by decide); omega)
              obtain ⟨v_86, ev_86⟩ : ∃ z : Int32, z = y8_81 + 1 := ⟨_, rfl⟩
              have q_87 : v_86.toInt = y8_81.toInt + 1 := by rw [ev_86]; exact (bn_addc y8_81 1 (by decide) (by omega) (by omega))
              refine lv_iinc (v := v_86) (lv' := [(8, .int v_86), (0, .ref (h 0)), (2, .int x1), (3, .int x2), (4, .int y4_81), (5, .int y5_81), (6, .int y6_81), (7, .int y7_81), (9, .int y9_81)]) hx hb dX12_once_251 hl (k := 7) rfl (by rw [ev_86]; rfl) (by decide) rfl (fun ls hl => ?_)
              refine lv_goto (tgt := 71) hx hb dX12_once_254 (by decide) ?_
              exact ih_71 y4_81 y5_81 y6_81 y7_81 v_86 fp_81 _ _ _ (by omega) (by omega) (by omega) (by omega) (by omega) (by omega) (by omega) (by omega) hI hF hP hS (lv_sub hl [1, 2, 3, 4, 5, 6, 7, 0] rfl)
            · skip
              have c_85 : y9_81.toInt < 61 := (by have z := bn_nle c; have k1 : (61 : Int32).toInt = 61 := (by decide); omega)
              refine lv_aload_n hx hb dX12_once_97 rfl (lv_at hl 0 rfl) ?_
              refine sg_get (ci := 12) (v := .ref (h 5)) (C := RX12) (T := TX12) (N := 55) hx hb hts (fun w h => List.mem_cons_of_mem _ (gx_12 w h)) hown hK hP 0 (by decide) rfl rfl 7 (by decide) (hts _ (List.mem_cons_of_mem _ mw_607)) (fun _ h9 => h9) rfl dX12_once_98 ?_
              refine lv_iload_n hx hb dX12_once_101 rfl (lv_at hl 1 rfl) ?_
              refine sg_iald hx hb hK hP 5 (by decide) 0 rfl rfl (i := x1) (vp_in_iff.mpr ⟨by omega, by omega⟩) dX12_once_102 ?_
              refine lv_topi (fun v_88 ev_88 => ?_)
              have q_89 : 0 ≤ v_88.toInt ∧ v_88.toInt ≤ 60 := by rw [ev_88]; exact hI 5 _
              refine lv_istore (lv' := [(10, .int v_88), (0, .ref (h 0)), (2, .int x1), (3, .int x2), (4, .int y4_81), (5, .int y5_81), (6, .int y6_81), (7, .int y7_81), (8, .int y8_81), (9, .int y9_81)]) hx hb dX12_once_103 hl (by decide) rfl (fun ls hl => ?_)
              refine lv_iconst (v := 0) hx hb dX12_once_105 (by decide) ?_
              refine lv_istore (lv' := [(11, .int 0), (10, .int v_88), (0, .ref (h 0)), (2, .int x1), (3, .int x2), (4, .int y4_81), (5, .int y5_81), (6, .int y6_81), (7, .int y7_81), (8, .int y8_81), (9, .int y9_81)]) hx hb dX12_once_106 hl (by decide) rfl (fun ls hl => ?_)
              refine lv_iconst (v := 0) hx hb dX12_once_108 (by decide) ?_
              refine lv_istore (lv' := [(12, .int 0), (11, .int 0), (10, .int v_88), (0, .ref (h 0)), (2, .int x1), (3, .int x2), (4, .int y4_81), (5, .int y5_81), (6, .int y6_81), (7, .int y7_81), (8, .int y8_81), (9, .int y9_81)]) hx hb dX12_once_109 hl (by decide) rfl (fun ls hl => ?_)
              exact loop_111 22 v_88 0 0 y4_81 y5_81 y6_81 y7_81 y8_81 y9_81 fp_81 _ _ _ (by have kc1 : (0 : Int32).toInt = 0 := (by decide); have kc2 : (0 : Int32).toInt = 0 := (by decide); omega) (by have kc1 : (0 : Int32).toInt = 0 := (by decide); have kc2 : (0 : Int32).toInt = 0 := (by decide); omega) (by have kc1 : (0 : Int32).toInt = 0 := (by decide); have kc2 : (0 : Int32).toInt = 0 := (by decide); omega) (by omega) (by omega) (by omega) (by omega) (by decide) (by omega) (by omega) (by omega) (by omega) (by omega) hI hF hP hS (lv_sub hl [3, 4, 5, 6, 7, 8, 9, 10, 11, 2, 1, 0] rfl)
          · skip
            have c_83 : y8_81.toInt < 0 := (by have z := bn_nle c; have k1 : (0 : Int32).toInt = 0 := (by decide); omega)
            refine lv_iconst (v := 1) hx hb dX12_once_88 (by decide) ?_
            refine lv_goto (tgt := 94) hx hb dX12_once_89 (by decide) ?_
            refine lv_icmp_ge (tgt := 251) hx hb dX12_once_94 (by decide) (fun c => ?_) (fun c => ?_)
            · skip
              have c_90 : 1 ≤ y9_81.toInt := (by have z := bn_le c; have k1 : (1 : Int32).toInt = 1 := (by decide); omega)
              obtain ⟨v_92, ev_92⟩ : ∃ z : Int32, z = y8_81 + 1 := ⟨_, rfl⟩
              have q_93 : v_92.toInt = y8_81.toInt + 1 := by rw [ev_92]; exact (bn_addc y8_81 1 (by decide) (by omega) (by omega))
              refine lv_iinc (v := v_92) (lv' := [(8, .int v_92), (0, .ref (h 0)), (2, .int x1), (3, .int x2), (4, .int y4_81), (5, .int y5_81), (6, .int y6_81), (7, .int y7_81), (9, .int y9_81)]) hx hb dX12_once_251 hl (k := 7) rfl (by rw [ev_92]; rfl) (by decide) rfl (fun ls hl => ?_)
              refine lv_goto (tgt := 71) hx hb dX12_once_254 (by decide) ?_
              exact ih_71 y4_81 y5_81 y6_81 y7_81 v_92 fp_81 _ _ _ (by omega) (by omega) (by omega) (by omega) (by omega) (by omega) (by omega) (by omega) hI hF hP hS (lv_sub hl [1, 2, 3, 4, 5, 6, 7, 0] rfl)
            · skip
              have c_91 : y9_81.toInt < 1 := (by have z := bn_nle c; have k1 : (1 : Int32).toInt = 1 := (by decide); omega)
              refine lv_aload_n hx hb dX12_once_97 rfl (lv_at hl 0 rfl) ?_
              refine sg_get (ci := 12) (v := .ref (h 5)) (C := RX12) (T := TX12) (N := 55) hx hb hts (fun w h => List.mem_cons_of_mem _ (gx_12 w h)) hown hK hP 0 (by decide) rfl rfl 7 (by decide) (hts _ (List.mem_cons_of_mem _ mw_607)) (fun _ h9 => h9) rfl dX12_once_98 ?_
              refine lv_iload_n hx hb dX12_once_101 rfl (lv_at hl 1 rfl) ?_
              refine sg_iald hx hb hK hP 5 (by decide) 0 rfl rfl (i := x1) (vp_in_iff.mpr ⟨by omega, by omega⟩) dX12_once_102 ?_
              refine lv_topi (fun v_94 ev_94 => ?_)
              have q_95 : 0 ≤ v_94.toInt ∧ v_94.toInt ≤ 60 := by rw [ev_94]; exact hI 5 _
              refine lv_istore (lv' := [(10, .int v_94), (0, .ref (h 0)), (2, .int x1), (3, .int x2), (4, .int y4_81), (5, .int y5_81), (6, .int y6_81), (7, .int y7_81), (8, .int y8_81), (9, .int y9_81)]) hx hb dX12_once_103 hl (by decide) rfl (fun ls hl => ?_)
              refine lv_iconst (v := 0) hx hb dX12_once_105 (by decide) ?_
              refine lv_istore (lv' := [(11, .int 0), (10, .int v_94), (0, .ref (h 0)), (2, .int x1), (3, .int x2), (4, .int y4_81), (5, .int y5_81), (6, .int y6_81), (7, .int y7_81), (8, .int y8_81), (9, .int y9_81)]) hx hb dX12_once_106 hl (by decide) rfl (fun ls hl => ?_)
              refine lv_iconst (v := 0) hx hb dX12_once_108 (by decide) ?_
              refine lv_istore (lv' := [(12, .int 0), (11, .int 0), (10, .int v_94), (0, .ref (h 0)), (2, .int x1), (3, .int x2), (4, .int y4_81), (5, .int y5_81), (6, .int y6_81), (7, .int y7_81), (8, .int y8_81), (9, .int y9_81)]) hx hb dX12_once_109 hl (by decide) rfl (fun ls hl => ?_)
              exact loop_111 22 v_94 0 0 y4_81 y5_81 y6_81 y7_81 y8_81 y9_81 fp_81 _ _ _ (by have kc1 : (0 : Int32).toInt = 0 := (by decide); have kc2 : (0 : Int32).toInt = 0 := (by decide); omega) (by have kc1 : (0 : Int32).toInt = 0 := (by decide); have kc2 : (0 : Int32).toInt = 0 := (by decide); omega) (by have kc1 : (0 : Int32).toInt = 0 := (by decide); have kc2 : (0 : Int32).toInt = 0 := (by decide); omega) (by omega) (by omega) (by omega) (by omega) (by decide) (by omega) (by omega) (by omega) (by omega) (by omega) hI hF hP hS (lv_sub hl [3, 4, 5, 6, 7, 8, 9, 10, 11, 2, 1, 0] rfl)
      intro y4_71 y5_71 y6_71 y7_71 y8_71 fp_71 H locs ls hm_71 hy0_71 hy1_71 hy2_71 hy3_71 hy4_71 hy5_71 hy6_71 hI hF hP hS hl
      refine lv_iload hx hb dX12_once_71 (lv_at hl 7 rfl) ?_
      refine lv_iload hx hb dX12_once_73 (lv_at hl 3 rfl) ?_
      refine lv_icmp_ge (tgt := 257) hx hb dX12_once_75 (by decide) (fun c => ?_) (fun c => ?_)
      · skip
        have c_96 : y4_71.toInt ≤ y8_71.toInt := (by have z := bn_le c; omega)
        refine lv_iload_n hx hb dX12_once_257 rfl (lv_at hl 2 rfl) ?_
        refine lv_if_ne (tgt := 266) hx hb dX12_once_258 (by decide) (fun c => ?_) (fun c => ?_)
        · skip
          have c_98 : x2.toInt ≠ 0 := (by have z := bn_ne c; have k1 : (0 : Int32).toInt = 0 := (by decide); omega)
          refine lv_iload_n hx hb dX12_once_266 rfl (lv_at hl 2 rfl) ?_
          refine lv_iconst (v := 1) hx hb dX12_once_267 (by decide) ?_
          refine lv_icmp_ne (tgt := 276) hx hb dX12_once_268 (by decide) (fun c => ?_) (fun c => ?_)
          · skip
            have c_100 : x2.toInt ≠ 1 := (by have z := bn_ne c; have k1 : (1 : Int32).toInt = 1 := (by decide); omega)
            refine lv_iload hx hb dX12_once_276 (lv_at hl 6 rfl) ?_
            exact hret _ _ _ _ (y7_71) fp_71 L Q dX12_once_278 hP hS ⟨⟨hI, hF, rfl, rfl⟩, trivial⟩
          · skip
            have c_101 : x2.toInt = 1 := (by have z := Int32.toInt_inj.mpr c; have k1 : (1 : Int32).toInt = 1 := (by decide); omega)
            refine lv_iload hx hb dX12_once_271 (lv_at hl 5 rfl) ?_
            refine lv_goto (tgt := 278) hx hb dX12_once_273 (by decide) ?_
            exact hret _ _ _ _ (y6_71) fp_71 L Q dX12_once_278 hP hS ⟨⟨hI, hF, rfl, rfl⟩, trivial⟩
        · skip
          have c_99 : x2.toInt = 0 := (by have z := Int32.toInt_inj.mpr c; have k1 : (0 : Int32).toInt = 0 := (by decide); omega)
          refine lv_iload hx hb dX12_once_261 (lv_at hl 4 rfl) ?_
          refine lv_goto (tgt := 278) hx hb dX12_once_263 (by decide) ?_
          exact hret _ _ _ _ (y5_71) fp_71 L Q dX12_once_278 hP hS ⟨⟨hI, hF, rfl, rfl⟩, trivial⟩
      · skip
        have c_97 : y8_71.toInt < y4_71.toInt := (by have z := bn_nle c; omega)
        refine lv_iconst (v := 0) hx hb dX12_once_78 (by decide) ?_
        refine lv_istore (lv' := [(9, .int 0), (0, .ref (h 0)), (2, .int x1), (3, .int x2), (4, .int y4_71), (5, .int y5_71), (6, .int y6_71), (7, .int y7_71), (8, .int y8_71)]) hx hb dX12_once_79 hl (by decide) rfl (fun ls hl => ?_)
        exact loop_81 62 y4_71 y5_71 y6_71 y7_71 y8_71 0 fp_71 _ _ _ (by have kc5 : (0 : Int32).toInt = 0 := (by decide); omega) (by have kc5 : (0 : Int32).toInt = 0 := (by decide); omega) (by omega) (by omega) (by omega) (by omega) (by omega) (by omega) (by omega) (by decide) hI hF hP hS (lv_sub hl [1, 2, 3, 4, 5, 6, 7, 8, 0] rfl)
  refine lv_aload_n hx hb dX12_once_0 rfl (lv_at hl 0 rfl) ?_
  refine lv_iload_n hx hb dX12_once_1 rfl (lv_at hl 1 rfl) ?_
  refine sg_calli (va_runV (As := [.int x0]) (rest := []) ⟨hx, hb, hml, hown, hts⟩ (kX12_bytesIs l D ca za h hh f L Q hI x0 H.size) (cwV 1 hts (gw_V (fun _ h => List.mem_cons_of_mem _ h) mw_685 mw_686 mw_687 mw_619 mw_684) rfl rfl rfl (by decide +kernel) ⟨Nat.le_of_ble_eq_true rfl, Nat.le_of_ble_eq_true rfl⟩) (sg_preV (ci := 12) (C := RX12) (T := TX12) (N := 55) hA hK hP hS hZ 0 (by decide) rfl rfl) rfl rfl hl.1 rfl (lv_room (Nat.le_of_ble_eq_true rfl)) dX12_once_2 ⟨Nat.le_refl _, Nat.le_refl _⟩) hA hS (fun r_105 f_102 L_103 Q_104 H locs hq hP hS => ?_)
  obtain ⟨⟨ef9, eL9, eQ9⟩, hq⟩ := hq
  rw [ef9, eL9, eQ9] at hP; clear ef9 eL9 eQ9
  rcases hq with ⟨rfl, hq⟩ | hq | ⟨rfl, hq⟩
  · skip
    have q_106 := hq
    refine lv_iconst (v := (-1)) hx hb dX12_once_5 (by decide) ?_
    refine lv_icmp_eq (tgt := 28) hx hb dX12_once_6 (by decide) (fun c => absurd c (by decide)) (fun c => ?_)
    refine lv_iload_n hx hb dX12_once_9 rfl (lv_at hl 2 rfl) ?_
    refine sg_calli (va_runS (As := [.int x1]) (rest := []) ⟨hx, hb, hml, hown, hts⟩ (kX12_isPart l D ca za h hh f L Q hI x1 H.size) (va_cwS 1 hts (gw_S (fun _ h => List.mem_cons_of_mem _ h) mw_636 mw_637 mw_619 mw_635) rfl rfl rfl (by decide +kernel) ⟨Nat.le_of_ble_eq_true rfl, Nat.le_of_ble_eq_true rfl⟩) (sg_preS hA hK hP hS hZ) rfl rfl hl.1 rfl (lv_room (Nat.le_of_ble_eq_true rfl)) dX12_once_10 ⟨Nat.le_refl _, Nat.le_refl _⟩) hA hS (fun r_110 f_107 L_108 Q_109 H locs hq hP hS => ?_)
    obtain ⟨⟨ef9, eL9, eQ9⟩, hq⟩ := hq
    rw [ef9, eL9, eQ9] at hP; clear ef9 eL9 eQ9
    rcases hq with ⟨rfl, hq⟩ | ⟨rfl, hq⟩
    · skip
      have q_111 := hq
      refine lv_if_eq (tgt := 28) hx hb dX12_once_13 (by decide) (fun c => absurd c (by decide)) (fun c => ?_)
      refine lv_iload_n hx hb dX12_once_16 rfl (lv_at hl 3 rfl) ?_
      obtain ⟨w_112, ew_112⟩ : ∃ z : Int64, z = Int32.toInt64 x2 := ⟨_, rfl⟩
      have q_113 : w_112.toInt = x2.toInt := by rw [ew_112]; exact Int32.toInt_toInt64 _
      refine lv_i2l (v := w_112) hx hb dX12_once_17 ew_112.symm ?_
      refine lv_lconst (v := 0) hx hb dX12_once_18 (by decide) ?_
      refine lv_ldc2 (v := 2) hx hb hown (hts _ (List.mem_cons_of_mem _ mw_629)) dX12_once_19 ?_
      refine sg_calli (va_runS (As := [.long w_112, .long 0, .long 2]) (rest := []) ⟨hx, hb, hml, hown, hts⟩ (kX12_within l D ca za h hh f L Q hI w_112 0 2 H.size) (va_cwS 3 hts (gw_S (fun _ h => List.mem_cons_of_mem _ h) mw_631 mw_632 mw_619 mw_630) rfl rfl rfl (by decide +kernel) ⟨Nat.le_of_ble_eq_true rfl, Nat.le_of_ble_eq_true rfl⟩) (sg_preS hA hK hP hS hZ) rfl rfl hl.1 rfl (lv_room (Nat.le_of_ble_eq_true rfl)) dX12_once_22 ⟨Nat.le_refl _, Nat.le_refl _⟩) hA hS (fun r_117 f_114 L_115 Q_116 H locs hq hP hS => ?_)
      obtain ⟨⟨ef9, eL9, eQ9⟩, hq⟩ := hq
      rw [ef9, eL9, eQ9] at hP; clear ef9 eL9 eQ9
      have k_118 : (0 : Int64).toInt = 0 := by decide
      have k_119 : (2 : Int64).toInt = 2 := by decide
      rcases hq with ⟨rfl, hq⟩ | ⟨rfl, hq⟩
      · skip
        have q_120 := hq
        refine lv_if_ne (tgt := 30) hx hb dX12_once_25 (by decide) (fun c => ?_) (fun c => absurd c (by decide))
        refine lv_aload_n hx hb dX12_once_30 rfl (lv_at hl 0 rfl) ?_
        refine lv_iload_n hx hb dX12_once_31 rfl (lv_at hl 1 rfl) ?_
        refine sg_calli (va_runV (As := [.int x0]) (rest := []) ⟨hx, hb, hml, hown, hts⟩ (kX12_bytesIs l D ca za h hh f L Q hI x0 H.size) (cwV 1 hts (gw_V (fun _ h => List.mem_cons_of_mem _ h) mw_685 mw_686 mw_687 mw_619 mw_684) rfl rfl rfl (by decide +kernel) ⟨Nat.le_of_ble_eq_true rfl, Nat.le_of_ble_eq_true rfl⟩) (sg_preV (ci := 12) (C := RX12) (T := TX12) (N := 55) hA hK hP hS hZ 0 (by decide) rfl rfl) rfl rfl hl.1 rfl (lv_room (Nat.le_of_ble_eq_true rfl)) dX12_once_32 ⟨Nat.le_refl _, Nat.le_refl _⟩) hA hS (fun r_124 f_121 L_122 Q_123 H locs hq hP hS => ?_)
        obtain ⟨⟨ef9, eL9, eQ9⟩, hq⟩ := hq
        rw [ef9, eL9, eQ9] at hP; clear ef9 eL9 eQ9
        rcases hq with ⟨rfl, hq⟩ | hq | ⟨rfl, hq⟩
        · skip
          have q_125 := hq
          refine lv_if_ge (tgt := 44) hx hb dX12_once_35 (by decide) (fun c => ?_) (fun c => absurd c (by decide))
          refine lv_aload_n hx hb dX12_once_44 rfl (lv_at hl 0 rfl) ?_
          refine lv_iload_n hx hb dX12_once_45 rfl (lv_at hl 1 rfl) ?_
          refine sg_calli (va_runV (As := [.int x0]) (rest := []) ⟨hx, hb, hml, hown, hts⟩ (kX12_shiftsOf l D ca za h hh f L Q hI x0 (by omega) H.size) (cwV 1 hts (gw_V (fun _ h => List.mem_cons_of_mem _ h) mw_714 mw_715 mw_716 mw_619 mw_713) rfl rfl rfl (by decide +kernel) ⟨Nat.le_of_ble_eq_true rfl, Nat.le_of_ble_eq_true rfl⟩) (sg_preV (ci := 12) (C := RX12) (T := TX12) (N := 55) hA hK hP hS hZ 0 (by decide) rfl rfl) rfl rfl hl.1 rfl (lv_room (Nat.le_of_ble_eq_true rfl)) dX12_once_46 ⟨Nat.le_refl _, Nat.le_refl _⟩) hA hS (fun r_129 f_126 L_127 Q_128 H locs hq hP hS => ?_)
          obtain ⟨⟨ef9, eL9, eQ9⟩, hq⟩ := hq
          rw [ef9, eL9, eQ9] at hP; clear ef9 eL9 eQ9
          refine lv_istore (lv' := [(4, .int r_129), (0, .ref (h 0)), (1, .int x0), (2, .int x1), (3, .int x2)]) hx hb dX12_once_49 hl (by decide) rfl (fun ls hl => ?_)
          refine lv_aload_n hx hb dX12_once_51 rfl (lv_at hl 1 rfl) ?_
          refine lv_iload_n hx hb dX12_once_52 rfl (lv_at hl 2 rfl) ?_
          refine lv_iload_n hx hb dX12_once_53 rfl (lv_at hl 3 rfl) ?_
          refine sg_callv (va_runV (As := [.int x0, .int x1]) (rest := []) ⟨hx, hb, hml, hown, hts⟩ (kX12_asksLosses l D ca za h hh f L Q hI x0 x1 (by omega) (by omega) H.size) (cwV 2 hts (gw_V (fun _ h => List.mem_cons_of_mem _ h) mw_818 mw_819 mw_820 mw_619 mw_817) rfl rfl rfl (by decide +kernel) ⟨Nat.le_of_ble_eq_true rfl, Nat.le_of_ble_eq_true rfl⟩) (sg_preV (ci := 12) (C := RX12) (T := TX12) (N := 55) hA hK hP hS hZ 0 (by decide) rfl rfl) rfl rfl hl.1 rfl (lv_room (Nat.le_of_ble_eq_true rfl)) dX12_once_54 ⟨Nat.le_refl _, Nat.le_refl _⟩) hA hS (fun f_130 L_131 Q_132 H locs hq hP hS => ?_)
          obtain ⟨hI, hk_f_130, eL9, eQ9⟩ := hq
          rw [eL9, eQ9] at hP; clear eL9 eQ9
          have hF : sgK WkX12_once f f_130 := sgK.tr hF hk_f_130 (by decide)
          refine lv_iconst (v := 0) hx hb dX12_once_57 (by decide) ?_
          refine lv_istore (lv' := [(5, .int 0), (4, .int r_129), (0, .ref (h 0)), (1, .int x0), (2, .int x1), (3, .int x2)]) hx hb dX12_once_58 hl (by decide) rfl (fun ls hl => ?_)
          refine lv_bipush (v := (-2)) hx hb dX12_once_60 (by decide) ?_
          refine lv_istore (lv' := [(6, .int (-2)), (5, .int 0), (4, .int r_129), (0, .ref (h 0)), (1, .int x0), (2, .int x1), (3, .int x2)]) hx hb dX12_once_62 hl (by decide) rfl (fun ls hl => ?_)
          refine lv_bipush (v := (-2)) hx hb dX12_once_64 (by decide) ?_
          refine lv_istore (lv' := [(7, .int (-2)), (6, .int (-2)), (5, .int 0), (4, .int r_129), (0, .ref (h 0)), (1, .int x0), (2, .int x1), (3, .int x2)]) hx hb dX12_once_66 hl (by decide) rfl (fun ls hl => ?_)
          refine lv_iconst (v := (-1)) hx hb dX12_once_68 (by decide) ?_
          refine lv_istore (lv' := [(8, .int (-1)), (7, .int (-2)), (6, .int (-2)), (5, .int 0), (4, .int r_129), (0, .ref (h 0)), (1, .int x0), (2, .int x1), (3, .int x2)]) hx hb dX12_once_69 hl (by decide) rfl (fun ls hl => ?_)
          exact loop_71 23 r_129 0 (-2) (-2) (-1) f_130 _ _ _ (by have kc1 : (0 : Int32).toInt = 0 := (by decide); have kc2 : ((-2) : Int32).toInt = (-2) := (by decide); have kc3 : ((-2) : Int32).toInt = (-2) := (by decide); have kc4 : ((-1) : Int32).toInt = (-1) := (by decide); omega) (by omega) (by omega) (by omega) (by omega) (by decide) (by decide) (by decide) hI hF hP hS (lv_sub hl [5, 7, 8, 4, 3, 2, 1, 0] rfl)
        · skip
          have q_133 := hq
          refine lv_if_ge (tgt := 44) hx hb dX12_once_35 (by decide) (fun c => ?_) (fun c => ?_)
          · skip
            exfalso; have c_134 : 0 ≤ r_124.toInt := (by have z := bn_le c; have k1 : (0 : Int32).toInt = 0 := (by decide); omega); omega
          · skip
            have c_135 : r_124.toInt < 0 := (by have z := bn_nle c; have k1 : (0 : Int32).toInt = 0 := (by decide); omega)
            refine lv_aload_n hx hb dX12_once_38 rfl (lv_at hl 0 rfl) ?_
            refine lv_iload_n hx hb dX12_once_39 rfl (lv_at hl 1 rfl) ?_
            refine sg_calli (va_runV (As := [.int x0]) (rest := []) ⟨hx, hb, hml, hown, hts⟩ (kX12_bytesIs l D ca za h hh f L Q hI x0 H.size) (cwV 1 hts (gw_V (fun _ h => List.mem_cons_of_mem _ h) mw_685 mw_686 mw_687 mw_619 mw_684) rfl rfl rfl (by decide +kernel) ⟨Nat.le_of_ble_eq_true rfl, Nat.le_of_ble_eq_true rfl⟩) (sg_preV (ci := 12) (C := RX12) (T := TX12) (N := 55) hA hK hP hS hZ 0 (by decide) rfl rfl) rfl rfl hl.1 rfl (lv_room (Nat.le_of_ble_eq_true rfl)) dX12_once_40 ⟨Nat.le_refl _, Nat.le_refl _⟩) hA hS (fun r_139 f_136 L_137 Q_138 H locs hq hP hS => ?_)
            obtain ⟨⟨ef9, eL9, eQ9⟩, hq⟩ := hq
            rw [ef9, eL9, eQ9] at hP; clear ef9 eL9 eQ9
            rcases hq with ⟨rfl, hq⟩ | hq | ⟨rfl, hq⟩
            · skip
              have q_140 := hq
              have k99 : (1 : Int32).toInt = 1 := (by decide)
              exact hret _ _ _ _ (1) f L Q dX12_once_43 hP hS ⟨⟨hI, hF, rfl, rfl⟩, trivial⟩
            · skip
              have q_141 := hq
              exact hret _ _ _ _ (r_139) f L Q dX12_once_43 hP hS ⟨⟨hI, hF, rfl, rfl⟩, trivial⟩
            · skip
              have q_142 := hq
              have k99 : ((-1) : Int32).toInt = (-1) := (by decide)
              exact hret _ _ _ _ (-1) f L Q dX12_once_43 hP hS ⟨⟨hI, hF, rfl, rfl⟩, trivial⟩
        · skip
          have q_143 := hq
          refine lv_if_ge (tgt := 44) hx hb dX12_once_35 (by decide) (fun c => absurd c (by decide)) (fun c => ?_)
          refine lv_aload_n hx hb dX12_once_38 rfl (lv_at hl 0 rfl) ?_
          refine lv_iload_n hx hb dX12_once_39 rfl (lv_at hl 1 rfl) ?_
          refine sg_calli (va_runV (As := [.int x0]) (rest := []) ⟨hx, hb, hml, hown, hts⟩ (kX12_bytesIs l D ca za h hh f L Q hI x0 H.size) (cwV 1 hts (gw_V (fun _ h => List.mem_cons_of_mem _ h) mw_685 mw_686 mw_687 mw_619 mw_684) rfl rfl rfl (by decide +kernel) ⟨Nat.le_of_ble_eq_true rfl, Nat.le_of_ble_eq_true rfl⟩) (sg_preV (ci := 12) (C := RX12) (T := TX12) (N := 55) hA hK hP hS hZ 0 (by decide) rfl rfl) rfl rfl hl.1 rfl (lv_room (Nat.le_of_ble_eq_true rfl)) dX12_once_40 ⟨Nat.le_refl _, Nat.le_refl _⟩) hA hS (fun r_147 f_144 L_145 Q_146 H locs hq hP hS => ?_)
          obtain ⟨⟨ef9, eL9, eQ9⟩, hq⟩ := hq
          rw [ef9, eL9, eQ9] at hP; clear ef9 eL9 eQ9
          rcases hq with ⟨rfl, hq⟩ | hq | ⟨rfl, hq⟩
          · skip
            have q_148 := hq
            have k99 : (1 : Int32).toInt = 1 := (by decide)
            exact hret _ _ _ _ (1) f L Q dX12_once_43 hP hS ⟨⟨hI, hF, rfl, rfl⟩, trivial⟩
          · skip
            have q_149 := hq
            exact hret _ _ _ _ (r_147) f L Q dX12_once_43 hP hS ⟨⟨hI, hF, rfl, rfl⟩, trivial⟩
          · skip
            have q_150 := hq
            have k99 : ((-1) : Int32).toInt = (-1) := (by decide)
            exact hret _ _ _ _ (-1) f L Q dX12_once_43 hP hS ⟨⟨hI, hF, rfl, rfl⟩, trivial⟩
      · skip
        have q_151 := hq
        refine lv_if_ne (tgt := 30) hx hb dX12_once_25 (by decide) (fun c => absurd c (by decide)) (fun c => ?_)
        refine lv_iconst (v := (-1)) hx hb dX12_once_28 (by decide) ?_
        have k99 : ((-1) : Int32).toInt = (-1) := (by decide)
        exact hret _ _ _ _ (-1) f L Q dX12_once_29 hP hS ⟨⟨hI, hF, rfl, rfl⟩, trivial⟩
    · skip
      have q_152 := hq
      refine lv_if_eq (tgt := 28) hx hb dX12_once_13 (by decide) (fun c => ?_) (fun c => absurd c (by decide))
      refine lv_iconst (v := (-1)) hx hb dX12_once_28 (by decide) ?_
      have k99 : ((-1) : Int32).toInt = (-1) := (by decide)
      exact hret _ _ _ _ (-1) f L Q dX12_once_29 hP hS ⟨⟨hI, hF, rfl, rfl⟩, trivial⟩
  · skip
    have q_153 := hq
    refine lv_iconst (v := (-1)) hx hb dX12_once_5 (by decide) ?_
    refine lv_icmp_eq (tgt := 28) hx hb dX12_once_6 (by decide) (fun c => ?_) (fun c => ?_)
    · skip
      exfalso; have c_154 : r_105.toInt = (-1) := (by have z := Int32.toInt_inj.mpr c; have k1 : ((-1) : Int32).toInt = (-1) := (by decide); omega); omega
    · skip
      have c_155 : r_105.toInt ≠ (-1) := (by have z := bn_ne c; have k1 : ((-1) : Int32).toInt = (-1) := (by decide); omega)
      refine lv_iload_n hx hb dX12_once_9 rfl (lv_at hl 2 rfl) ?_
      refine sg_calli (va_runS (As := [.int x1]) (rest := []) ⟨hx, hb, hml, hown, hts⟩ (kX12_isPart l D ca za h hh f L Q hI x1 H.size) (va_cwS 1 hts (gw_S (fun _ h => List.mem_cons_of_mem _ h) mw_636 mw_637 mw_619 mw_635) rfl rfl rfl (by decide +kernel) ⟨Nat.le_of_ble_eq_true rfl, Nat.le_of_ble_eq_true rfl⟩) (sg_preS hA hK hP hS hZ) rfl rfl hl.1 rfl (lv_room (Nat.le_of_ble_eq_true rfl)) dX12_once_10 ⟨Nat.le_refl _, Nat.le_refl _⟩) hA hS (fun r_159 f_156 L_157 Q_158 H locs hq hP hS => ?_)
      obtain ⟨⟨ef9, eL9, eQ9⟩, hq⟩ := hq
      rw [ef9, eL9, eQ9] at hP; clear ef9 eL9 eQ9
      rcases hq with ⟨rfl, hq⟩ | ⟨rfl, hq⟩
      · skip
        have q_160 := hq
        refine lv_if_eq (tgt := 28) hx hb dX12_once_13 (by decide) (fun c => absurd c (by decide)) (fun c => ?_)
        refine lv_iload_n hx hb dX12_once_16 rfl (lv_at hl 3 rfl) ?_
        obtain ⟨w_161, ew_161⟩ : ∃ z : Int64, z = Int32.toInt64 x2 := ⟨_, rfl⟩
        have q_162 : w_161.toInt = x2.toInt := by rw [ew_161]; exact Int32.toInt_toInt64 _
        refine lv_i2l (v := w_161) hx hb dX12_once_17 ew_161.symm ?_
        refine lv_lconst (v := 0) hx hb dX12_once_18 (by decide) ?_
        refine lv_ldc2 (v := 2) hx hb hown (hts _ (List.mem_cons_of_mem _ mw_629)) dX12_once_19 ?_
        refine sg_calli (va_runS (As := [.long w_161, .long 0, .long 2]) (rest := []) ⟨hx, hb, hml, hown, hts⟩ (kX12_within l D ca za h hh f L Q hI w_161 0 2 H.size) (va_cwS 3 hts (gw_S (fun _ h => List.mem_cons_of_mem _ h) mw_631 mw_632 mw_619 mw_630) rfl rfl rfl (by decide +kernel) ⟨Nat.le_of_ble_eq_true rfl, Nat.le_of_ble_eq_true rfl⟩) (sg_preS hA hK hP hS hZ) rfl rfl hl.1 rfl (lv_room (Nat.le_of_ble_eq_true rfl)) dX12_once_22 ⟨Nat.le_refl _, Nat.le_refl _⟩) hA hS (fun r_166 f_163 L_164 Q_165 H locs hq hP hS => ?_)
        obtain ⟨⟨ef9, eL9, eQ9⟩, hq⟩ := hq
        rw [ef9, eL9, eQ9] at hP; clear ef9 eL9 eQ9
        have k_167 : (0 : Int64).toInt = 0 := by decide
        have k_168 : (2 : Int64).toInt = 2 := by decide
        rcases hq with ⟨rfl, hq⟩ | ⟨rfl, hq⟩
        · skip
          have q_169 := hq
          refine lv_if_ne (tgt := 30) hx hb dX12_once_25 (by decide) (fun c => ?_) (fun c => absurd c (by decide))
          refine lv_aload_n hx hb dX12_once_30 rfl (lv_at hl 0 rfl) ?_
          refine lv_iload_n hx hb dX12_once_31 rfl (lv_at hl 1 rfl) ?_
          refine sg_calli (va_runV (As := [.int x0]) (rest := []) ⟨hx, hb, hml, hown, hts⟩ (kX12_bytesIs l D ca za h hh f L Q hI x0 H.size) (cwV 1 hts (gw_V (fun _ h => List.mem_cons_of_mem _ h) mw_685 mw_686 mw_687 mw_619 mw_684) rfl rfl rfl (by decide +kernel) ⟨Nat.le_of_ble_eq_true rfl, Nat.le_of_ble_eq_true rfl⟩) (sg_preV (ci := 12) (C := RX12) (T := TX12) (N := 55) hA hK hP hS hZ 0 (by decide) rfl rfl) rfl rfl hl.1 rfl (lv_room (Nat.le_of_ble_eq_true rfl)) dX12_once_32 ⟨Nat.le_refl _, Nat.le_refl _⟩) hA hS (fun r_173 f_170 L_171 Q_172 H locs hq hP hS => ?_)
          obtain ⟨⟨ef9, eL9, eQ9⟩, hq⟩ := hq
          rw [ef9, eL9, eQ9] at hP; clear ef9 eL9 eQ9
          rcases hq with ⟨rfl, hq⟩ | hq | ⟨rfl, hq⟩
          · skip
            have q_174 := hq
            refine lv_if_ge (tgt := 44) hx hb dX12_once_35 (by decide) (fun c => ?_) (fun c => absurd c (by decide))
            refine lv_aload_n hx hb dX12_once_44 rfl (lv_at hl 0 rfl) ?_
            refine lv_iload_n hx hb dX12_once_45 rfl (lv_at hl 1 rfl) ?_
            refine sg_calli (va_runV (As := [.int x0]) (rest := []) ⟨hx, hb, hml, hown, hts⟩ (kX12_shiftsOf l D ca za h hh f L Q hI x0 (by omega) H.size) (cwV 1 hts (gw_V (fun _ h => List.mem_cons_of_mem _ h) mw_714 mw_715 mw_716 mw_619 mw_713) rfl rfl rfl (by decide +kernel) ⟨Nat.le_of_ble_eq_true rfl, Nat.le_of_ble_eq_true rfl⟩) (sg_preV (ci := 12) (C := RX12) (T := TX12) (N := 55) hA hK hP hS hZ 0 (by decide) rfl rfl) rfl rfl hl.1 rfl (lv_room (Nat.le_of_ble_eq_true rfl)) dX12_once_46 ⟨Nat.le_refl _, Nat.le_refl _⟩) hA hS (fun r_178 f_175 L_176 Q_177 H locs hq hP hS => ?_)
            obtain ⟨⟨ef9, eL9, eQ9⟩, hq⟩ := hq
            rw [ef9, eL9, eQ9] at hP; clear ef9 eL9 eQ9
            refine lv_istore (lv' := [(4, .int r_178), (0, .ref (h 0)), (1, .int x0), (2, .int x1), (3, .int x2)]) hx hb dX12_once_49 hl (by decide) rfl (fun ls hl => ?_)
            refine lv_aload_n hx hb dX12_once_51 rfl (lv_at hl 1 rfl) ?_
            refine lv_iload_n hx hb dX12_once_52 rfl (lv_at hl 2 rfl) ?_
            refine lv_iload_n hx hb dX12_once_53 rfl (lv_at hl 3 rfl) ?_
            refine sg_callv (va_runV (As := [.int x0, .int x1]) (rest := []) ⟨hx, hb, hml, hown, hts⟩ (kX12_asksLosses l D ca za h hh f L Q hI x0 x1 (by omega) (by omega) H.size) (cwV 2 hts (gw_V (fun _ h => List.mem_cons_of_mem _ h) mw_818 mw_819 mw_820 mw_619 mw_817) rfl rfl rfl (by decide +kernel) ⟨Nat.le_of_ble_eq_true rfl, Nat.le_of_ble_eq_true rfl⟩) (sg_preV (ci := 12) (C := RX12) (T := TX12) (N := 55) hA hK hP hS hZ 0 (by decide) rfl rfl) rfl rfl hl.1 rfl (lv_room (Nat.le_of_ble_eq_true rfl)) dX12_once_54 ⟨Nat.le_refl _, Nat.le_refl _⟩) hA hS (fun f_179 L_180 Q_181 H locs hq hP hS => ?_)
            obtain ⟨hI, hk_f_179, eL9, eQ9⟩ := hq
            rw [eL9, eQ9] at hP; clear eL9 eQ9
            have hF : sgK WkX12_once f f_179 := sgK.tr hF hk_f_179 (by decide)
            refine lv_iconst (v := 0) hx hb dX12_once_57 (by decide) ?_
            refine lv_istore (lv' := [(5, .int 0), (4, .int r_178), (0, .ref (h 0)), (1, .int x0), (2, .int x1), (3, .int x2)]) hx hb dX12_once_58 hl (by decide) rfl (fun ls hl => ?_)
            refine lv_bipush (v := (-2)) hx hb dX12_once_60 (by decide) ?_
            refine lv_istore (lv' := [(6, .int (-2)), (5, .int 0), (4, .int r_178), (0, .ref (h 0)), (1, .int x0), (2, .int x1), (3, .int x2)]) hx hb dX12_once_62 hl (by decide) rfl (fun ls hl => ?_)
            refine lv_bipush (v := (-2)) hx hb dX12_once_64 (by decide) ?_
            refine lv_istore (lv' := [(7, .int (-2)), (6, .int (-2)), (5, .int 0), (4, .int r_178), (0, .ref (h 0)), (1, .int x0), (2, .int x1), (3, .int x2)]) hx hb dX12_once_66 hl (by decide) rfl (fun ls hl => ?_)
            refine lv_iconst (v := (-1)) hx hb dX12_once_68 (by decide) ?_
            refine lv_istore (lv' := [(8, .int (-1)), (7, .int (-2)), (6, .int (-2)), (5, .int 0), (4, .int r_178), (0, .ref (h 0)), (1, .int x0), (2, .int x1), (3, .int x2)]) hx hb dX12_once_69 hl (by decide) rfl (fun ls hl => ?_)
            exact loop_71 23 r_178 0 (-2) (-2) (-1) f_179 _ _ _ (by have kc1 : (0 : Int32).toInt = 0 := (by decide); have kc2 : ((-2) : Int32).toInt = (-2) := (by decide); have kc3 : ((-2) : Int32).toInt = (-2) := (by decide); have kc4 : ((-1) : Int32).toInt = (-1) := (by decide); omega) (by omega) (by omega) (by omega) (by omega) (by decide) (by decide) (by decide) hI hF hP hS (lv_sub hl [5, 7, 8, 4, 3, 2, 1, 0] rfl)
          · skip
            have q_182 := hq
            refine lv_if_ge (tgt := 44) hx hb dX12_once_35 (by decide) (fun c => ?_) (fun c => ?_)
            · skip
              exfalso; have c_183 : 0 ≤ r_173.toInt := (by have z := bn_le c; have k1 : (0 : Int32).toInt = 0 := (by decide); omega); omega
            · skip
              have c_184 : r_173.toInt < 0 := (by have z := bn_nle c; have k1 : (0 : Int32).toInt = 0 := (by decide); omega)
              refine lv_aload_n hx hb dX12_once_38 rfl (lv_at hl 0 rfl) ?_
              refine lv_iload_n hx hb dX12_once_39 rfl (lv_at hl 1 rfl) ?_
              refine sg_calli (va_runV (As := [.int x0]) (rest := []) ⟨hx, hb, hml, hown, hts⟩ (kX12_bytesIs l D ca za h hh f L Q hI x0 H.size) (cwV 1 hts (gw_V (fun _ h => List.mem_cons_of_mem _ h) mw_685 mw_686 mw_687 mw_619 mw_684) rfl rfl rfl (by decide +kernel) ⟨Nat.le_of_ble_eq_true rfl, Nat.le_of_ble_eq_true rfl⟩) (sg_preV (ci := 12) (C := RX12) (T := TX12) (N := 55) hA hK hP hS hZ 0 (by decide) rfl rfl) rfl rfl hl.1 rfl (lv_room (Nat.le_of_ble_eq_true rfl)) dX12_once_40 ⟨Nat.le_refl _, Nat.le_refl _⟩) hA hS (fun r_188 f_185 L_186 Q_187 H locs hq hP hS => ?_)
              obtain ⟨⟨ef9, eL9, eQ9⟩, hq⟩ := hq
              rw [ef9, eL9, eQ9] at hP; clear ef9 eL9 eQ9
              rcases hq with ⟨rfl, hq⟩ | hq | ⟨rfl, hq⟩
              · skip
                have q_189 := hq
                have k99 : (1 : Int32).toInt = 1 := (by decide)
                exact hret _ _ _ _ (1) f L Q dX12_once_43 hP hS ⟨⟨hI, hF, rfl, rfl⟩, trivial⟩
              · skip
                have q_190 := hq
                exact hret _ _ _ _ (r_188) f L Q dX12_once_43 hP hS ⟨⟨hI, hF, rfl, rfl⟩, trivial⟩
              · skip
                have q_191 := hq
                have k99 : ((-1) : Int32).toInt = (-1) := (by decide)
                exact hret _ _ _ _ (-1) f L Q dX12_once_43 hP hS ⟨⟨hI, hF, rfl, rfl⟩, trivial⟩
          · skip
            have q_192 := hq
            refine lv_if_ge (tgt := 44) hx hb dX12_once_35 (by decide) (fun c => absurd c (by decide)) (fun c => ?_)
            refine lv_aload_n hx hb dX12_once_38 rfl (lv_at hl 0 rfl) ?_
            refine lv_iload_n hx hb dX12_once_39 rfl (lv_at hl 1 rfl) ?_
            refine sg_calli (va_runV (As := [.int x0]) (rest := []) ⟨hx, hb, hml, hown, hts⟩ (kX12_bytesIs l D ca za h hh f L Q hI x0 H.size) (cwV 1 hts (gw_V (fun _ h => List.mem_cons_of_mem _ h) mw_685 mw_686 mw_687 mw_619 mw_684) rfl rfl rfl (by decide +kernel) ⟨Nat.le_of_ble_eq_true rfl, Nat.le_of_ble_eq_true rfl⟩) (sg_preV (ci := 12) (C := RX12) (T := TX12) (N := 55) hA hK hP hS hZ 0 (by decide) rfl rfl) rfl rfl hl.1 rfl (lv_room (Nat.le_of_ble_eq_true rfl)) dX12_once_40 ⟨Nat.le_refl _, Nat.le_refl _⟩) hA hS (fun r_196 f_193 L_194 Q_195 H locs hq hP hS => ?_)
            obtain ⟨⟨ef9, eL9, eQ9⟩, hq⟩ := hq
            rw [ef9, eL9, eQ9] at hP; clear ef9 eL9 eQ9
            rcases hq with ⟨rfl, hq⟩ | hq | ⟨rfl, hq⟩
            · skip
              have q_197 := hq
              have k99 : (1 : Int32).toInt = 1 := (by decide)
              exact hret _ _ _ _ (1) f L Q dX12_once_43 hP hS ⟨⟨hI, hF, rfl, rfl⟩, trivial⟩
            · skip
              have q_198 := hq
              exact hret _ _ _ _ (r_196) f L Q dX12_once_43 hP hS ⟨⟨hI, hF, rfl, rfl⟩, trivial⟩
            · skip
              have q_199 := hq
              have k99 : ((-1) : Int32).toInt = (-1) := (by decide)
              exact hret _ _ _ _ (-1) f L Q dX12_once_43 hP hS ⟨⟨hI, hF, rfl, rfl⟩, trivial⟩
        · skip
          have q_200 := hq
          refine lv_if_ne (tgt := 30) hx hb dX12_once_25 (by decide) (fun c => absurd c (by decide)) (fun c => ?_)
          refine lv_iconst (v := (-1)) hx hb dX12_once_28 (by decide) ?_
          have k99 : ((-1) : Int32).toInt = (-1) := (by decide)
          exact hret _ _ _ _ (-1) f L Q dX12_once_29 hP hS ⟨⟨hI, hF, rfl, rfl⟩, trivial⟩
      · skip
        have q_201 := hq
        refine lv_if_eq (tgt := 28) hx hb dX12_once_13 (by decide) (fun c => ?_) (fun c => absurd c (by decide))
        refine lv_iconst (v := (-1)) hx hb dX12_once_28 (by decide) ?_
        have k99 : ((-1) : Int32).toInt = (-1) := (by decide)
        exact hret _ _ _ _ (-1) f L Q dX12_once_29 hP hS ⟨⟨hI, hF, rfl, rfl⟩, trivial⟩
  · skip
    have q_202 := hq
    refine lv_iconst (v := (-1)) hx hb dX12_once_5 (by decide) ?_
    refine lv_icmp_eq (tgt := 28) hx hb dX12_once_6 (by decide) (fun c => ?_) (fun c => absurd c (by decide))
    refine lv_iconst (v := (-1)) hx hb dX12_once_28 (by decide) ?_
    have k99 : ((-1) : Int32).toInt = (-1) := (by decide)
    exact hret _ _ _ _ (-1) f L Q dX12_once_29 hP hS ⟨⟨hI, hF, rfl, rfl⟩, trivial⟩

abbrev WkX12_beginsWeek : List (Nat × Nat × Option Nat) := [(0, 0, some 29), (0, 0, some 30), (0, 0, some 31), (12, 12, none)]
set_option maxHeartbeats 4000000 in
set_option maxRecDepth 100000 in
theorem kX12_beginsWeek (l : Launch) (D : va_G) (ca : Nat → ClassId) (za h : Nat → Nat) (hh : sgH 26 h) (f : sg_F) (L : sg_L) (Q : sg_Q) (hI : sgI loM hiM f) (sz : Nat) : Met l yX12_beginsWeek gwX12_beginsWeek { frames := 0, cells := 0, slots := 0, locals := 0 } (sgP D vwCl (tyX ca) 26 h (eM ca h) zcM za f L Q sz [.ref (h 0)]) (sgQv D vwCl 26 h (eM ca h) sz (fun f1 L1 Q1 => ((sgI loM hiM f1 ∧ sgK WkX12_beginsWeek f f1 ∧ L1 = L ∧ Q1 = Q)))) 0 0 (sgA 26 h sz) := by
  refine sg_ofWv (cc := cX12_beginsWeek) (maxL := 2) RX12 (by decide) rfl rfl (Nat.le_of_ble_eq_true rfl) ?_
  intro p e s m below meth cd Qz ls hx hb hml hown hts hK hZ hP hS hl hret
  have hA := sgY.self (n := 26) (h := h) (sz := s.heap.size)
  have hl : lv_has ls 2 [(0, .ref (h 0))] := hl
  obtain ⟨H, hH⟩ : ∃ z : Heap, z = s.heap := ⟨_, rfl⟩
  obtain ⟨locs, hlo⟩ : ∃ z : List Loc, z = [] := ⟨_, rfl⟩
  have hP : va_P D vwCl (sgw 26 h (eM ca h) f L Q) H := by rw [hH]; exact hP
  have hS : va_S (sgA 26 h s.heap.size) s.heap H locs := by rw [hH, hlo]; exact hS
  suffices hgo : W p l e ({ frames := 0, cells := 0, slots := 0, locals := 0 }) s m ([.ref (h 0)] : List Value).toArray below meth cd H locs 0 0 Qz (F0 m 0 ls []) by rw [hH, hlo] at hgo; exact hgo
  clear hH hlo
  have hF : sgK WkX12_beginsWeek f f := sgK.rf
  have loop_2 : ∀ (n_2 : Nat) (y1_2 : Int32) (fp_2 : sg_F) (H : Heap) (locs : List Loc) (ls : Array Slot), 3 - y1_2.toInt < (n_2 : Int) → 0 ≤ y1_2.toInt ∧ y1_2.toInt ≤ 3 → sgI loM hiM fp_2 → sgK WkX12_beginsWeek f fp_2 → va_P D vwCl (sgw 26 h (eM ca h) fp_2 L Q) H → va_S (sgA 26 h s.heap.size) s.heap H locs → lv_has ls 2 [(0, .ref (h 0)), (1, .int y1_2)] → W p l e ({ frames := 0, cells := 0, slots := 0, locals := 0 }) s m ([.ref (h 0)] : List Value).toArray below meth cd H locs 0 0 Qz (F0 m 2 ls []) := by
    intro n_2
    induction n_2 with
    | zero => intro y1_2 fp_2 H locs ls hm_2 hy0_2 hI hF hP hS hl; exact absurd hm_2 (by omega)
    | succ n_2 ih_2 =>
      intro y1_2 fp_2 H locs ls hm_2 hy0_2 hI hF hP hS hl
      refine lv_iload_n hx hb dX12_beginsWeek_2 rfl (lv_at hl 1 rfl) ?_
      refine lv_iconst (v := 3) hx hb dX12_beginsWeek_3 (by decide) ?_
      refine lv_icmp_ge (tgt := 25) hx hb dX12_beginsWeek_4 (by decide) (fun c => ?_) (fun c => ?_)
      · skip
        have c_1 : 3 ≤ y1_2.toInt := (by have z := bn_le c; have k1 : (3 : Int32).toInt = 3 := (by decide); omega)
        refine lv_aload_n hx hb dX12_beginsWeek_25 rfl (lv_at hl 0 rfl) ?_
        refine lv_iconst (v := 0) hx hb dX12_beginsWeek_26 (by decide) ?_
        refine sg_put (ci := 12) (x := 0) (ty := .int) (C := RX12) (T := TX12) (N := 55) hx hb hts (fun w h => List.mem_cons_of_mem _ (gx_12 w h)) tyX12 tyX12_ok nmX12 hown hh hA hK hP hS 0 (by decide) rfl rfl 29 (by decide) (hts _ (List.mem_cons_of_mem _ mw_706)) (fun _ h9 => h9) rfl rfl (by decide +kernel) rfl rfl (Nat.le_of_ble_eq_true rfl) dX12_beginsWeek_27 (fun f_3 H locs ef_3 hP hS => ?_)
        have hI : sgI loM hiM f_3 := by rw [ef_3]; exact sgI.put hI 0 29 (bn_top _)
        have hF : sgK WkX12_beginsWeek f f_3 := sgK.put hF ef_3 (by rfl)
        refine lv_aload_n hx hb dX12_beginsWeek_30 rfl (lv_at hl 0 rfl) ?_
        refine lv_iconst (v := 0) hx hb dX12_beginsWeek_31 (by decide) ?_
        refine sg_put (ci := 12) (x := 0) (ty := .int) (C := RX12) (T := TX12) (N := 55) hx hb hts (fun w h => List.mem_cons_of_mem _ (gx_12 w h)) tyX12 tyX12_ok nmX12 hown hh hA hK hP hS 0 (by decide) rfl rfl 30 (by decide) (hts _ (List.mem_cons_of_mem _ mw_707)) (fun _ h9 => h9) rfl rfl (by decide +kernel) rfl rfl (Nat.le_of_ble_eq_true rfl) dX12_beginsWeek_32 (fun f_4 H locs ef_4 hP hS => ?_)
        have hI : sgI loM hiM f_4 := by rw [ef_4]; exact sgI.put hI 0 30 (bn_top _)
        have hF : sgK WkX12_beginsWeek f f_4 := sgK.put hF ef_4 (by rfl)
        refine lv_aload_n hx hb dX12_beginsWeek_35 rfl (lv_at hl 0 rfl) ?_
        refine lv_iconst (v := 0) hx hb dX12_beginsWeek_36 (by decide) ?_
        refine sg_put (ci := 12) (x := 0) (ty := .int) (C := RX12) (T := TX12) (N := 55) hx hb hts (fun w h => List.mem_cons_of_mem _ (gx_12 w h)) tyX12 tyX12_ok nmX12 hown hh hA hK hP hS 0 (by decide) rfl rfl 31 (by decide) (hts _ (List.mem_cons_of_mem _ mw_708)) (fun _ h9 => h9) rfl rfl (by decide +kernel) rfl rfl (Nat.le_of_ble_eq_true rfl) dX12_beginsWeek_37 (fun f_5 H locs ef_5 hP hS => ?_)
        have hI : sgI loM hiM f_5 := by rw [ef_5]; exact sgI.put hI 0 31 (bn_top _)
        have hF : sgK WkX12_beginsWeek f f_5 := sgK.put hF ef_5 (by rfl)
        exact hret _ _ _ _ f_5 L Q dX12_beginsWeek_40 hP hS ⟨hI, hF, rfl, rfl⟩
      · skip
        have c_2 : y1_2.toInt < 3 := (by have z := bn_nle c; have k1 : (3 : Int32).toInt = 3 := (by decide); omega)
        refine lv_aload_n hx hb dX12_beginsWeek_7 rfl (lv_at hl 0 rfl) ?_
        refine sg_get (ci := 12) (v := .ref (h 12)) (C := RX12) (T := TX12) (N := 55) hx hb hts (fun w h => List.mem_cons_of_mem _ (gx_12 w h)) hown hK hP 0 (by decide) rfl rfl 27 (by decide) (hts _ (List.mem_cons_of_mem _ mw_705)) (fun _ h9 => h9) rfl dX12_beginsWeek_8 ?_
        refine lv_iload_n hx hb dX12_beginsWeek_11 rfl (lv_at hl 1 rfl) ?_
        refine lv_aload_n hx hb dX12_beginsWeek_12 rfl (lv_at hl 0 rfl) ?_
        refine sg_get (ci := 12) (v := .ref (h 5)) (C := RX12) (T := TX12) (N := 55) hx hb hts (fun w h => List.mem_cons_of_mem _ (gx_12 w h)) hown hK hP 0 (by decide) rfl rfl 7 (by decide) (hts _ (List.mem_cons_of_mem _ mw_607)) (fun _ h9 => h9) rfl dX12_beginsWeek_13 ?_
        refine lv_iload_n hx hb dX12_beginsWeek_16 rfl (lv_at hl 1 rfl) ?_
        refine sg_iald hx hb hK hP 5 (by decide) 0 rfl rfl (i := y1_2) (vp_in_iff.mpr ⟨by omega, by omega⟩) dX12_beginsWeek_17 ?_
        refine lv_topi (fun v_6 ev_6 => ?_)
        have q_7 : 0 ≤ v_6.toInt ∧ v_6.toInt ≤ 60 := by rw [ev_6]; exact hI 5 _
        refine sg_iast hx hb hh hA hK hP hS 12 (by decide) 0 (fun _ => rfl) rfl (i := y1_2) (x := v_6) (vp_in_iff.mpr ⟨by omega, by omega⟩) dX12_beginsWeek_18 (fun f_8 H locs ef_8 hP hS => ?_)
        have hI : sgI loM hiM f_8 := by rw [ef_8]; exact sgI.put hI 12 y1_2.toNatClampNeg (show 0 ≤ (v_6 : Int32).toInt ∧ (v_6 : Int32).toInt ≤ 60 from by omega)
        have hF : sgK WkX12_beginsWeek f f_8 := sgK.put hF ef_8 (by rfl)
        obtain ⟨v_9, ev_9⟩ : ∃ z : Int32, z = y1_2 + 1 := ⟨_, rfl⟩
        have q_10 : v_9.toInt = y1_2.toInt + 1 := by rw [ev_9]; exact (bn_addc y1_2 1 (by decide) (by omega) (by omega))
        refine lv_iinc (v := v_9) (lv' := [(1, .int v_9), (0, .ref (h 0))]) hx hb dX12_beginsWeek_19 hl (k := 1) rfl (by rw [ev_9]; rfl) (by decide) rfl (fun ls hl => ?_)
        refine lv_goto (tgt := 2) hx hb dX12_beginsWeek_22 (by decide) ?_
        exact ih_2 v_9 f_8 _ _ _ (by omega) (by omega) hI hF hP hS (lv_sub hl [1, 0] rfl)
  refine lv_iconst (v := 0) hx hb dX12_beginsWeek_0 (by decide) ?_
  refine lv_istore_n (lv' := [(1, .int 0), (0, .ref (h 0))]) hx hb dX12_beginsWeek_1 rfl hl (by decide) rfl (fun ls hl => ?_)
  exact loop_2 4 0 f _ _ _ (by have kc0 : (0 : Int32).toInt = 0 := (by decide); omega) (by decide) hI hF hP hS (lv_sub hl [1, 0] rfl)

set_option maxHeartbeats 4000000 in
set_option maxRecDepth 100000 in
theorem kX12_nearBy (l : Launch) (D : va_G) (ca : Nat → ClassId) (za h : Nat → Nat) (hh : sgH 26 h) (f : sg_F) (L : sg_L) (Q : sg_Q) (hI : sgI loM hiM f) (x0 : Int32) (b0 : 0 ≤ x0.toInt ∧ x0.toInt ≤ 7) (sz : Nat) : Met l yX12_nearBy gwX12_nearBy { frames := 1, cells := 0, slots := 0, locals := 22 } (sgP D vwCl (tyX ca) 26 h (eM ca h) zcM za f L Q sz [.ref (h 0), .int x0]) (sgQi D vwCl 26 h (eM ca h) sz (fun r f1 L1 Q1 => ((f1 = f ∧ L1 = L ∧ Q1 = Q) ∧ (0 ≤ r.toInt ∧ r.toInt ≤ 61)))) 0 0 (sgA 26 h sz) := by
  refine sg_ofWi (cc := cX12_nearBy) (maxL := 2) RX12 (by decide) rfl rfl (Nat.le_of_ble_eq_true rfl) ?_
  intro p e s m below meth cd Qz ls hx hb hml hown hts hK hZ hP hS hl hret
  have hA := sgY.self (n := 26) (h := h) (sz := s.heap.size)
  have hl : lv_has ls 2 [(0, .ref (h 0)), (1, .int x0)] := hl
  obtain ⟨H, hH⟩ : ∃ z : Heap, z = s.heap := ⟨_, rfl⟩
  obtain ⟨locs, hlo⟩ : ∃ z : List Loc, z = [] := ⟨_, rfl⟩
  have hP : va_P D vwCl (sgw 26 h (eM ca h) f L Q) H := by rw [hH]; exact hP
  have hS : va_S (sgA 26 h s.heap.size) s.heap H locs := by rw [hH, hlo]; exact hS
  suffices hgo : W p l e ({ frames := 1, cells := 0, slots := 0, locals := 22 }) s m ([.ref (h 0), .int x0] : List Value).toArray below meth cd H locs 0 0 Qz (F0 m 0 ls []) by rw [hH, hlo] at hgo; exact hgo
  clear hH hlo
  refine lv_iload_n hx hb dX12_nearBy_0 rfl (lv_at hl 1 rfl) ?_
  refine lv_aload_n hx hb dX12_nearBy_1 rfl (lv_at hl 0 rfl) ?_
  refine sg_get (ci := 12) (v := .int (f 0 20)) (C := RX12) (T := TX12) (N := 55) hx hb hts (fun w h => List.mem_cons_of_mem _ (gx_12 w h)) hown hK hP 0 (by decide) rfl rfl 20 (by decide) (hts _ (List.mem_cons_of_mem _ mw_696)) (fun _ h9 => h9) rfl dX12_nearBy_2 ?_
  refine lv_topi (fun v_1 ev_1 => ?_)
  have q_2 : (-1) ≤ v_1.toInt ∧ v_1.toInt ≤ 7 := by rw [ev_1]; exact hI 0 20
  refine lv_icmp_ne (tgt := 15) hx hb dX12_nearBy_5 (by decide) (fun c => ?_) (fun c => ?_)
  · skip
    have c_3 : x0.toInt ≠ v_1.toInt := (by have z := bn_ne c; omega)
    refine lv_aload_n hx hb dX12_nearBy_15 rfl (lv_at hl 0 rfl) ?_
    refine lv_iload_n hx hb dX12_nearBy_16 rfl (lv_at hl 1 rfl) ?_
    refine lv_bipush (v := 6) hx hb dX12_nearBy_17 (by decide) ?_
    refine sg_calli (va_runV (As := [.int x0, .int 6]) (rest := []) ⟨hx, hb, hml, hown, hts⟩ (kX12_numberOf l D ca za h hh f L Q hI x0 6 (by omega) (by decide) H.size) (cwV 2 hts (gw_V (fun _ h => List.mem_cons_of_mem _ h) mw_720 mw_721 mw_722 mw_619 mw_719) rfl rfl rfl (by decide +kernel) ⟨Nat.le_of_ble_eq_true rfl, Nat.le_of_ble_eq_true rfl⟩) (sg_preV (ci := 12) (C := RX12) (T := TX12) (N := 55) hA hK hP hS hZ 0 (by decide) rfl rfl) rfl rfl hl.1 rfl (lv_room (Nat.le_of_ble_eq_true rfl)) dX12_nearBy_19 ⟨Nat.le_refl _, Nat.le_refl _⟩) hA hS (fun r_8 f_5 L_6 Q_7 H locs hq hP hS => ?_)
    obtain ⟨⟨ef9, eL9, eQ9⟩, hq⟩ := hq
    rw [ef9, eL9, eQ9] at hP; clear ef9 eL9 eQ9
    exact hret _ _ _ _ (r_8) f L Q dX12_nearBy_22 hP hS ⟨⟨rfl, rfl, rfl⟩, (by omega)⟩
  · skip
    have c_4 : x0.toInt = v_1.toInt := (by have z := Int32.toInt_inj.mpr c; omega)
    refine lv_aload_n hx hb dX12_nearBy_8 rfl (lv_at hl 0 rfl) ?_
    refine sg_get (ci := 12) (v := .int (f 0 21)) (C := RX12) (T := TX12) (N := 55) hx hb hts (fun w h => List.mem_cons_of_mem _ (gx_12 w h)) hown hK hP 0 (by decide) rfl rfl 21 (by decide) (hts _ (List.mem_cons_of_mem _ mw_697)) (fun _ h9 => h9) rfl dX12_nearBy_9 ?_
    refine lv_topi (fun v_9 ev_9 => ?_)
    have q_10 : 0 ≤ v_9.toInt ∧ v_9.toInt ≤ 61 := by rw [ev_9]; exact hI 0 21
    refine lv_goto (tgt := 22) hx hb dX12_nearBy_12 (by decide) ?_
    exact hret _ _ _ _ (v_9) f L Q dX12_nearBy_22 hP hS ⟨⟨rfl, rfl, rfl⟩, (by omega)⟩

set_option maxHeartbeats 4000000 in
set_option maxRecDepth 100000 in
theorem kX12_priceOf (l : Launch) (D : va_G) (ca : Nat → ClassId) (za h : Nat → Nat) (hh : sgH 26 h) (f : sg_F) (L : sg_L) (Q : sg_Q) (hI : sgI loM hiM f) (x0 : Int32) (b0 : 0 ≤ x0.toInt ∧ x0.toInt ≤ 2) (sz : Nat) : Met l yX12_priceOf gwX12_priceOf { frames := 0, cells := 0, slots := 0, locals := 0 } (sgP D vwCl (tyX ca) 26 h (eM ca h) zcM za f L Q sz [.ref (h 0), .int x0]) (sgQi D vwCl 26 h (eM ca h) sz (fun r f1 L1 Q1 => ((f1 = f ∧ L1 = L ∧ Q1 = Q) ∧ (0 ≤ r.toInt ∧ r.toInt ≤ 99)))) 0 0 (sgA 26 h sz) := by
  refine sg_ofWi (cc := cX12_priceOf) (maxL := 2) RX12 (by decide) rfl rfl (Nat.le_of_ble_eq_true rfl) ?_
  intro p e s m below meth cd Qz ls hx hb hml hown hts hK hZ hP hS hl hret
  have hA := sgY.self (n := 26) (h := h) (sz := s.heap.size)
  have hl : lv_has ls 2 [(0, .ref (h 0)), (1, .int x0)] := hl
  obtain ⟨H, hH⟩ : ∃ z : Heap, z = s.heap := ⟨_, rfl⟩
  obtain ⟨locs, hlo⟩ : ∃ z : List Loc, z = [] := ⟨_, rfl⟩
  have hP : va_P D vwCl (sgw 26 h (eM ca h) f L Q) H := by rw [hH]; exact hP
  have hS : va_S (sgA 26 h s.heap.size) s.heap H locs := by rw [hH, hlo]; exact hS
  suffices hgo : W p l e ({ frames := 0, cells := 0, slots := 0, locals := 0 }) s m ([.ref (h 0), .int x0] : List Value).toArray below meth cd H locs 0 0 Qz (F0 m 0 ls []) by rw [hH, hlo] at hgo; exact hgo
  clear hH hlo
  refine lv_aload_n hx hb dX12_priceOf_0 rfl (lv_at hl 0 rfl) ?_
  refine sg_get (ci := 12) (v := .int (f 0 23)) (C := RX12) (T := TX12) (N := 55) hx hb hts (fun w h => List.mem_cons_of_mem _ (gx_12 w h)) hown hK hP 0 (by decide) rfl rfl 23 (by decide) (hts _ (List.mem_cons_of_mem _ mw_762)) (fun _ h9 => h9) rfl dX12_priceOf_1 ?_
  refine lv_topi (fun v_1 ev_1 => ?_)
  have q_2 : 0 ≤ v_1.toInt ∧ v_1.toInt ≤ 1 := by rw [ev_1]; exact hI 0 23
  refine lv_if_eq (tgt := 21) hx hb dX12_priceOf_4 (by decide) (fun c => ?_) (fun c => ?_)
  · skip
    have c_3 : v_1.toInt = 0 := (by have z := Int32.toInt_inj.mpr c; have k1 : (0 : Int32).toInt = 0 := (by decide); omega)
    refine lv_aload_n hx hb dX12_priceOf_21 rfl (lv_at hl 0 rfl) ?_
    refine sg_get (ci := 12) (v := .ref (h 1)) (C := RX12) (T := TX12) (N := 55) hx hb hts (fun w h => List.mem_cons_of_mem _ (gx_12 w h)) hown hK hP 0 (by decide) rfl rfl 0 (by decide) (hts _ (List.mem_cons_of_mem _ mw_600)) (fun _ h9 => h9) rfl dX12_priceOf_22 ?_
    refine lv_bipush (v := 67) hx hb dX12_priceOf_25 (by decide) ?_
    refine lv_iload_n hx hb dX12_priceOf_27 rfl (lv_at hl 1 rfl) ?_
    refine lv_iadd hx hb dX12_priceOf_28 ?_
    refine lv_topi (fun v_5 ev_5 => ?_)
    have q_6 : v_5.toInt = 67 + x0.toInt := by rw [ev_5]; have k0 : (67 : Int32).toInt = 67 := (by decide); exact (bn_addI (by omega) (by omega)).trans (by omega)
    refine sg_iald hx hb hK hP 1 (by decide) 0 rfl rfl (i := v_5) (vp_in_iff.mpr ⟨by omega, by omega⟩) dX12_priceOf_29 ?_
    refine lv_topi (fun v_7 ev_7 => ?_)
    have q_8 : v_5.toInt < 64 → v_7.toInt ≤ 60 := by rw [ev_7]; have z1 := segM1_r hI (j := Int32.toNatClampNeg v_5); have z2 := bn_clI (x := v_5) (by omega); intro z3; exact (z1.2.2 (by omega)).2
    have q_9 : 0 ≤ v_7.toInt ∧ v_7.toInt ≤ 99 := by rw [ev_7]; have z1 := segM1_r hI (j := Int32.toNatClampNeg v_5); have z2 := bn_clI (x := v_5) (by omega); omega
    exact hret _ _ _ _ (v_7) f L Q dX12_priceOf_30 hP hS ⟨⟨rfl, rfl, rfl⟩, (by omega)⟩
  · skip
    have c_4 : v_1.toInt ≠ 0 := (by have z := bn_ne c; have k1 : (0 : Int32).toInt = 0 := (by decide); omega)
    refine lv_aload_n hx hb dX12_priceOf_7 rfl (lv_at hl 0 rfl) ?_
    refine sg_get (ci := 12) (v := .ref (h 1)) (C := RX12) (T := TX12) (N := 55) hx hb hts (fun w h => List.mem_cons_of_mem _ (gx_12 w h)) hown hK hP 0 (by decide) rfl rfl 0 (by decide) (hts _ (List.mem_cons_of_mem _ mw_600)) (fun _ h9 => h9) rfl dX12_priceOf_8 ?_
    refine lv_bipush (v := 67) hx hb dX12_priceOf_11 (by decide) ?_
    refine lv_iload_n hx hb dX12_priceOf_13 rfl (lv_at hl 1 rfl) ?_
    refine lv_iadd hx hb dX12_priceOf_14 ?_
    refine lv_topi (fun v_10 ev_10 => ?_)
    have q_11 : v_10.toInt = 67 + x0.toInt := by rw [ev_10]; have k0 : (67 : Int32).toInt = 67 := (by decide); exact (bn_addI (by omega) (by omega)).trans (by omega)
    refine sg_iald hx hb hK hP 1 (by decide) 0 rfl rfl (i := v_10) (vp_in_iff.mpr ⟨by omega, by omega⟩) dX12_priceOf_15 ?_
    refine lv_topi (fun v_12 ev_12 => ?_)
    have q_13 : v_10.toInt < 64 → v_12.toInt ≤ 60 := by rw [ev_12]; have z1 := segM1_r hI (j := Int32.toNatClampNeg v_10); have z2 := bn_clI (x := v_10) (by omega); intro z3; exact (z1.2.2 (by omega)).2
    have q_14 : 0 ≤ v_12.toInt ∧ v_12.toInt ≤ 99 := by rw [ev_12]; have z1 := segM1_r hI (j := Int32.toNatClampNeg v_10); have z2 := bn_clI (x := v_10) (by omega); omega
    refine lv_iconst (v := 2) hx hb dX12_priceOf_16 (by decide) ?_
    refine lv_idiv hx hb dX12_priceOf_17 (by decide) ?_
    refine lv_topi (fun v_15 ev_15 => ?_)
    have q_16 : v_15.toInt = v_12.toInt / 2 := by rw [ev_15]; exact bn_divI (by omega) (by decide) (by decide)
    refine lv_goto (tgt := 30) hx hb dX12_priceOf_18 (by decide) ?_
    exact hret _ _ _ _ (v_15) f L Q dX12_priceOf_30 hP hS ⟨⟨rfl, rfl, rfl⟩, (by omega)⟩

set_option maxHeartbeats 4000000 in
set_option maxRecDepth 100000 in
theorem kX12_isIn (l : Launch) (D : va_G) (ca : Nat → ClassId) (za h : Nat → Nat) (hh : sgH 26 h) (f : sg_F) (L : sg_L) (Q : sg_Q) (hI : sgI loM hiM f) (x0 : Int32) (x1 : Int32) (b0 : 0 ≤ x0.toInt ∧ x0.toInt ≤ 487) (b1 : 0 ≤ x1.toInt ∧ x1.toInt ≤ 7) (sz : Nat) : Met l yX12_isIn gwX12_isIn { frames := 0, cells := 0, slots := 0, locals := 0 } (sgP D vwCl (tyX ca) 26 h (eM ca h) zcM za f L Q sz [.int x0, .int x1]) (sgQi D vwCl 26 h (eM ca h) sz (fun r f1 L1 Q1 => ((f1 = f ∧ L1 = L ∧ Q1 = Q) ∧ (0 ≤ r.toInt ∧ r.toInt ≤ 1)))) 0 0 (sgA 26 h sz) := by
  refine sg_ofWz (cc := cX12_isIn) (maxL := 2) RX12 (by decide) rfl rfl (Nat.le_of_ble_eq_true rfl) ?_
  intro p e s m below meth cd Qz ls hx hb hml hown hts hK hZ hP hS hl hret
  have hA := sgY.self (n := 26) (h := h) (sz := s.heap.size)
  have hl : lv_has ls 2 [(0, .int x0), (1, .int x1)] := hl
  obtain ⟨H, hH⟩ : ∃ z : Heap, z = s.heap := ⟨_, rfl⟩
  obtain ⟨locs, hlo⟩ : ∃ z : List Loc, z = [] := ⟨_, rfl⟩
  have hP : va_P D vwCl (sgw 26 h (eM ca h) f L Q) H := by rw [hH]; exact hP
  have hS : va_S (sgA 26 h s.heap.size) s.heap H locs := by rw [hH, hlo]; exact hS
  suffices hgo : W p l e ({ frames := 0, cells := 0, slots := 0, locals := 0 }) s m ([.int x0, .int x1] : List Value).toArray below meth cd H locs 0 0 Qz (F0 m 0 ls []) by rw [hH, hlo] at hgo; exact hgo
  clear hH hlo
  refine lv_iload_n hx hb dX12_isIn_0 rfl (lv_at hl 0 rfl) ?_
  refine lv_iload_n hx hb dX12_isIn_1 rfl (lv_at hl 1 rfl) ?_
  refine lv_ishr hx hb dX12_isIn_2 ?_
  refine lv_topi (fun v_1 ev_1 => ?_)
  refine lv_iconst (v := 1) hx hb dX12_isIn_3 (by decide) ?_
  refine lv_iand hx hb dX12_isIn_4 ?_
  refine lv_topi (fun v_2 ev_2 => ?_)
  have q_3 : 0 ≤ v_2.toInt ∧ v_2.toInt ≤ 1 := by rw [ev_2]; exact bn_and1c v_1
  refine lv_iconst (v := 1) hx hb dX12_isIn_5 (by decide) ?_
  refine lv_icmp_ne (tgt := 13) hx hb dX12_isIn_6 (by decide) (fun c => ?_) (fun c => ?_)
  · skip
    have c_4 : v_2.toInt ≠ 1 := (by have z := bn_ne c; have k1 : (1 : Int32).toInt = 1 := (by decide); omega)
    refine lv_iconst (v := 0) hx hb dX12_isIn_13 (by decide) ?_
    have k99 : (0 : Int32).toInt = 0 := (by decide)
    exact hret _ _ _ _ (0) f L Q dX12_isIn_14 (by decide) hP hS ⟨⟨rfl, rfl, rfl⟩, (by decide)⟩
  · skip
    have c_5 : v_2.toInt = 1 := (by have z := Int32.toInt_inj.mpr c; have k1 : (1 : Int32).toInt = 1 := (by decide); omega)
    refine lv_iconst (v := 1) hx hb dX12_isIn_9 (by decide) ?_
    refine lv_goto (tgt := 14) hx hb dX12_isIn_10 (by decide) ?_
    have k99 : (1 : Int32).toInt = 1 := (by decide)
    exact hret _ _ _ _ (1) f L Q dX12_isIn_14 (by decide) hP hS ⟨⟨rfl, rfl, rfl⟩, (by decide)⟩

abbrev WkX12_turnsTo : List (Nat × Nat × Option Nat) := [(0, 0, some 29), (0, 0, some 31), (12, 12, none)]
set_option maxHeartbeats 4000000 in
set_option maxRecDepth 100000 in
theorem kX12_turnsTo (l : Launch) (D : va_G) (ca : Nat → ClassId) (za h : Nat → Nat) (hh : sgH 26 h) (f : sg_F) (L : sg_L) (Q : sg_Q) (hI : sgI loM hiM f) (x0 : Int32) (x1 : Int32) (x2 : Int32) (b0 : 0 ≤ x0.toInt ∧ x0.toInt ≤ 2) (b1 : 0 ≤ x1.toInt ∧ x1.toInt ≤ 60) (b2 : (-1) ≤ x2.toInt ∧ x2.toInt ≤ 7) (sz : Nat) : Met l yX12_turnsTo gwX12_turnsTo { frames := 1, cells := 0, slots := 0, locals := 21 } (sgP D vwCl (tyX ca) 26 h (eM ca h) zcM za f L Q sz [.ref (h 0), .int x0, .int x1, .int x2]) (sgQv D vwCl 26 h (eM ca h) sz (fun f1 L1 Q1 => ((sgI loM hiM f1 ∧ sgK WkX12_turnsTo f f1 ∧ L1 = L ∧ Q1 = Q)))) 0 0 (sgA 26 h sz) := by
  refine sg_ofWv (cc := cX12_turnsTo) (maxL := 6) RX12 (by decide) rfl rfl (Nat.le_of_ble_eq_true rfl) ?_
  intro p e s m below meth cd Qz ls hx hb hml hown hts hK hZ hP hS hl hret
  have hA := sgY.self (n := 26) (h := h) (sz := s.heap.size)
  have hl : lv_has ls 6 [(0, .ref (h 0)), (1, .int x0), (2, .int x1), (3, .int x2)] := hl
  obtain ⟨H, hH⟩ : ∃ z : Heap, z = s.heap := ⟨_, rfl⟩
  obtain ⟨locs, hlo⟩ : ∃ z : List Loc, z = [] := ⟨_, rfl⟩
  have hP : va_P D vwCl (sgw 26 h (eM ca h) f L Q) H := by rw [hH]; exact hP
  have hS : va_S (sgA 26 h s.heap.size) s.heap H locs := by rw [hH, hlo]; exact hS
  suffices hgo : W p l e ({ frames := 1, cells := 0, slots := 0, locals := 21 }) s m ([.ref (h 0), .int x0, .int x1, .int x2] : List Value).toArray below meth cd H locs 0 0 Qz (F0 m 0 ls []) by rw [hH, hlo] at hgo; exact hgo
  clear hH hlo
  have hF : sgK WkX12_turnsTo f f := sgK.rf
  refine lv_iload_n hx hb dX12_turnsTo_0 rfl (lv_at hl 2 rfl) ?_
  refine lv_aload_n hx hb dX12_turnsTo_1 rfl (lv_at hl 0 rfl) ?_
  refine sg_get (ci := 12) (v := .ref (h 12)) (C := RX12) (T := TX12) (N := 55) hx hb hts (fun w h => List.mem_cons_of_mem _ (gx_12 w h)) hown hK hP 0 (by decide) rfl rfl 27 (by decide) (hts _ (List.mem_cons_of_mem _ mw_705)) (fun _ h9 => h9) rfl dX12_turnsTo_2 ?_
  refine lv_iload_n hx hb dX12_turnsTo_5 rfl (lv_at hl 1 rfl) ?_
  refine sg_iald hx hb hK hP 12 (by decide) 0 rfl rfl (i := x0) (vp_in_iff.mpr ⟨by omega, by omega⟩) dX12_turnsTo_6 ?_
  refine lv_topi (fun v_1 ev_1 => ?_)
  have q_2 : 0 ≤ v_1.toInt ∧ v_1.toInt ≤ 60 := by rw [ev_1]; exact hI 12 _
  refine lv_isub hx hb dX12_turnsTo_7 ?_
  refine lv_topi (fun v_3 ev_3 => ?_)
  have q_4 : v_3.toInt = x1.toInt - v_1.toInt := by rw [ev_3]; exact (bn_subI (by omega) (by omega)).trans (by omega)
  refine sg_calli (va_runS (As := [.int v_3]) (rest := []) ⟨hx, hb, hml, hown, hts⟩ (kX12_sizeOf l D ca za h hh f L Q hI v_3 (by omega) H.size) (va_cwS 1 hts (gw_S (fun _ h => List.mem_cons_of_mem _ h) mw_682 mw_683 mw_619 mw_681) rfl rfl rfl (by decide +kernel) ⟨Nat.le_of_ble_eq_true rfl, Nat.le_of_ble_eq_true rfl⟩) (sg_preS hA hK hP hS hZ) rfl rfl hl.1 rfl (lv_room (Nat.le_of_ble_eq_true rfl)) dX12_turnsTo_8 ⟨Nat.le_refl _, Nat.le_refl _⟩) hA hS (fun r_8 f_5 L_6 Q_7 H locs hq hP hS => ?_)
  obtain ⟨⟨ef9, eL9, eQ9⟩, hq⟩ := hq
  rw [ef9, eL9, eQ9] at hP; clear ef9 eL9 eQ9
  refine lv_istore (lv' := [(4, .int r_8), (0, .ref (h 0)), (1, .int x0), (2, .int x1), (3, .int x2)]) hx hb dX12_turnsTo_11 hl (by decide) rfl (fun ls hl => ?_)
  refine lv_iload hx hb dX12_turnsTo_13 (lv_at hl 0 rfl) ?_
  refine lv_aload_n hx hb dX12_turnsTo_15 rfl (lv_at hl 1 rfl) ?_
  refine lv_iload_n hx hb dX12_turnsTo_16 rfl (lv_at hl 2 rfl) ?_
  refine sg_calli (va_runV (As := [.int x0]) (rest := [.int r_8]) ⟨hx, hb, hml, hown, hts⟩ (kX12_priceOf l D ca za h hh f L Q hI x0 (by omega) H.size) (cwV 1 hts (gw_V (fun _ h => List.mem_cons_of_mem _ h) mw_836 mw_837 mw_838 mw_619 mw_835) rfl rfl rfl (by decide +kernel) ⟨Nat.le_of_ble_eq_true rfl, Nat.le_of_ble_eq_true rfl⟩) (sg_preV (ci := 12) (C := RX12) (T := TX12) (N := 55) hA hK hP hS hZ 0 (by decide) rfl rfl) rfl rfl hl.1 rfl (lv_room (Nat.le_of_ble_eq_true rfl)) dX12_turnsTo_17 ⟨Nat.le_refl _, Nat.le_refl _⟩) hA hS (fun r_12 f_9 L_10 Q_11 H locs hq hP hS => ?_)
  obtain ⟨⟨ef9, eL9, eQ9⟩, hq⟩ := hq
  rw [ef9, eL9, eQ9] at hP; clear ef9 eL9 eQ9
  refine lv_imul hx hb dX12_turnsTo_20 ?_
  refine lv_topi (fun v_13 ev_13 => ?_)
  refine lv_istore (lv' := [(5, .int v_13), (4, .int r_8), (0, .ref (h 0)), (1, .int x0), (2, .int x1), (3, .int x2)]) hx hb dX12_turnsTo_21 hl (by decide) rfl (fun ls hl => ?_)
  refine lv_aload_n hx hb dX12_turnsTo_23 rfl (lv_at hl 2 rfl) ?_
  refine lv_dup hx hb dX12_turnsTo_24 rfl ?_
  refine sg_get (ci := 12) (v := .int (f 0 29)) (C := RX12) (T := TX12) (N := 55) hx hb hts (fun w h => List.mem_cons_of_mem _ (gx_12 w h)) hown hK hP 0 (by decide) rfl rfl 29 (by decide) (hts _ (List.mem_cons_of_mem _ mw_706)) (fun _ h9 => h9) rfl dX12_turnsTo_25 ?_
  refine lv_topi (fun v_14 ev_14 => ?_)
  refine lv_iload hx hb dX12_turnsTo_28 (lv_at hl 1 rfl) ?_
  refine lv_iadd hx hb dX12_turnsTo_30 ?_
  refine lv_topi (fun v_15 ev_15 => ?_)
  refine sg_put (ci := 12) (x := v_15) (ty := .int) (C := RX12) (T := TX12) (N := 55) hx hb hts (fun w h => List.mem_cons_of_mem _ (gx_12 w h)) tyX12 tyX12_ok nmX12 hown hh hA hK hP hS 0 (by decide) rfl rfl 29 (by decide) (hts _ (List.mem_cons_of_mem _ mw_706)) (fun _ h9 => h9) rfl rfl (by decide +kernel) rfl rfl (Nat.le_of_ble_eq_true rfl) dX12_turnsTo_31 (fun f_16 H locs ef_16 hP hS => ?_)
  have hI : sgI loM hiM f_16 := by rw [ef_16]; exact sgI.put hI 0 29 (bn_top _)
  have hF : sgK WkX12_turnsTo f f_16 := sgK.put hF ef_16 (by rfl)
  refine lv_aload_n hx hb dX12_turnsTo_34 rfl (lv_at hl 2 rfl) ?_
  refine lv_dup hx hb dX12_turnsTo_35 rfl ?_
  refine sg_get (ci := 12) (v := .int (f_16 0 31)) (C := RX12) (T := TX12) (N := 55) hx hb hts (fun w h => List.mem_cons_of_mem _ (gx_12 w h)) hown hK hP 0 (by decide) rfl rfl 31 (by decide) (hts _ (List.mem_cons_of_mem _ mw_708)) (fun _ h9 => h9) rfl dX12_turnsTo_36 ?_
  refine lv_topi (fun v_17 ev_17 => ?_)
  refine lv_iload_n hx hb dX12_turnsTo_39 rfl (lv_at hl 5 rfl) ?_
  refine lv_if_lt (tgt := 76) hx hb dX12_turnsTo_40 (by decide) (fun c => ?_) (fun c => ?_)
  · skip
    have c_18 : x2.toInt < 0 := (by have z := bn_lt c; have k1 : (0 : Int32).toInt = 0 := (by decide); omega)
    refine lv_iload hx hb dX12_turnsTo_76 (lv_at hl 0 rfl) ?_
    refine lv_iadd hx hb dX12_turnsTo_78 ?_
    refine lv_topi (fun v_20 ev_20 => ?_)
    refine sg_put (ci := 12) (x := v_20) (ty := .int) (C := RX12) (T := TX12) (N := 55) hx hb hts (fun w h => List.mem_cons_of_mem _ (gx_12 w h)) tyX12 tyX12_ok nmX12 hown hh hA hK hP hS 0 (by decide) rfl rfl 31 (by decide) (hts _ (List.mem_cons_of_mem _ mw_708)) (fun _ h9 => h9) rfl rfl (by decide +kernel) rfl rfl (Nat.le_of_ble_eq_true rfl) dX12_turnsTo_79 (fun f_21 H locs ef_21 hP hS => ?_)
    have hI : sgI loM hiM f_21 := by rw [ef_21]; exact sgI.put hI 0 31 (bn_top _)
    have hF : sgK WkX12_turnsTo f f_21 := sgK.put hF ef_21 (by rfl)
    refine lv_aload_n hx hb dX12_turnsTo_82 rfl (lv_at hl 2 rfl) ?_
    refine sg_get (ci := 12) (v := .ref (h 12)) (C := RX12) (T := TX12) (N := 55) hx hb hts (fun w h => List.mem_cons_of_mem _ (gx_12 w h)) hown hK hP 0 (by decide) rfl rfl 27 (by decide) (hts _ (List.mem_cons_of_mem _ mw_705)) (fun _ h9 => h9) rfl dX12_turnsTo_83 ?_
    refine lv_iload_n hx hb dX12_turnsTo_86 rfl (lv_at hl 3 rfl) ?_
    refine lv_iload_n hx hb dX12_turnsTo_87 rfl (lv_at hl 4 rfl) ?_
    refine sg_iast hx hb hh hA hK hP hS 12 (by decide) 0 (fun _ => rfl) rfl (i := x0) (x := x1) (vp_in_iff.mpr ⟨by omega, by omega⟩) dX12_turnsTo_88 (fun f_22 H locs ef_22 hP hS => ?_)
    have hI : sgI loM hiM f_22 := by rw [ef_22]; exact sgI.put hI 12 x0.toNatClampNeg (show 0 ≤ (x1 : Int32).toInt ∧ (x1 : Int32).toInt ≤ 60 from by omega)
    have hF : sgK WkX12_turnsTo f f_22 := sgK.put hF ef_22 (by rfl)
    exact hret _ _ _ _ f_22 L Q dX12_turnsTo_89 hP hS ⟨hI, hF, rfl, rfl⟩
  · skip
    have c_19 : 0 ≤ x2.toInt := (by have z := bn_nlt c; have k1 : (0 : Int32).toInt = 0 := (by decide); omega)
    refine lv_aload_n hx hb dX12_turnsTo_43 rfl (lv_at hl 2 rfl) ?_
    refine sg_get (ci := 12) (v := .int (f_16 0 22)) (C := RX12) (T := TX12) (N := 55) hx hb hts (fun w h => List.mem_cons_of_mem _ (gx_12 w h)) hown hK hP 0 (by decide) rfl rfl 22 (by decide) (hts _ (List.mem_cons_of_mem _ mw_695)) (fun _ h9 => h9) rfl dX12_turnsTo_44 ?_
    refine lv_topi (fun v_23 ev_23 => ?_)
    have q_24 : 0 ≤ v_23.toInt ∧ v_23.toInt ≤ 487 := by rw [ev_23]; exact hI 0 22
    refine lv_iload_n hx hb dX12_turnsTo_47 rfl (lv_at hl 5 rfl) ?_
    refine sg_calli (va_runS (As := [.int v_23, .int x2]) (rest := [.int v_17, .ref (h 0)]) ⟨hx, hb, hml, hown, hts⟩ (kX12_isIn l D ca za h hh f_16 L Q hI v_23 x2 (by omega) (by omega) H.size) (va_cwS 2 hts (gw_S (fun _ h => List.mem_cons_of_mem _ h) mw_832 mw_833 mw_619 mw_831) rfl rfl rfl (by decide +kernel) ⟨Nat.le_of_ble_eq_true rfl, Nat.le_of_ble_eq_true rfl⟩) (sg_preS hA hK hP hS hZ) rfl rfl hl.1 rfl (lv_room (Nat.le_of_ble_eq_true rfl)) dX12_turnsTo_48 ⟨Nat.le_refl _, Nat.le_refl _⟩) hA hS (fun r_28 f_25 L_26 Q_27 H locs hq hP hS => ?_)
    obtain ⟨⟨ef9, eL9, eQ9⟩, hq⟩ := hq
    rw [ef9, eL9, eQ9] at hP; clear ef9 eL9 eQ9
    refine lv_if_eq (tgt := 76) hx hb dX12_turnsTo_51 (by decide) (fun c => ?_) (fun c => ?_)
    · skip
      have c_29 : r_28.toInt = 0 := (by have z := Int32.toInt_inj.mpr c; have k1 : (0 : Int32).toInt = 0 := (by decide); omega)
      refine lv_iload hx hb dX12_turnsTo_76 (lv_at hl 0 rfl) ?_
      refine lv_iadd hx hb dX12_turnsTo_78 ?_
      refine lv_topi (fun v_31 ev_31 => ?_)
      refine sg_put (ci := 12) (x := v_31) (ty := .int) (C := RX12) (T := TX12) (N := 55) hx hb hts (fun w h => List.mem_cons_of_mem _ (gx_12 w h)) tyX12 tyX12_ok nmX12 hown hh hA hK hP hS 0 (by decide) rfl rfl 31 (by decide) (hts _ (List.mem_cons_of_mem _ mw_708)) (fun _ h9 => h9) rfl rfl (by decide +kernel) rfl rfl (Nat.le_of_ble_eq_true rfl) dX12_turnsTo_79 (fun f_32 H locs ef_32 hP hS => ?_)
      have hI : sgI loM hiM f_32 := by rw [ef_32]; exact sgI.put hI 0 31 (bn_top _)
      have hF : sgK WkX12_turnsTo f f_32 := sgK.put hF ef_32 (by rfl)
      refine lv_aload_n hx hb dX12_turnsTo_82 rfl (lv_at hl 2 rfl) ?_
      refine sg_get (ci := 12) (v := .ref (h 12)) (C := RX12) (T := TX12) (N := 55) hx hb hts (fun w h => List.mem_cons_of_mem _ (gx_12 w h)) hown hK hP 0 (by decide) rfl rfl 27 (by decide) (hts _ (List.mem_cons_of_mem _ mw_705)) (fun _ h9 => h9) rfl dX12_turnsTo_83 ?_
      refine lv_iload_n hx hb dX12_turnsTo_86 rfl (lv_at hl 3 rfl) ?_
      refine lv_iload_n hx hb dX12_turnsTo_87 rfl (lv_at hl 4 rfl) ?_
      refine sg_iast hx hb hh hA hK hP hS 12 (by decide) 0 (fun _ => rfl) rfl (i := x0) (x := x1) (vp_in_iff.mpr ⟨by omega, by omega⟩) dX12_turnsTo_88 (fun f_33 H locs ef_33 hP hS => ?_)
      have hI : sgI loM hiM f_33 := by rw [ef_33]; exact sgI.put hI 12 x0.toNatClampNeg (show 0 ≤ (x1 : Int32).toInt ∧ (x1 : Int32).toInt ≤ 60 from by omega)
      have hF : sgK WkX12_turnsTo f f_33 := sgK.put hF ef_33 (by rfl)
      exact hret _ _ _ _ f_33 L Q dX12_turnsTo_89 hP hS ⟨hI, hF, rfl, rfl⟩
    · skip
      have c_30 : r_28.toInt ≠ 0 := (by have z := bn_ne c; have k1 : (0 : Int32).toInt = 0 := (by decide); omega)
      refine lv_iload hx hb dX12_turnsTo_54 (lv_at hl 0 rfl) ?_
      refine lv_aload_n hx hb dX12_turnsTo_56 rfl (lv_at hl 2 rfl) ?_
      refine sg_get (ci := 12) (v := .ref (h 1)) (C := RX12) (T := TX12) (N := 55) hx hb hts (fun w h => List.mem_cons_of_mem _ (gx_12 w h)) hown hK hP 0 (by decide) rfl rfl 0 (by decide) (hts _ (List.mem_cons_of_mem _ mw_600)) (fun _ h9 => h9) rfl dX12_turnsTo_57 ?_
      refine lv_bipush (v := 70) hx hb dX12_turnsTo_60 (by decide) ?_
      refine sg_iald hx hb hK hP 1 (by decide) 0 rfl rfl (i := 70) (vp_in_iff.mpr (by decide)) dX12_turnsTo_62 ?_
      refine lv_topi (fun v_34 ev_34 => ?_)
      have q_35 : 70 < 64 → v_34.toInt ≤ 60 := by rw [ev_34]; have z1 := segM1_r hI (j := Int32.toNatClampNeg 70); have z2 := bn_clI (x := 70) (by have k0 : (70 : Int32).toInt = 70 := (by decide); omega); have k0 : (70 : Int32).toInt = 70 := (by decide); intro z3; exact (z1.2.2 (by omega)).2
      have q_36 : 0 ≤ v_34.toInt ∧ v_34.toInt ≤ 99 := by rw [ev_34]; have z1 := segM1_r hI (j := Int32.toNatClampNeg 70); have z2 := bn_clI (x := 70) (by have k0 : (70 : Int32).toInt = 70 := (by decide); omega); have k0 : (70 : Int32).toInt = 70 := (by decide); omega
      refine lv_icmp_le (tgt := 76) hx hb dX12_turnsTo_63 (by decide) (fun c => ?_) (fun c => ?_)
      · skip
        have c_37 : v_13.toInt ≤ v_34.toInt := (by have z := bn_le c; omega)
        refine lv_iload hx hb dX12_turnsTo_76 (lv_at hl 0 rfl) ?_
        refine lv_iadd hx hb dX12_turnsTo_78 ?_
        refine lv_topi (fun v_39 ev_39 => ?_)
        refine sg_put (ci := 12) (x := v_39) (ty := .int) (C := RX12) (T := TX12) (N := 55) hx hb hts (fun w h => List.mem_cons_of_mem _ (gx_12 w h)) tyX12 tyX12_ok nmX12 hown hh hA hK hP hS 0 (by decide) rfl rfl 31 (by decide) (hts _ (List.mem_cons_of_mem _ mw_708)) (fun _ h9 => h9) rfl rfl (by decide +kernel) rfl rfl (Nat.le_of_ble_eq_true rfl) dX12_turnsTo_79 (fun f_40 H locs ef_40 hP hS => ?_)
        have hI : sgI loM hiM f_40 := by rw [ef_40]; exact sgI.put hI 0 31 (bn_top _)
        have hF : sgK WkX12_turnsTo f f_40 := sgK.put hF ef_40 (by rfl)
        refine lv_aload_n hx hb dX12_turnsTo_82 rfl (lv_at hl 2 rfl) ?_
        refine sg_get (ci := 12) (v := .ref (h 12)) (C := RX12) (T := TX12) (N := 55) hx hb hts (fun w h => List.mem_cons_of_mem _ (gx_12 w h)) hown hK hP 0 (by decide) rfl rfl 27 (by decide) (hts _ (List.mem_cons_of_mem _ mw_705)) (fun _ h9 => h9) rfl dX12_turnsTo_83 ?_
        refine lv_iload_n hx hb dX12_turnsTo_86 rfl (lv_at hl 3 rfl) ?_
        refine lv_iload_n hx hb dX12_turnsTo_87 rfl (lv_at hl 4 rfl) ?_
        refine sg_iast hx hb hh hA hK hP hS 12 (by decide) 0 (fun _ => rfl) rfl (i := x0) (x := x1) (vp_in_iff.mpr ⟨by omega, by omega⟩) dX12_turnsTo_88 (fun f_41 H locs ef_41 hP hS => ?_)
        have hI : sgI loM hiM f_41 := by rw [ef_41]; exact sgI.put hI 12 x0.toNatClampNeg (show 0 ≤ (x1 : Int32).toInt ∧ (x1 : Int32).toInt ≤ 60 from by omega)
        have hF : sgK WkX12_turnsTo f f_41 := sgK.put hF ef_41 (by rfl)
        exact hret _ _ _ _ f_41 L Q dX12_turnsTo_89 hP hS ⟨hI, hF, rfl, rfl⟩
      · skip
        have c_38 : v_34.toInt < v_13.toInt := (by have z := bn_nle c; omega)
        refine lv_aload_n hx hb dX12_turnsTo_66 rfl (lv_at hl 2 rfl) ?_
        refine sg_get (ci := 12) (v := .ref (h 1)) (C := RX12) (T := TX12) (N := 55) hx hb hts (fun w h => List.mem_cons_of_mem _ (gx_12 w h)) hown hK hP 0 (by decide) rfl rfl 0 (by decide) (hts _ (List.mem_cons_of_mem _ mw_600)) (fun _ h9 => h9) rfl dX12_turnsTo_67 ?_
        refine lv_bipush (v := 70) hx hb dX12_turnsTo_70 (by decide) ?_
        refine sg_iald hx hb hK hP 1 (by decide) 0 rfl rfl (i := 70) (vp_in_iff.mpr (by decide)) dX12_turnsTo_72 ?_
        refine W.eq (g2 := F0 m 73 ls [.int v_34, .int v_17, .ref (h 0)]) (by rw [show f_16 1 (Int32.toNatClampNeg 70) = v_34 from ev_34.symm]) ?_
        refine lv_goto (tgt := 78) hx hb dX12_turnsTo_73 (by decide) ?_
        refine lv_iadd hx hb dX12_turnsTo_78 ?_
        refine lv_topi (fun v_42 ev_42 => ?_)
        refine sg_put (ci := 12) (x := v_42) (ty := .int) (C := RX12) (T := TX12) (N := 55) hx hb hts (fun w h => List.mem_cons_of_mem _ (gx_12 w h)) tyX12 tyX12_ok nmX12 hown hh hA hK hP hS 0 (by decide) rfl rfl 31 (by decide) (hts _ (List.mem_cons_of_mem _ mw_708)) (fun _ h9 => h9) rfl rfl (by decide +kernel) rfl rfl (Nat.le_of_ble_eq_true rfl) dX12_turnsTo_79 (fun f_43 H locs ef_43 hP hS => ?_)
        have hI : sgI loM hiM f_43 := by rw [ef_43]; exact sgI.put hI 0 31 (bn_top _)
        have hF : sgK WkX12_turnsTo f f_43 := sgK.put hF ef_43 (by rfl)
        refine lv_aload_n hx hb dX12_turnsTo_82 rfl (lv_at hl 2 rfl) ?_
        refine sg_get (ci := 12) (v := .ref (h 12)) (C := RX12) (T := TX12) (N := 55) hx hb hts (fun w h => List.mem_cons_of_mem _ (gx_12 w h)) hown hK hP 0 (by decide) rfl rfl 27 (by decide) (hts _ (List.mem_cons_of_mem _ mw_705)) (fun _ h9 => h9) rfl dX12_turnsTo_83 ?_
        refine lv_iload_n hx hb dX12_turnsTo_86 rfl (lv_at hl 3 rfl) ?_
        refine lv_iload_n hx hb dX12_turnsTo_87 rfl (lv_at hl 4 rfl) ?_
        refine sg_iast hx hb hh hA hK hP hS 12 (by decide) 0 (fun _ => rfl) rfl (i := x0) (x := x1) (vp_in_iff.mpr ⟨by omega, by omega⟩) dX12_turnsTo_88 (fun f_44 H locs ef_44 hP hS => ?_)
        have hI : sgI loM hiM f_44 := by rw [ef_44]; exact sgI.put hI 12 x0.toNatClampNeg (show 0 ≤ (x1 : Int32).toInt ∧ (x1 : Int32).toInt ≤ 60 from by omega)
        have hF : sgK WkX12_turnsTo f f_44 := sgK.put hF ef_44 (by rfl)
        exact hret _ _ _ _ f_44 L Q dX12_turnsTo_89 hP hS ⟨hI, hF, rfl, rfl⟩

abbrev WkX12_comes : List (Nat × Nat × Option Nat) := [(0, 0, some 12), (0, 0, some 13), (0, 0, some 14), (0, 0, some 15), (0, 0, some 16), (0, 0, some 29), (0, 0, some 30), (0, 0, some 31), (8, 8, none), (12, 12, none)]
set_option maxHeartbeats 4000000 in
set_option maxRecDepth 100000 in
theorem kX12_comes (l : Launch) (D : va_G) (ca : Nat → ClassId) (za h : Nat → Nat) (hh : sgH 26 h) (f : sg_F) (L : sg_L) (Q : sg_Q) (hI : sgI loM hiM f) (x0 : Int32) (b0 : 0 ≤ x0.toInt ∧ x0.toInt ≤ 7) (sz : Nat) : Met l yX12_comes gwX12_comes { frames := 45, cells := 0, slots := 0, locals := 1032 } (sgP D vwCl (tyX ca) 26 h (eM ca h) zcM za f L Q sz [.ref (h 0), .int x0]) (sgQv D vwCl 26 h (eM ca h) sz (fun f1 L1 Q1 => ((sgI loM hiM f1 ∧ sgK WkX12_comes f f1 ∧ L1 = L ∧ Q1 = Q)))) 0 0 (sgA 26 h sz) := by
  refine sg_ofWv (cc := cX12_comes) (maxL := 4) RX12 (by decide) rfl rfl (Nat.le_of_ble_eq_true rfl) ?_
  intro p e s m below meth cd Qz ls hx hb hml hown hts hK hZ hP hS hl hret
  have hA := sgY.self (n := 26) (h := h) (sz := s.heap.size)
  have hl : lv_has ls 4 [(0, .ref (h 0)), (1, .int x0)] := hl
  obtain ⟨H, hH⟩ : ∃ z : Heap, z = s.heap := ⟨_, rfl⟩
  obtain ⟨locs, hlo⟩ : ∃ z : List Loc, z = [] := ⟨_, rfl⟩
  have hP : va_P D vwCl (sgw 26 h (eM ca h) f L Q) H := by rw [hH]; exact hP
  have hS : va_S (sgA 26 h s.heap.size) s.heap H locs := by rw [hH, hlo]; exact hS
  suffices hgo : W p l e ({ frames := 45, cells := 0, slots := 0, locals := 1032 }) s m ([.ref (h 0), .int x0] : List Value).toArray below meth cd H locs 0 0 Qz (F0 m 0 ls []) by rw [hH, hlo] at hgo; exact hgo
  clear hH hlo
  have hF : sgK WkX12_comes f f := sgK.rf
  have loop_82 : ∀ (n_82 : Nat) (y2_82 : Int32) (fp_82 : sg_F) (H : Heap) (locs : List Loc) (ls : Array Slot), 3 - y2_82.toInt < (n_82 : Int) → 0 ≤ y2_82.toInt ∧ y2_82.toInt ≤ 3 → sgI loM hiM fp_82 → sgK WkX12_comes f fp_82 → va_P D vwCl (sgw 26 h (eM ca h) fp_82 L Q) H → va_S (sgA 26 h s.heap.size) s.heap H locs → lv_has ls 4 [(0, .ref (h 0)), (1, .int x0), (2, .int y2_82)] → W p l e ({ frames := 45, cells := 0, slots := 0, locals := 1032 }) s m ([.ref (h 0), .int x0] : List Value).toArray below meth cd H locs 0 0 Qz (F0 m 82 ls []) := by
    intro n_82
    induction n_82 with
    | zero => intro y2_82 fp_82 H locs ls hm_82 hy0_82 hI hF hP hS hl; exact absurd hm_82 (by omega)
    | succ n_82 ih_82 =>
      intro y2_82 fp_82 H locs ls hm_82 hy0_82 hI hF hP hS hl
      refine lv_iload_n hx hb dX12_comes_82 rfl (lv_at hl 2 rfl) ?_
      refine lv_iconst (v := 3) hx hb dX12_comes_83 (by decide) ?_
      refine lv_icmp_ge (tgt := 111) hx hb dX12_comes_84 (by decide) (fun c => ?_) (fun c => ?_)
      · skip
        have c_1 : 3 ≤ y2_82.toInt := (by have z := bn_le c; have k1 : (3 : Int32).toInt = 3 := (by decide); omega)
        exact hret _ _ _ _ fp_82 L Q dX12_comes_111 hP hS ⟨hI, hF, rfl, rfl⟩
      · skip
        have c_2 : y2_82.toInt < 3 := (by have z := bn_nle c; have k1 : (3 : Int32).toInt = 3 := (by decide); omega)
        refine lv_iload_n hx hb dX12_comes_87 rfl (lv_at hl 1 rfl) ?_
        refine lv_aload_n hx hb dX12_comes_88 rfl (lv_at hl 0 rfl) ?_
        refine sg_get (ci := 12) (v := .int (fp_82 0 24)) (C := RX12) (T := TX12) (N := 55) hx hb hts (fun w h => List.mem_cons_of_mem _ (gx_12 w h)) hown hK hP 0 (by decide) rfl rfl 24 (by decide) (hts _ (List.mem_cons_of_mem _ mw_760)) (fun _ h9 => h9) rfl dX12_comes_89 ?_
        refine lv_topi (fun v_3 ev_3 => ?_)
        have q_4 : (-1) ≤ v_3.toInt ∧ v_3.toInt ≤ 7 := by rw [ev_3]; exact hI 0 24
        refine lv_icmp_ne (tgt := 111) hx hb dX12_comes_92 (by decide) (fun c => ?_) (fun c => ?_)
        · skip
          have c_5 : x0.toInt ≠ v_3.toInt := (by have z := bn_ne c; omega)
          exact hret _ _ _ _ fp_82 L Q dX12_comes_111 hP hS ⟨hI, hF, rfl, rfl⟩
        · skip
          have c_6 : x0.toInt = v_3.toInt := (by have z := Int32.toInt_inj.mpr c; omega)
          refine lv_aload_n hx hb dX12_comes_95 rfl (lv_at hl 0 rfl) ?_
          refine lv_iload_n hx hb dX12_comes_96 rfl (lv_at hl 2 rfl) ?_
          refine lv_aload_n hx hb dX12_comes_97 rfl (lv_at hl 0 rfl) ?_
          refine sg_get (ci := 12) (v := .int (fp_82 0 25)) (C := RX12) (T := TX12) (N := 55) hx hb hts (fun w h => List.mem_cons_of_mem _ (gx_12 w h)) hown hK hP 0 (by decide) rfl rfl 25 (by decide) (hts _ (List.mem_cons_of_mem _ mw_761)) (fun _ h9 => h9) rfl dX12_comes_98 ?_
          refine lv_topi (fun v_7 ev_7 => ?_)
          have q_8 : 0 ≤ v_7.toInt ∧ v_7.toInt ≤ 60 := by rw [ev_7]; exact hI 0 25
          refine lv_iconst (v := (-1)) hx hb dX12_comes_101 (by decide) ?_
          refine sg_callv (va_runV (As := [.int y2_82, .int v_7, .int (-1)]) (rest := []) ⟨hx, hb, hml, hown, hts⟩ (kX12_turnsTo l D ca za h hh fp_82 L Q hI y2_82 v_7 (-1) (by omega) (by omega) (by decide) H.size) (cwV 3 hts (gw_V (fun _ h => List.mem_cons_of_mem _ h) mw_844 mw_845 mw_846 mw_619 mw_843) rfl rfl rfl (by decide +kernel) ⟨Nat.le_of_ble_eq_true rfl, Nat.le_of_ble_eq_true rfl⟩) (sg_preV (ci := 12) (C := RX12) (T := TX12) (N := 55) hA hK hP hS hZ 0 (by decide) rfl rfl) rfl rfl hl.1 rfl (lv_room (Nat.le_of_ble_eq_true rfl)) dX12_comes_102 ⟨Nat.le_refl _, Nat.le_refl _⟩) hA hS (fun f_9 L_10 Q_11 H locs hq hP hS => ?_)
          obtain ⟨hI, hk_f_9, eL9, eQ9⟩ := hq
          rw [eL9, eQ9] at hP; clear eL9 eQ9
          have hF : sgK WkX12_comes f f_9 := sgK.tr hF hk_f_9 (by decide)
          obtain ⟨v_12, ev_12⟩ : ∃ z : Int32, z = y2_82 + 1 := ⟨_, rfl⟩
          have q_13 : v_12.toInt = y2_82.toInt + 1 := by rw [ev_12]; exact (bn_addc y2_82 1 (by decide) (by omega) (by omega))
          refine lv_iinc (v := v_12) (lv' := [(2, .int v_12), (0, .ref (h 0)), (1, .int x0)]) hx hb dX12_comes_105 hl (k := 2) rfl (by rw [ev_12]; rfl) (by decide) rfl (fun ls hl => ?_)
          refine lv_goto (tgt := 82) hx hb dX12_comes_108 (by decide) ?_
          exact ih_82 v_12 f_9 _ _ _ (by omega) (by omega) hI hF hP hS (lv_sub hl [1, 2, 0] rfl)
  have loop_48 : ∀ (n_48 : Nat) (y2_48 : Int32) (fp_48 : sg_F) (H : Heap) (locs : List Loc) (ls : Array Slot), 3 - y2_48.toInt < (n_48 : Int) → 0 ≤ y2_48.toInt ∧ y2_48.toInt ≤ 3 → sgI loM hiM fp_48 → sgK WkX12_comes f fp_48 → va_P D vwCl (sgw 26 h (eM ca h) fp_48 L Q) H → va_S (sgA 26 h s.heap.size) s.heap H locs → lv_has ls 4 [(0, .ref (h 0)), (1, .int x0), (2, .int y2_48)] → W p l e ({ frames := 45, cells := 0, slots := 0, locals := 1032 }) s m ([.ref (h 0), .int x0] : List Value).toArray below meth cd H locs 0 0 Qz (F0 m 48 ls []) := by
    intro n_48
    induction n_48 with
    | zero => intro y2_48 fp_48 H locs ls hm_48 hy0_48 hI hF hP hS hl; exact absurd hm_48 (by omega)
    | succ n_48 ih_48 =>
      intro y2_48 fp_48 H locs ls hm_48 hy0_48 hI hF hP hS hl
      refine lv_iload_n hx hb dX12_comes_48 rfl (lv_at hl 2 rfl) ?_
      refine lv_iconst (v := 3) hx hb dX12_comes_49 (by decide) ?_
      refine lv_icmp_ge (tgt := 80) hx hb dX12_comes_50 (by decide) (fun c => ?_) (fun c => ?_)
      · skip
        have c_14 : 3 ≤ y2_48.toInt := (by have z := bn_le c; have k1 : (3 : Int32).toInt = 3 := (by decide); omega)
        refine lv_iconst (v := 0) hx hb dX12_comes_80 (by decide) ?_
        refine lv_istore_n (lv' := [(2, .int 0), (0, .ref (h 0)), (1, .int x0)]) hx hb dX12_comes_81 rfl hl (by decide) rfl (fun ls hl => ?_)
        exact loop_82 4 0 fp_48 _ _ _ (by have kc0 : (0 : Int32).toInt = 0 := (by decide); omega) (by decide) hI hF hP hS (lv_sub hl [1, 2, 0] rfl)
      · skip
        have c_15 : y2_48.toInt < 3 := (by have z := bn_nle c; have k1 : (3 : Int32).toInt = 3 := (by decide); omega)
        refine lv_aload_n hx hb dX12_comes_53 rfl (lv_at hl 0 rfl) ?_
        refine lv_dup hx hb dX12_comes_54 rfl ?_
        refine sg_get (ci := 12) (v := .int (fp_48 0 30)) (C := RX12) (T := TX12) (N := 55) hx hb hts (fun w h => List.mem_cons_of_mem _ (gx_12 w h)) hown hK hP 0 (by decide) rfl rfl 30 (by decide) (hts _ (List.mem_cons_of_mem _ mw_707)) (fun _ h9 => h9) rfl dX12_comes_55 ?_
        refine lv_topi (fun v_16 ev_16 => ?_)
        refine lv_aload_n hx hb dX12_comes_58 rfl (lv_at hl 0 rfl) ?_
        refine lv_iload_n hx hb dX12_comes_59 rfl (lv_at hl 1 rfl) ?_
        refine lv_iload_n hx hb dX12_comes_60 rfl (lv_at hl 2 rfl) ?_
        refine lv_aload_n hx hb dX12_comes_61 rfl (lv_at hl 0 rfl) ?_
        refine sg_get (ci := 12) (v := .ref (h 12)) (C := RX12) (T := TX12) (N := 55) hx hb hts (fun w h => List.mem_cons_of_mem _ (gx_12 w h)) hown hK hP 0 (by decide) rfl rfl 27 (by decide) (hts _ (List.mem_cons_of_mem _ mw_705)) (fun _ h9 => h9) rfl dX12_comes_62 ?_
        refine lv_iload_n hx hb dX12_comes_65 rfl (lv_at hl 2 rfl) ?_
        refine sg_iald hx hb hK hP 12 (by decide) 0 rfl rfl (i := y2_48) (vp_in_iff.mpr ⟨by omega, by omega⟩) dX12_comes_66 ?_
        refine lv_topi (fun v_17 ev_17 => ?_)
        have q_18 : 0 ≤ v_17.toInt ∧ v_17.toInt ≤ 60 := by rw [ev_17]; exact hI 12 _
        refine sg_calli (va_runV (As := [.int x0, .int y2_48, .int v_17]) (rest := [.int v_16, .ref (h 0)]) ⟨hx, hb, hml, hown, hts⟩ (kX12_lossOf l D ca za h hh fp_48 L Q hI x0 y2_48 v_17 (by omega) (by omega) (by omega) H.size) (cwV 3 hts (gw_V (fun _ h => List.mem_cons_of_mem _ h) mw_729 mw_730 mw_731 mw_619 mw_728) rfl rfl rfl (by decide +kernel) ⟨Nat.le_of_ble_eq_true rfl, Nat.le_of_ble_eq_true rfl⟩) (sg_preV (ci := 12) (C := RX12) (T := TX12) (N := 55) hA hK hP hS hZ 0 (by decide) rfl rfl) rfl rfl hl.1 rfl (lv_room (Nat.le_of_ble_eq_true rfl)) dX12_comes_67 ⟨Nat.le_refl _, Nat.le_refl _⟩) hA hS (fun r_22 f_19 L_20 Q_21 H locs hq hP hS => ?_)
        obtain ⟨⟨hI, hk_f_19, eL9, eQ9⟩, hq⟩ := hq
        rw [eL9, eQ9] at hP; clear eL9 eQ9
        have hF : sgK WkX12_comes f f_19 := sgK.tr hF hk_f_19 (by decide)
        refine lv_iadd hx hb dX12_comes_70 ?_
        refine lv_topi (fun v_23 ev_23 => ?_)
        refine sg_put (ci := 12) (x := v_23) (ty := .int) (C := RX12) (T := TX12) (N := 55) hx hb hts (fun w h => List.mem_cons_of_mem _ (gx_12 w h)) tyX12 tyX12_ok nmX12 hown hh hA hK hP hS 0 (by decide) rfl rfl 30 (by decide) (hts _ (List.mem_cons_of_mem _ mw_707)) (fun _ h9 => h9) rfl rfl (by decide +kernel) rfl rfl (Nat.le_of_ble_eq_true rfl) dX12_comes_71 (fun f_24 H locs ef_24 hP hS => ?_)
        have hI : sgI loM hiM f_24 := by rw [ef_24]; exact sgI.put hI 0 30 (bn_top _)
        have hF : sgK WkX12_comes f f_24 := sgK.put hF ef_24 (by rfl)
        obtain ⟨v_25, ev_25⟩ : ∃ z : Int32, z = y2_48 + 1 := ⟨_, rfl⟩
        have q_26 : v_25.toInt = y2_48.toInt + 1 := by rw [ev_25]; exact (bn_addc y2_48 1 (by decide) (by omega) (by omega))
        refine lv_iinc (v := v_25) (lv' := [(2, .int v_25), (0, .ref (h 0)), (1, .int x0)]) hx hb dX12_comes_74 hl (k := 2) rfl (by rw [ev_25]; rfl) (by decide) rfl (fun ls hl => ?_)
        refine lv_goto (tgt := 48) hx hb dX12_comes_77 (by decide) ?_
        exact ih_48 v_25 f_24 _ _ _ (by omega) (by omega) hI hF hP hS (lv_sub hl [1, 2, 0] rfl)
  have loop_2 : ∀ (n_2 : Nat) (y2_2 : Int32) (fp_2 : sg_F) (H : Heap) (locs : List Loc) (ls : Array Slot), 3 - y2_2.toInt < (n_2 : Int) → 0 ≤ y2_2.toInt ∧ y2_2.toInt ≤ 3 → sgI loM hiM fp_2 → sgK WkX12_comes f fp_2 → va_P D vwCl (sgw 26 h (eM ca h) fp_2 L Q) H → va_S (sgA 26 h s.heap.size) s.heap H locs → lv_has ls 4 [(0, .ref (h 0)), (1, .int x0), (2, .int y2_2)] → W p l e ({ frames := 45, cells := 0, slots := 0, locals := 1032 }) s m ([.ref (h 0), .int x0] : List Value).toArray below meth cd H locs 0 0 Qz (F0 m 2 ls []) := by
    intro n_2
    induction n_2 with
    | zero => intro y2_2 fp_2 H locs ls hm_2 hy0_2 hI hF hP hS hl; exact absurd hm_2 (by omega)
    | succ n_2 ih_2 =>
      have blk_40 : ∀ (y2_40 : Int32) (fp_40 : sg_F) (H : Heap) (locs : List Loc) (ls : Array Slot), 3 - y2_40.toInt < ((n_2 + 1 : Nat) : Int) → 0 ≤ y2_40.toInt ∧ y2_40.toInt ≤ 2 → sgI loM hiM fp_40 → sgK WkX12_comes f fp_40 → va_P D vwCl (sgw 26 h (eM ca h) fp_40 L Q) H → va_S (sgA 26 h s.heap.size) s.heap H locs → lv_has ls 4 [(0, .ref (h 0)), (1, .int x0), (2, .int y2_40)] → W p l e ({ frames := 45, cells := 0, slots := 0, locals := 1032 }) s m ([.ref (h 0), .int x0] : List Value).toArray below meth cd H locs 0 0 Qz (F0 m 40 ls []) := by
        intro y2_40 fp_40 H locs ls hm_2 hy0_40 hI hF hP hS hl
        obtain ⟨v_27, ev_27⟩ : ∃ z : Int32, z = y2_40 + 1 := ⟨_, rfl⟩
        have q_28 : v_27.toInt = y2_40.toInt + 1 := by rw [ev_27]; exact (bn_addc y2_40 1 (by decide) (by omega) (by omega))
        refine lv_iinc (v := v_27) (lv' := [(2, .int v_27), (0, .ref (h 0)), (1, .int x0)]) hx hb dX12_comes_40 hl (k := 2) rfl (by rw [ev_27]; rfl) (by decide) rfl (fun ls hl => ?_)
        refine lv_goto (tgt := 2) hx hb dX12_comes_43 (by decide) ?_
        exact ih_2 v_27 fp_40 _ _ _ (by omega) (by omega) hI hF hP hS (lv_sub hl [1, 2, 0] rfl)
      intro y2_2 fp_2 H locs ls hm_2 hy0_2 hI hF hP hS hl
      refine lv_iload_n hx hb dX12_comes_2 rfl (lv_at hl 2 rfl) ?_
      refine lv_iconst (v := 3) hx hb dX12_comes_3 (by decide) ?_
      refine lv_icmp_ge (tgt := 46) hx hb dX12_comes_4 (by decide) (fun c => ?_) (fun c => ?_)
      · skip
        have c_29 : 3 ≤ y2_2.toInt := (by have z := bn_le c; have k1 : (3 : Int32).toInt = 3 := (by decide); omega)
        refine lv_iconst (v := 0) hx hb dX12_comes_46 (by decide) ?_
        refine lv_istore_n (lv' := [(2, .int 0), (0, .ref (h 0)), (1, .int x0)]) hx hb dX12_comes_47 rfl hl (by decide) rfl (fun ls hl => ?_)
        exact loop_48 4 0 fp_2 _ _ _ (by have kc0 : (0 : Int32).toInt = 0 := (by decide); omega) (by decide) hI hF hP hS (lv_sub hl [1, 2, 0] rfl)
      · skip
        have c_30 : y2_2.toInt < 3 := (by have z := bn_nle c; have k1 : (3 : Int32).toInt = 3 := (by decide); omega)
        refine lv_aload_n hx hb dX12_comes_7 rfl (lv_at hl 0 rfl) ?_
        refine lv_iload_n hx hb dX12_comes_8 rfl (lv_at hl 1 rfl) ?_
        refine lv_iload_n hx hb dX12_comes_9 rfl (lv_at hl 2 rfl) ?_
        refine sg_calli (va_runV (As := [.int x0, .int y2_2]) (rest := []) ⟨hx, hb, hml, hown, hts⟩ (kX12_numberOf l D ca za h hh fp_2 L Q hI x0 y2_2 (by omega) (by omega) H.size) (cwV 2 hts (gw_V (fun _ h => List.mem_cons_of_mem _ h) mw_720 mw_721 mw_722 mw_619 mw_719) rfl rfl rfl (by decide +kernel) ⟨Nat.le_of_ble_eq_true rfl, Nat.le_of_ble_eq_true rfl⟩) (sg_preV (ci := 12) (C := RX12) (T := TX12) (N := 55) hA hK hP hS hZ 0 (by decide) rfl rfl) rfl rfl hl.1 rfl (lv_room (Nat.le_of_ble_eq_true rfl)) dX12_comes_10 ⟨Nat.le_refl _, Nat.le_refl _⟩) hA hS (fun r_34 f_31 L_32 Q_33 H locs hq hP hS => ?_)
        obtain ⟨⟨ef9, eL9, eQ9⟩, hq⟩ := hq
        rw [ef9, eL9, eQ9] at hP; clear ef9 eL9 eQ9
        refine lv_istore_n (lv' := [(3, .int r_34), (0, .ref (h 0)), (1, .int x0), (2, .int y2_2)]) hx hb dX12_comes_13 rfl hl (by decide) rfl (fun ls hl => ?_)
        refine lv_iload_n hx hb dX12_comes_14 rfl (lv_at hl 0 rfl) ?_
        refine lv_aload_n hx hb dX12_comes_15 rfl (lv_at hl 1 rfl) ?_
        refine sg_get (ci := 12) (v := .ref (h 12)) (C := RX12) (T := TX12) (N := 55) hx hb hts (fun w h => List.mem_cons_of_mem _ (gx_12 w h)) hown hK hP 0 (by decide) rfl rfl 27 (by decide) (hts _ (List.mem_cons_of_mem _ mw_705)) (fun _ h9 => h9) rfl dX12_comes_16 ?_
        refine lv_iload_n hx hb dX12_comes_19 rfl (lv_at hl 3 rfl) ?_
        refine sg_iald hx hb hK hP 12 (by decide) 0 rfl rfl (i := y2_2) (vp_in_iff.mpr ⟨by omega, by omega⟩) dX12_comes_20 ?_
        refine lv_topi (fun v_35 ev_35 => ?_)
        have q_36 : 0 ≤ v_35.toInt ∧ v_35.toInt ≤ 60 := by rw [ev_35]; exact hI 12 _
        refine lv_isub hx hb dX12_comes_21 ?_
        refine lv_topi (fun v_37 ev_37 => ?_)
        have q_38 : v_37.toInt = r_34.toInt - v_35.toInt := by rw [ev_37]; exact (bn_subI (by omega) (by omega)).trans (by omega)
        refine sg_calli (va_runS (As := [.int v_37]) (rest := []) ⟨hx, hb, hml, hown, hts⟩ (kX12_sizeOf l D ca za h hh fp_2 L Q hI v_37 (by omega) H.size) (va_cwS 1 hts (gw_S (fun _ h => List.mem_cons_of_mem _ h) mw_682 mw_683 mw_619 mw_681) rfl rfl rfl (by decide +kernel) ⟨Nat.le_of_ble_eq_true rfl, Nat.le_of_ble_eq_true rfl⟩) (sg_preS hA hK hP hS hZ) rfl rfl hl.1 rfl (lv_room (Nat.le_of_ble_eq_true rfl)) dX12_comes_22 ⟨Nat.le_refl _, Nat.le_refl _⟩) hA hS (fun r_42 f_39 L_40 Q_41 H locs hq hP hS => ?_)
        obtain ⟨⟨ef9, eL9, eQ9⟩, hq⟩ := hq
        rw [ef9, eL9, eQ9] at hP; clear ef9 eL9 eQ9
        refine lv_aload_n hx hb dX12_comes_25 rfl (lv_at hl 1 rfl) ?_
        refine lv_iload_n hx hb dX12_comes_26 rfl (lv_at hl 2 rfl) ?_
        refine sg_calli (va_runV (As := [.int x0]) (rest := [.int r_42]) ⟨hx, hb, hml, hown, hts⟩ (kX12_nearBy l D ca za h hh fp_2 L Q hI x0 (by omega) H.size) (cwV 1 hts (gw_V (fun _ h => List.mem_cons_of_mem _ h) mw_785 mw_786 mw_787 mw_619 mw_784) rfl rfl rfl (by decide +kernel) ⟨Nat.le_of_ble_eq_true rfl, Nat.le_of_ble_eq_true rfl⟩) (sg_preV (ci := 12) (C := RX12) (T := TX12) (N := 55) hA hK hP hS hZ 0 (by decide) rfl rfl) rfl rfl hl.1 rfl (lv_room (Nat.le_of_ble_eq_true rfl)) dX12_comes_27 ⟨Nat.le_refl _, Nat.le_refl _⟩) hA hS (fun r_46 f_43 L_44 Q_45 H locs hq hP hS => ?_)
        obtain ⟨⟨ef9, eL9, eQ9⟩, hq⟩ := hq
        rw [ef9, eL9, eQ9] at hP; clear ef9 eL9 eQ9
        refine lv_icmp_le (tgt := 40) hx hb dX12_comes_30 (by decide) (fun c => ?_) (fun c => ?_)
        · skip
          have c_47 : r_42.toInt ≤ r_46.toInt := (by have z := bn_le c; omega)
          exact blk_40 y2_2 fp_2 _ _ _ (by omega) (by omega) hI hF hP hS (lv_sub hl [1, 2, 3] rfl)
        · skip
          have c_48 : r_46.toInt < r_42.toInt := (by have z := bn_nle c; omega)
          refine lv_aload_n hx hb dX12_comes_33 rfl (lv_at hl 1 rfl) ?_
          refine lv_iload_n hx hb dX12_comes_34 rfl (lv_at hl 3 rfl) ?_
          refine lv_iload_n hx hb dX12_comes_35 rfl (lv_at hl 0 rfl) ?_
          refine lv_iload_n hx hb dX12_comes_36 rfl (lv_at hl 2 rfl) ?_
          refine sg_callv (va_runV (As := [.int y2_2, .int r_34, .int x0]) (rest := []) ⟨hx, hb, hml, hown, hts⟩ (kX12_turnsTo l D ca za h hh fp_2 L Q hI y2_2 r_34 x0 (by omega) (by omega) (by omega) H.size) (cwV 3 hts (gw_V (fun _ h => List.mem_cons_of_mem _ h) mw_844 mw_845 mw_846 mw_619 mw_843) rfl rfl rfl (by decide +kernel) ⟨Nat.le_of_ble_eq_true rfl, Nat.le_of_ble_eq_true rfl⟩) (sg_preV (ci := 12) (C := RX12) (T := TX12) (N := 55) hA hK hP hS hZ 0 (by decide) rfl rfl) rfl rfl hl.1 rfl (lv_room (Nat.le_of_ble_eq_true rfl)) dX12_comes_37 ⟨Nat.le_refl _, Nat.le_refl _⟩) hA hS (fun f_49 L_50 Q_51 H locs hq hP hS => ?_)
          obtain ⟨hI, hk_f_49, eL9, eQ9⟩ := hq
          rw [eL9, eQ9] at hP; clear eL9 eQ9
          have hF : sgK WkX12_comes f f_49 := sgK.tr hF hk_f_49 (by decide)
          exact blk_40 y2_2 f_49 _ _ _ (by omega) (by omega) hI hF hP hS (lv_sub hl [1, 2, 3] rfl)
  refine lv_iconst (v := 0) hx hb dX12_comes_0 (by decide) ?_
  refine lv_istore_n (lv' := [(2, .int 0), (0, .ref (h 0)), (1, .int x0)]) hx hb dX12_comes_1 rfl hl (by decide) rfl (fun ls hl => ?_)
  exact loop_2 4 0 f _ _ _ (by have kc0 : (0 : Int32).toInt = 0 := (by decide); omega) (by decide) hI hF hP hS (lv_sub hl [1, 2, 0] rfl)

abbrev WkX12_weekOf : List (Nat × Nat × Option Nat) := [(0, 0, some 12), (0, 0, some 13), (0, 0, some 14), (0, 0, some 15), (0, 0, some 16), (0, 0, some 29), (0, 0, some 30), (0, 0, some 31), (8, 8, none), (12, 12, none), (13, 13, none)]
set_option maxHeartbeats 4000000 in
set_option maxRecDepth 100000 in
theorem kX12_weekOf (l : Launch) (D : va_G) (ca : Nat → ClassId) (za h : Nat → Nat) (hh : sgH 26 h) (f : sg_F) (L : sg_L) (Q : sg_Q) (hI : sgI loM hiM f) (x0 : Int32) (b0 : 0 ≤ x0.toInt ∧ x0.toInt ≤ 5) (sz : Nat) : Met l yX12_weekOf gwX12_weekOf { frames := 46, cells := 0, slots := 0, locals := 1055 } (sgP D vwCl (tyX ca) 26 h (eM ca h) zcM za f L Q sz [.ref (h 0), .int x0]) (sgQi D vwCl 26 h (eM ca h) sz (fun r f1 L1 Q1 => ((sgI loM hiM f1 ∧ sgK WkX12_weekOf f f1 ∧ L1 = L ∧ Q1 = Q) ∧ True))) 0 0 (sgA 26 h sz) := by
  refine sg_ofWi (cc := cX12_weekOf) (maxL := 5) RX12 (by decide) rfl rfl (Nat.le_of_ble_eq_true rfl) ?_
  intro p e s m below meth cd Qz ls hx hb hml hown hts hK hZ hP hS hl hret
  have hA := sgY.self (n := 26) (h := h) (sz := s.heap.size)
  have hl : lv_has ls 5 [(0, .ref (h 0)), (1, .int x0)] := hl
  obtain ⟨H, hH⟩ : ∃ z : Heap, z = s.heap := ⟨_, rfl⟩
  obtain ⟨locs, hlo⟩ : ∃ z : List Loc, z = [] := ⟨_, rfl⟩
  have hP : va_P D vwCl (sgw 26 h (eM ca h) f L Q) H := by rw [hH]; exact hP
  have hS : va_S (sgA 26 h s.heap.size) s.heap H locs := by rw [hH, hlo]; exact hS
  suffices hgo : W p l e ({ frames := 46, cells := 0, slots := 0, locals := 1055 }) s m ([.ref (h 0), .int x0] : List Value).toArray below meth cd H locs 0 0 Qz (F0 m 0 ls []) by rw [hH, hlo] at hgo; exact hgo
  clear hH hlo
  have hF : sgK WkX12_weekOf f f := sgK.rf
  have loop_6 : ∀ (n_6 : Nat) (y2_6 : Int32) (fp_6 : sg_F) (H : Heap) (locs : List Loc) (ls : Array Slot), 21 - y2_6.toInt < (n_6 : Int) → 0 ≤ y2_6.toInt ∧ y2_6.toInt ≤ 21 → sgI loM hiM fp_6 → sgK WkX12_weekOf f fp_6 → va_P D vwCl (sgw 26 h (eM ca h) fp_6 L Q) H → va_S (sgA 26 h s.heap.size) s.heap H locs → lv_has ls 5 [(0, .ref (h 0)), (1, .int x0), (2, .int y2_6)] → W p l e ({ frames := 46, cells := 0, slots := 0, locals := 1055 }) s m ([.ref (h 0), .int x0] : List Value).toArray below meth cd H locs 0 0 Qz (F0 m 6 ls []) := by
    intro n_6
    induction n_6 with
    | zero => intro y2_6 fp_6 H locs ls hm_6 hy0_6 hI hF hP hS hl; exact absurd hm_6 (by omega)
    | succ n_6 ih_6 =>
      have loop_72 : ∀ (n_72 : Nat) (y2_72 : Int32) (y4_72 : Int32) (fp_72 : sg_F) (H : Heap) (locs : List Loc) (ls : Array Slot), 3 - y4_72.toInt < (n_72 : Int) → 21 - y2_72.toInt < ((n_6 + 1 : Nat) : Int) → 0 ≤ y2_72.toInt ∧ y2_72.toInt ≤ 20 → 0 ≤ y4_72.toInt ∧ y4_72.toInt ≤ 3 → sgI loM hiM fp_72 → sgK WkX12_weekOf f fp_72 → va_P D vwCl (sgw 26 h (eM ca h) fp_72 L Q) H → va_S (sgA 26 h s.heap.size) s.heap H locs → lv_has ls 5 [(0, .ref (h 0)), (1, .int x0), (2, .int y2_72), (4, .int y4_72)] → W p l e ({ frames := 46, cells := 0, slots := 0, locals := 1055 }) s m ([.ref (h 0), .int x0] : List Value).toArray below meth cd H locs 0 0 Qz (F0 m 72 ls []) := by
        intro n_72
        induction n_72 with
        | zero => intro y2_72 y4_72 fp_72 H locs ls hm_72 hm_6 hy0_72 hy1_72 hI hF hP hS hl; exact absurd hm_72 (by omega)
        | succ n_72 ih_72 =>
          intro y2_72 y4_72 fp_72 H locs ls hm_72 hm_6 hy0_72 hy1_72 hI hF hP hS hl
          refine lv_iload hx hb dX12_weekOf_72 (lv_at hl 3 rfl) ?_
          refine lv_iconst (v := 3) hx hb dX12_weekOf_74 (by decide) ?_
          refine lv_icmp_ge (tgt := 124) hx hb dX12_weekOf_75 (by decide) (fun c => ?_) (fun c => ?_)
          · skip
            have c_1 : 3 ≤ y4_72.toInt := (by have z := bn_le c; have k1 : (3 : Int32).toInt = 3 := (by decide); omega)
            obtain ⟨v_3, ev_3⟩ : ∃ z : Int32, z = y2_72 + 1 := ⟨_, rfl⟩
            have q_4 : v_3.toInt = y2_72.toInt + 1 := by rw [ev_3]; exact (bn_addc y2_72 1 (by decide) (by omega) (by omega))
            refine lv_iinc (v := v_3) (lv' := [(2, .int v_3), (0, .ref (h 0)), (1, .int x0), (4, .int y4_72)]) hx hb dX12_weekOf_124 hl (k := 2) rfl (by rw [ev_3]; rfl) (by decide) rfl (fun ls hl => ?_)
            refine lv_goto (tgt := 6) hx hb dX12_weekOf_127 (by decide) ?_
            exact ih_6 v_3 fp_72 _ _ _ (by omega) (by omega) hI hF hP hS (lv_sub hl [1, 2, 0] rfl)
          · skip
            have c_2 : y4_72.toInt < 3 := (by have z := bn_nle c; have k1 : (3 : Int32).toInt = 3 := (by decide); omega)
            refine lv_aload_n hx hb dX12_weekOf_78 rfl (lv_at hl 0 rfl) ?_
            refine sg_get (ci := 12) (v := .ref (h 12)) (C := RX12) (T := TX12) (N := 55) hx hb hts (fun w h => List.mem_cons_of_mem _ (gx_12 w h)) hown hK hP 0 (by decide) rfl rfl 27 (by decide) (hts _ (List.mem_cons_of_mem _ mw_705)) (fun _ h9 => h9) rfl dX12_weekOf_79 ?_
            refine lv_iload hx hb dX12_weekOf_82 (lv_at hl 3 rfl) ?_
            refine lv_aload_n hx hb dX12_weekOf_84 rfl (lv_at hl 0 rfl) ?_
            refine lv_iload hx hb dX12_weekOf_85 (lv_at hl 3 rfl) ?_
            refine lv_aload_n hx hb dX12_weekOf_87 rfl (lv_at hl 0 rfl) ?_
            refine sg_get (ci := 12) (v := .ref (h 12)) (C := RX12) (T := TX12) (N := 55) hx hb hts (fun w h => List.mem_cons_of_mem _ (gx_12 w h)) hown hK hP 0 (by decide) rfl rfl 27 (by decide) (hts _ (List.mem_cons_of_mem _ mw_705)) (fun _ h9 => h9) rfl dX12_weekOf_88 ?_
            refine lv_iload hx hb dX12_weekOf_91 (lv_at hl 3 rfl) ?_
            refine sg_iald hx hb hK hP 12 (by decide) 0 rfl rfl (i := y4_72) (vp_in_iff.mpr ⟨by omega, by omega⟩) dX12_weekOf_93 ?_
            refine lv_topi (fun v_5 ev_5 => ?_)
            have q_6 : 0 ≤ v_5.toInt ∧ v_5.toInt ≤ 60 := by rw [ev_5]; exact hI 12 _
            refine sg_calli (va_runV (As := [.int y4_72, .int v_5]) (rest := [.int y4_72, .ref (h 12)]) ⟨hx, hb, hml, hown, hts⟩ (kX12_slipped l D ca za h hh fp_72 L Q hI y4_72 v_5 (by omega) (by omega) H.size) (cwV 2 hts (gw_V (fun _ h => List.mem_cons_of_mem _ h) mw_649 mw_650 mw_651 mw_619 mw_648) rfl rfl rfl (by decide +kernel) ⟨Nat.le_of_ble_eq_true rfl, Nat.le_of_ble_eq_true rfl⟩) (sg_preV (ci := 12) (C := RX12) (T := TX12) (N := 55) hA hK hP hS hZ 0 (by decide) rfl rfl) rfl rfl hl.1 rfl (lv_room (Nat.le_of_ble_eq_true rfl)) dX12_weekOf_94 ⟨Nat.le_refl _, Nat.le_refl _⟩) hA hS (fun r_10 f_7 L_8 Q_9 H locs hq hP hS => ?_)
            obtain ⟨⟨ef9, eL9, eQ9⟩, hq⟩ := hq
            rw [ef9, eL9, eQ9] at hP; clear ef9 eL9 eQ9
            refine sg_iast hx hb hh hA hK hP hS 12 (by decide) 0 (fun _ => rfl) rfl (i := y4_72) (x := r_10) (vp_in_iff.mpr ⟨by omega, by omega⟩) dX12_weekOf_97 (fun f_11 H locs ef_11 hP hS => ?_)
            have hI : sgI loM hiM f_11 := by rw [ef_11]; exact sgI.put hI 12 y4_72.toNatClampNeg (show 0 ≤ (r_10 : Int32).toInt ∧ (r_10 : Int32).toInt ≤ 60 from by omega)
            have hF : sgK WkX12_weekOf f f_11 := sgK.put hF ef_11 (by rfl)
            refine lv_aload_n hx hb dX12_weekOf_98 rfl (lv_at hl 0 rfl) ?_
            refine sg_get (ci := 12) (v := .ref (h 13)) (C := RX12) (T := TX12) (N := 55) hx hb hts (fun w h => List.mem_cons_of_mem _ (gx_12 w h)) hown hK hP 0 (by decide) rfl rfl 28 (by decide) (hts _ (List.mem_cons_of_mem _ mw_717)) (fun _ h9 => h9) rfl dX12_weekOf_99 ?_
            refine lv_iconst (v := 3) hx hb dX12_weekOf_102 (by decide) ?_
            refine lv_iload_n hx hb dX12_weekOf_103 rfl (lv_at hl 2 rfl) ?_
            refine lv_iconst (v := 1) hx hb dX12_weekOf_104 (by decide) ?_
            refine lv_iadd hx hb dX12_weekOf_105 ?_
            refine lv_topi (fun v_12 ev_12 => ?_)
            have q_13 : v_12.toInt = y2_72.toInt + 1 := by rw [ev_12]; have k1 : (1 : Int32).toInt = 1 := (by decide); exact (bn_addI (by omega) (by omega)).trans (by omega)
            refine lv_imul hx hb dX12_weekOf_106 ?_
            refine lv_topi (fun v_14 ev_14 => ?_)
            have q_15 : v_14.toInt = 3 * v_12.toInt := by rw [ev_14]; exact bn_mulJ (by decide) (by omega) (by omega)
            refine lv_iload hx hb dX12_weekOf_107 (lv_at hl 3 rfl) ?_
            refine lv_iadd hx hb dX12_weekOf_109 ?_
            refine lv_topi (fun v_16 ev_16 => ?_)
            have q_17 : v_16.toInt = v_14.toInt + y4_72.toInt := by rw [ev_16]; exact (bn_addI (by omega) (by omega)).trans (by omega)
            refine lv_aload_n hx hb dX12_weekOf_110 rfl (lv_at hl 0 rfl) ?_
            refine sg_get (ci := 12) (v := .ref (h 12)) (C := RX12) (T := TX12) (N := 55) hx hb hts (fun w h => List.mem_cons_of_mem _ (gx_12 w h)) hown hK hP 0 (by decide) rfl rfl 27 (by decide) (hts _ (List.mem_cons_of_mem _ mw_705)) (fun _ h9 => h9) rfl dX12_weekOf_111 ?_
            refine lv_iload hx hb dX12_weekOf_114 (lv_at hl 3 rfl) ?_
            refine sg_iald hx hb hK hP 12 (by decide) 0 rfl rfl (i := y4_72) (vp_in_iff.mpr ⟨by omega, by omega⟩) dX12_weekOf_116 ?_
            refine W.eq (g2 := F0 m 117 ls [.int r_10, .int v_16, .ref (h 13)]) (by rw [show f_11 12 (Int32.toNatClampNeg y4_72) = r_10 from (by rw [ef_11, sg_up_s, sgu_s])]) ?_
            refine sg_iast hx hb hh hA hK hP hS 13 (by decide) 0 (fun _ => rfl) rfl (i := v_16) (x := r_10) (vp_in_iff.mpr ⟨by omega, by omega⟩) dX12_weekOf_117 (fun f_18 H locs ef_18 hP hS => ?_)
            have hI : sgI loM hiM f_18 := by rw [ef_18]; exact sgI.put hI 13 v_16.toNatClampNeg (show 0 ≤ (r_10 : Int32).toInt ∧ (r_10 : Int32).toInt ≤ 60 from by omega)
            have hF : sgK WkX12_weekOf f f_18 := sgK.put hF ef_18 (by rfl)
            obtain ⟨v_19, ev_19⟩ : ∃ z : Int32, z = y4_72 + 1 := ⟨_, rfl⟩
            have q_20 : v_19.toInt = y4_72.toInt + 1 := by rw [ev_19]; exact (bn_addc y4_72 1 (by decide) (by omega) (by omega))
            refine lv_iinc (v := v_19) (lv' := [(4, .int v_19), (0, .ref (h 0)), (1, .int x0), (2, .int y2_72)]) hx hb dX12_weekOf_118 hl (k := 3) rfl (by rw [ev_19]; rfl) (by decide) rfl (fun ls hl => ?_)
            refine lv_goto (tgt := 72) hx hb dX12_weekOf_121 (by decide) ?_
            exact ih_72 y2_72 v_19 f_18 _ _ _ (by omega) (by omega) (by omega) (by omega) hI hF hP hS (lv_sub hl [1, 2, 3, 0] rfl)
      have blk_69 : ∀ (y2_69 : Int32) (fp_69 : sg_F) (H : Heap) (locs : List Loc) (ls : Array Slot), 21 - y2_69.toInt < ((n_6 + 1 : Nat) : Int) → 0 ≤ y2_69.toInt ∧ y2_69.toInt ≤ 20 → sgI loM hiM fp_69 → sgK WkX12_weekOf f fp_69 → va_P D vwCl (sgw 26 h (eM ca h) fp_69 L Q) H → va_S (sgA 26 h s.heap.size) s.heap H locs → lv_has ls 5 [(0, .ref (h 0)), (1, .int x0), (2, .int y2_69)] → W p l e ({ frames := 46, cells := 0, slots := 0, locals := 1055 }) s m ([.ref (h 0), .int x0] : List Value).toArray below meth cd H locs 0 0 Qz (F0 m 69 ls []) := by
        intro y2_69 fp_69 H locs ls hm_6 hy0_69 hI hF hP hS hl
        refine lv_iconst (v := 0) hx hb dX12_weekOf_69 (by decide) ?_
        refine lv_istore (lv' := [(4, .int 0), (0, .ref (h 0)), (1, .int x0), (2, .int y2_69)]) hx hb dX12_weekOf_70 hl (by decide) rfl (fun ls hl => ?_)
        exact loop_72 4 y2_69 0 fp_69 _ _ _ (by have kc1 : (0 : Int32).toInt = 0 := (by decide); omega) (by have kc1 : (0 : Int32).toInt = 0 := (by decide); omega) (by omega) (by decide) hI hF hP hS (lv_sub hl [1, 2, 3, 0] rfl)
      have loop_17 : ∀ (n_17 : Nat) (y2_17 : Int32) (y3_17 : Int32) (fp_17 : sg_F) (H : Heap) (locs : List Loc) (ls : Array Slot), 3 - y3_17.toInt < (n_17 : Int) → 21 - y2_17.toInt < ((n_6 + 1 : Nat) : Int) → 0 ≤ y2_17.toInt ∧ y2_17.toInt ≤ 20 → 0 ≤ y3_17.toInt ∧ y3_17.toInt ≤ 3 → sgI loM hiM fp_17 → sgK WkX12_weekOf f fp_17 → va_P D vwCl (sgw 26 h (eM ca h) fp_17 L Q) H → va_S (sgA 26 h s.heap.size) s.heap H locs → lv_has ls 5 [(0, .ref (h 0)), (1, .int x0), (2, .int y2_17), (3, .int y3_17)] → W p l e ({ frames := 46, cells := 0, slots := 0, locals := 1055 }) s m ([.ref (h 0), .int x0] : List Value).toArray below meth cd H locs 0 0 Qz (F0 m 17 ls []) := by
        intro n_17
        induction n_17 with
        | zero => intro y2_17 y3_17 fp_17 H locs ls hm_17 hm_6 hy0_17 hy1_17 hI hF hP hS hl; exact absurd hm_17 (by omega)
        | succ n_17 ih_17 =>
          intro y2_17 y3_17 fp_17 H locs ls hm_17 hm_6 hy0_17 hy1_17 hI hF hP hS hl
          refine lv_iload_n hx hb dX12_weekOf_17 rfl (lv_at hl 3 rfl) ?_
          refine lv_iconst (v := 3) hx hb dX12_weekOf_18 (by decide) ?_
          refine lv_icmp_ge (tgt := 44) hx hb dX12_weekOf_19 (by decide) (fun c => ?_) (fun c => ?_)
          · skip
            have c_21 : 3 ≤ y3_17.toInt := (by have z := bn_le c; have k1 : (3 : Int32).toInt = 3 := (by decide); omega)
            refine lv_aload_n hx hb dX12_weekOf_44 rfl (lv_at hl 0 rfl) ?_
            refine lv_iload_n hx hb dX12_weekOf_45 rfl (lv_at hl 1 rfl) ?_
            refine lv_iload_n hx hb dX12_weekOf_46 rfl (lv_at hl 2 rfl) ?_
            refine sg_calli (va_runV (As := [.int x0, .int y2_17]) (rest := []) ⟨hx, hb, hml, hown, hts⟩ (kX12_whoSits l D ca za h hh fp_17 L Q hI x0 y2_17 (by omega) (by omega) H.size) (cwV 2 hts (gw_V (fun _ h => List.mem_cons_of_mem _ h) mw_725 mw_726 mw_727 mw_619 mw_724) rfl rfl rfl (by decide +kernel) ⟨Nat.le_of_ble_eq_true rfl, Nat.le_of_ble_eq_true rfl⟩) (sg_preV (ci := 12) (C := RX12) (T := TX12) (N := 55) hA hK hP hS hZ 0 (by decide) rfl rfl) rfl rfl hl.1 rfl (lv_room (Nat.le_of_ble_eq_true rfl)) dX12_weekOf_47 ⟨Nat.le_refl _, Nat.le_refl _⟩) hA hS (fun r_26 f_23 L_24 Q_25 H locs hq hP hS => ?_)
            obtain ⟨⟨ef9, eL9, eQ9⟩, hq, u_27⟩ := hq
            rw [ef9, eL9, eQ9] at hP; clear ef9 eL9 eQ9
            refine lv_istore_n (lv' := [(3, .int r_26), (0, .ref (h 0)), (1, .int x0), (2, .int y2_17)]) hx hb dX12_weekOf_50 rfl hl (by decide) rfl (fun ls hl => ?_)
            refine lv_iload_n hx hb dX12_weekOf_51 rfl (lv_at hl 0 rfl) ?_
            refine lv_if_lt (tgt := 69) hx hb dX12_weekOf_52 (by decide) (fun c => ?_) (fun c => ?_)
            · skip
              have c_28 : r_26.toInt < 0 := (by have z := bn_lt c; have k1 : (0 : Int32).toInt = 0 := (by decide); omega)
              exact blk_69 y2_17 fp_17 _ _ _ (by omega) (by omega) hI hF hP hS (lv_sub hl [1, 2, 3] rfl)
            · skip
              have c_29 : 0 ≤ r_26.toInt := (by have z := bn_nlt c; have k1 : (0 : Int32).toInt = 0 := (by decide); omega)
              refine lv_aload_n hx hb dX12_weekOf_55 rfl (lv_at hl 1 rfl) ?_
              refine sg_get (ci := 12) (v := .ref (h 11)) (C := RX12) (T := TX12) (N := 55) hx hb hts (fun w h => List.mem_cons_of_mem _ (gx_12 w h)) hown hK hP 0 (by decide) rfl rfl 26 (by decide) (hts _ (List.mem_cons_of_mem _ mw_732)) (fun _ h9 => h9) rfl dX12_weekOf_56 ?_
              refine lv_iload_n hx hb dX12_weekOf_59 rfl (lv_at hl 3 rfl) ?_
              refine sg_zald hx hb hK hP 11 (by decide) 2 rfl rfl (i := y2_17) (vp_in_iff.mpr ⟨by omega, by omega⟩) dX12_weekOf_60 ?_
              refine lv_topi (fun v_30 ev_30 => ?_)
              have q_31 : 0 ≤ v_30.toInt ∧ v_30.toInt ≤ 1 := by rw [ev_30]; exact hI 11 _
              refine lv_if_ne (tgt := 69) hx hb dX12_weekOf_61 (by decide) (fun c => ?_) (fun c => ?_)
              · skip
                have c_32 : v_30.toInt ≠ 0 := (by have z := bn_ne c; have k1 : (0 : Int32).toInt = 0 := (by decide); omega)
                exact blk_69 y2_17 fp_17 _ _ _ (by omega) (by omega) hI hF hP hS (lv_sub hl [1, 2, 3] rfl)
              · skip
                have c_33 : v_30.toInt = 0 := (by have z := Int32.toInt_inj.mpr c; have k1 : (0 : Int32).toInt = 0 := (by decide); omega)
                refine lv_aload_n hx hb dX12_weekOf_64 rfl (lv_at hl 1 rfl) ?_
                refine lv_iload_n hx hb dX12_weekOf_65 rfl (lv_at hl 0 rfl) ?_
                refine sg_callv (va_runV (As := [.int r_26]) (rest := []) ⟨hx, hb, hml, hown, hts⟩ (kX12_comes l D ca za h hh fp_17 L Q hI r_26 (by omega) H.size) (cwV 1 hts (gw_V (fun _ h => List.mem_cons_of_mem _ h) mw_797 mw_798 mw_799 mw_619 mw_796) rfl rfl rfl (by decide +kernel) ⟨Nat.le_of_ble_eq_true rfl, Nat.le_of_ble_eq_true rfl⟩) (sg_preV (ci := 12) (C := RX12) (T := TX12) (N := 55) hA hK hP hS hZ 0 (by decide) rfl rfl) rfl rfl hl.1 rfl (lv_room (Nat.le_of_ble_eq_true rfl)) dX12_weekOf_66 ⟨Nat.le_refl _, Nat.le_refl _⟩) hA hS (fun f_34 L_35 Q_36 H locs hq hP hS => ?_)
                obtain ⟨hI, hk_f_34, eL9, eQ9⟩ := hq
                rw [eL9, eQ9] at hP; clear eL9 eQ9
                have hF : sgK WkX12_weekOf f f_34 := sgK.tr hF hk_f_34 (by decide)
                exact blk_69 y2_17 f_34 _ _ _ (by omega) (by omega) hI hF hP hS (lv_sub hl [1, 2, 3] rfl)
          · skip
            have c_22 : y3_17.toInt < 3 := (by have z := bn_nle c; have k1 : (3 : Int32).toInt = 3 := (by decide); omega)
            refine lv_aload_n hx hb dX12_weekOf_22 rfl (lv_at hl 0 rfl) ?_
            refine sg_get (ci := 12) (v := .ref (h 13)) (C := RX12) (T := TX12) (N := 55) hx hb hts (fun w h => List.mem_cons_of_mem _ (gx_12 w h)) hown hK hP 0 (by decide) rfl rfl 28 (by decide) (hts _ (List.mem_cons_of_mem _ mw_717)) (fun _ h9 => h9) rfl dX12_weekOf_23 ?_
            refine lv_iconst (v := 3) hx hb dX12_weekOf_26 (by decide) ?_
            refine lv_iload_n hx hb dX12_weekOf_27 rfl (lv_at hl 2 rfl) ?_
            refine lv_imul hx hb dX12_weekOf_28 ?_
            refine lv_topi (fun v_37 ev_37 => ?_)
            have q_38 : v_37.toInt = 3 * y2_17.toInt := by rw [ev_37]; exact bn_mulJ (by decide) (by omega) (by omega)
            refine lv_iload_n hx hb dX12_weekOf_29 rfl (lv_at hl 3 rfl) ?_
            refine lv_iadd hx hb dX12_weekOf_30 ?_
            refine lv_topi (fun v_39 ev_39 => ?_)
            have q_40 : v_39.toInt = v_37.toInt + y3_17.toInt := by rw [ev_39]; exact (bn_addI (by omega) (by omega)).trans (by omega)
            refine lv_aload_n hx hb dX12_weekOf_31 rfl (lv_at hl 0 rfl) ?_
            refine sg_get (ci := 12) (v := .ref (h 12)) (C := RX12) (T := TX12) (N := 55) hx hb hts (fun w h => List.mem_cons_of_mem _ (gx_12 w h)) hown hK hP 0 (by decide) rfl rfl 27 (by decide) (hts _ (List.mem_cons_of_mem _ mw_705)) (fun _ h9 => h9) rfl dX12_weekOf_32 ?_
            refine lv_iload_n hx hb dX12_weekOf_35 rfl (lv_at hl 3 rfl) ?_
            refine sg_iald hx hb hK hP 12 (by decide) 0 rfl rfl (i := y3_17) (vp_in_iff.mpr ⟨by omega, by omega⟩) dX12_weekOf_36 ?_
            refine lv_topi (fun v_41 ev_41 => ?_)
            have q_42 : 0 ≤ v_41.toInt ∧ v_41.toInt ≤ 60 := by rw [ev_41]; exact hI 12 _
            refine sg_iast hx hb hh hA hK hP hS 13 (by decide) 0 (fun _ => rfl) rfl (i := v_39) (x := v_41) (vp_in_iff.mpr ⟨by omega, by omega⟩) dX12_weekOf_37 (fun f_43 H locs ef_43 hP hS => ?_)
            have hI : sgI loM hiM f_43 := by rw [ef_43]; exact sgI.put hI 13 v_39.toNatClampNeg (show 0 ≤ (v_41 : Int32).toInt ∧ (v_41 : Int32).toInt ≤ 60 from by omega)
            have hF : sgK WkX12_weekOf f f_43 := sgK.put hF ef_43 (by rfl)
            obtain ⟨v_44, ev_44⟩ : ∃ z : Int32, z = y3_17 + 1 := ⟨_, rfl⟩
            have q_45 : v_44.toInt = y3_17.toInt + 1 := by rw [ev_44]; exact (bn_addc y3_17 1 (by decide) (by omega) (by omega))
            refine lv_iinc (v := v_44) (lv' := [(3, .int v_44), (0, .ref (h 0)), (1, .int x0), (2, .int y2_17)]) hx hb dX12_weekOf_38 hl (k := 3) rfl (by rw [ev_44]; rfl) (by decide) rfl (fun ls hl => ?_)
            refine lv_goto (tgt := 17) hx hb dX12_weekOf_41 (by decide) ?_
            exact ih_17 y2_17 v_44 f_43 _ _ _ (by omega) (by omega) (by omega) (by omega) hI hF hP hS (lv_sub hl [1, 2, 3, 0] rfl)
      intro y2_6 fp_6 H locs ls hm_6 hy0_6 hI hF hP hS hl
      refine lv_iload_n hx hb dX12_weekOf_6 rfl (lv_at hl 2 rfl) ?_
      refine lv_aload_n hx hb dX12_weekOf_7 rfl (lv_at hl 0 rfl) ?_
      refine lv_iload_n hx hb dX12_weekOf_8 rfl (lv_at hl 1 rfl) ?_
      refine sg_calli (va_runV (As := [.int x0]) (rest := [.int y2_6]) ⟨hx, hb, hml, hown, hts⟩ (kX12_shiftsOf l D ca za h hh fp_6 L Q hI x0 (by omega) H.size) (cwV 1 hts (gw_V (fun _ h => List.mem_cons_of_mem _ h) mw_714 mw_715 mw_716 mw_619 mw_713) rfl rfl rfl (by decide +kernel) ⟨Nat.le_of_ble_eq_true rfl, Nat.le_of_ble_eq_true rfl⟩) (sg_preV (ci := 12) (C := RX12) (T := TX12) (N := 55) hA hK hP hS hZ 0 (by decide) rfl rfl) rfl rfl hl.1 rfl (lv_room (Nat.le_of_ble_eq_true rfl)) dX12_weekOf_9 ⟨Nat.le_refl _, Nat.le_refl _⟩) hA hS (fun r_49 f_46 L_47 Q_48 H locs hq hP hS => ?_)
      obtain ⟨⟨ef9, eL9, eQ9⟩, hq⟩ := hq
      rw [ef9, eL9, eQ9] at hP; clear ef9 eL9 eQ9
      refine lv_icmp_ge (tgt := 130) hx hb dX12_weekOf_12 (by decide) (fun c => ?_) (fun c => ?_)
      · skip
        have c_50 : r_49.toInt ≤ y2_6.toInt := (by have z := bn_le c; omega)
        refine lv_aload_n hx hb dX12_weekOf_130 rfl (lv_at hl 0 rfl) ?_
        refine sg_get (ci := 12) (v := .int (fp_6 0 31)) (C := RX12) (T := TX12) (N := 55) hx hb hts (fun w h => List.mem_cons_of_mem _ (gx_12 w h)) hown hK hP 0 (by decide) rfl rfl 31 (by decide) (hts _ (List.mem_cons_of_mem _ mw_708)) (fun _ h9 => h9) rfl dX12_weekOf_131 ?_
        refine lv_topi (fun v_52 ev_52 => ?_)
        refine lv_aload_n hx hb dX12_weekOf_134 rfl (lv_at hl 0 rfl) ?_
        refine sg_get (ci := 12) (v := .int (fp_6 0 30)) (C := RX12) (T := TX12) (N := 55) hx hb hts (fun w h => List.mem_cons_of_mem _ (gx_12 w h)) hown hK hP 0 (by decide) rfl rfl 30 (by decide) (hts _ (List.mem_cons_of_mem _ mw_707)) (fun _ h9 => h9) rfl dX12_weekOf_135 ?_
        refine lv_topi (fun v_53 ev_53 => ?_)
        refine lv_iadd hx hb dX12_weekOf_138 ?_
        refine lv_topi (fun v_54 ev_54 => ?_)
        exact hret _ _ _ _ (v_54) fp_6 L Q dX12_weekOf_139 hP hS ⟨⟨hI, hF, rfl, rfl⟩, trivial⟩
      · skip
        have c_51 : y2_6.toInt < r_49.toInt := (by have z := bn_nle c; omega)
        refine lv_iconst (v := 0) hx hb dX12_weekOf_15 (by decide) ?_
        refine lv_istore_n (lv' := [(3, .int 0), (0, .ref (h 0)), (1, .int x0), (2, .int y2_6)]) hx hb dX12_weekOf_16 rfl hl (by decide) rfl (fun ls hl => ?_)
        exact loop_17 4 y2_6 0 fp_6 _ _ _ (by have kc1 : (0 : Int32).toInt = 0 := (by decide); omega) (by have kc1 : (0 : Int32).toInt = 0 := (by decide); omega) (by omega) (by decide) hI hF hP hS (lv_sub hl [1, 2, 3, 0] rfl)
  refine lv_aload_n hx hb dX12_weekOf_0 rfl (lv_at hl 0 rfl) ?_
  refine sg_callv (va_runV (As := []) (rest := []) ⟨hx, hb, hml, hown, hts⟩ (kX12_beginsWeek l D ca za h hh f L Q hI H.size) (cwV 0 hts (gw_V (fun _ h => List.mem_cons_of_mem _ h) mw_710 mw_711 mw_712 mw_619 mw_709) rfl rfl rfl (by decide +kernel) ⟨Nat.le_of_ble_eq_true rfl, Nat.le_of_ble_eq_true rfl⟩) (sg_preV (ci := 12) (C := RX12) (T := TX12) (N := 55) hA hK hP hS hZ 0 (by decide) rfl rfl) rfl rfl hl.1 rfl (lv_room (Nat.le_of_ble_eq_true rfl)) dX12_weekOf_1 ⟨Nat.le_refl _, Nat.le_refl _⟩) hA hS (fun f_55 L_56 Q_57 H locs hq hP hS => ?_)
  obtain ⟨hI, hk_f_55, eL9, eQ9⟩ := hq
  rw [eL9, eQ9] at hP; clear eL9 eQ9
  have hF : sgK WkX12_weekOf f f_55 := sgK.tr hF hk_f_55 (by decide)
  refine lv_iconst (v := 0) hx hb dX12_weekOf_4 (by decide) ?_
  refine lv_istore_n (lv' := [(2, .int 0), (0, .ref (h 0)), (1, .int x0)]) hx hb dX12_weekOf_5 rfl hl (by decide) rfl (fun ls hl => ?_)
  exact loop_6 22 0 f_55 _ _ _ (by have kc0 : (0 : Int32).toInt = 0 := (by decide); omega) (by decide) hI hF hP hS (lv_sub hl [1, 2, 0] rfl)

abbrev WkX12_week : List (Nat × Nat × Option Nat) := [(0, 0, some 12), (0, 0, some 13), (0, 0, some 14), (0, 0, some 15), (0, 0, some 16), (0, 0, some 29), (0, 0, some 30), (0, 0, some 31), (8, 8, none), (12, 12, none), (13, 13, none)]
set_option maxHeartbeats 4000000 in
set_option maxRecDepth 100000 in
theorem kX12_week (l : Launch) (D : va_G) (ca : Nat → ClassId) (za h : Nat → Nat) (hh : sgH 26 h) (f : sg_F) (L : sg_L) (Q : sg_Q) (hI : sgI loM hiM f) (x0 : Int32) (x1 : Int32) (sz : Nat) : Met l yX12_week gwX12_week { frames := 47, cells := 0, slots := 0, locals := 1079 } (sgP D vwCl (tyX ca) 26 h (eM ca h) zcM za f L Q sz [.ref (h 0), .int x0, .int x1]) (sgQi D vwCl 26 h (eM ca h) sz (fun r f1 L1 Q1 => ((sgI loM hiM f1 ∧ sgK WkX12_week f f1 ∧ L1 = L ∧ Q1 = Q) ∧ True))) 0 0 (sgA 26 h sz) := by
  refine sg_ofWi (cc := cX12_week) (maxL := 4) RX12 (by decide) rfl rfl (Nat.le_of_ble_eq_true rfl) ?_
  intro p e s m below meth cd Qz ls hx hb hml hown hts hK hZ hP hS hl hret
  have hA := sgY.self (n := 26) (h := h) (sz := s.heap.size)
  have hl : lv_has ls 4 [(0, .ref (h 0)), (1, .int x0), (2, .int x1)] := hl
  obtain ⟨H, hH⟩ : ∃ z : Heap, z = s.heap := ⟨_, rfl⟩
  obtain ⟨locs, hlo⟩ : ∃ z : List Loc, z = [] := ⟨_, rfl⟩
  have hP : va_P D vwCl (sgw 26 h (eM ca h) f L Q) H := by rw [hH]; exact hP
  have hS : va_S (sgA 26 h s.heap.size) s.heap H locs := by rw [hH, hlo]; exact hS
  suffices hgo : W p l e ({ frames := 47, cells := 0, slots := 0, locals := 1079 }) s m ([.ref (h 0), .int x0, .int x1] : List Value).toArray below meth cd H locs 0 0 Qz (F0 m 0 ls []) by rw [hH, hlo] at hgo; exact hgo
  clear hH hlo
  have hF : sgK WkX12_week f f := sgK.rf
  refine lv_aload_n hx hb dX12_week_0 rfl (lv_at hl 0 rfl) ?_
  refine lv_iload_n hx hb dX12_week_1 rfl (lv_at hl 1 rfl) ?_
  refine sg_calli (va_runV (As := [.int x0]) (rest := []) ⟨hx, hb, hml, hown, hts⟩ (kX12_bytesIs l D ca za h hh f L Q hI x0 H.size) (cwV 1 hts (gw_V (fun _ h => List.mem_cons_of_mem _ h) mw_685 mw_686 mw_687 mw_619 mw_684) rfl rfl rfl (by decide +kernel) ⟨Nat.le_of_ble_eq_true rfl, Nat.le_of_ble_eq_true rfl⟩) (sg_preV (ci := 12) (C := RX12) (T := TX12) (N := 55) hA hK hP hS hZ 0 (by decide) rfl rfl) rfl rfl hl.1 rfl (lv_room (Nat.le_of_ble_eq_true rfl)) dX12_week_2 ⟨Nat.le_refl _, Nat.le_refl _⟩) hA hS (fun r_4 f_1 L_2 Q_3 H locs hq hP hS => ?_)
  obtain ⟨⟨ef9, eL9, eQ9⟩, hq⟩ := hq
  rw [ef9, eL9, eQ9] at hP; clear ef9 eL9 eQ9
  rcases hq with ⟨rfl, hq⟩ | hq | ⟨rfl, hq⟩
  · skip
    have q_5 := hq
    refine lv_iconst (v := (-1)) hx hb dX12_week_5 (by decide) ?_
    refine lv_icmp_eq (tgt := 21) hx hb dX12_week_6 (by decide) (fun c => absurd c (by decide)) (fun c => ?_)
    refine lv_iload_n hx hb dX12_week_9 rfl (lv_at hl 2 rfl) ?_
    obtain ⟨w_6, ew_6⟩ : ∃ z : Int64, z = Int32.toInt64 x1 := ⟨_, rfl⟩
    have q_7 : w_6.toInt = x1.toInt := by rw [ew_6]; exact Int32.toInt_toInt64 _
    refine lv_i2l (v := w_6) hx hb dX12_week_10 ew_6.symm ?_
    refine lv_lconst (v := 0) hx hb dX12_week_11 (by decide) ?_
    refine lv_ldc2 (v := 2) hx hb hown (hts _ (List.mem_cons_of_mem _ mw_629)) dX12_week_12 ?_
    refine sg_calli (va_runS (As := [.long w_6, .long 0, .long 2]) (rest := []) ⟨hx, hb, hml, hown, hts⟩ (kX12_within l D ca za h hh f L Q hI w_6 0 2 H.size) (va_cwS 3 hts (gw_S (fun _ h => List.mem_cons_of_mem _ h) mw_631 mw_632 mw_619 mw_630) rfl rfl rfl (by decide +kernel) ⟨Nat.le_of_ble_eq_true rfl, Nat.le_of_ble_eq_true rfl⟩) (sg_preS hA hK hP hS hZ) rfl rfl hl.1 rfl (lv_room (Nat.le_of_ble_eq_true rfl)) dX12_week_15 ⟨Nat.le_refl _, Nat.le_refl _⟩) hA hS (fun r_11 f_8 L_9 Q_10 H locs hq hP hS => ?_)
    obtain ⟨⟨ef9, eL9, eQ9⟩, hq⟩ := hq
    rw [ef9, eL9, eQ9] at hP; clear ef9 eL9 eQ9
    have k_12 : (0 : Int64).toInt = 0 := by decide
    have k_13 : (2 : Int64).toInt = 2 := by decide
    rcases hq with ⟨rfl, hq⟩ | ⟨rfl, hq⟩
    · skip
      have q_14 := hq
      refine lv_if_ne (tgt := 23) hx hb dX12_week_18 (by decide) (fun c => ?_) (fun c => absurd c (by decide))
      refine lv_aload_n hx hb dX12_week_23 rfl (lv_at hl 0 rfl) ?_
      refine lv_iload_n hx hb dX12_week_24 rfl (lv_at hl 1 rfl) ?_
      refine sg_calli (va_runV (As := [.int x0]) (rest := []) ⟨hx, hb, hml, hown, hts⟩ (kX12_bytesIs l D ca za h hh f L Q hI x0 H.size) (cwV 1 hts (gw_V (fun _ h => List.mem_cons_of_mem _ h) mw_685 mw_686 mw_687 mw_619 mw_684) rfl rfl rfl (by decide +kernel) ⟨Nat.le_of_ble_eq_true rfl, Nat.le_of_ble_eq_true rfl⟩) (sg_preV (ci := 12) (C := RX12) (T := TX12) (N := 55) hA hK hP hS hZ 0 (by decide) rfl rfl) rfl rfl hl.1 rfl (lv_room (Nat.le_of_ble_eq_true rfl)) dX12_week_25 ⟨Nat.le_refl _, Nat.le_refl _⟩) hA hS (fun r_18 f_15 L_16 Q_17 H locs hq hP hS => ?_)
      obtain ⟨⟨ef9, eL9, eQ9⟩, hq⟩ := hq
      rw [ef9, eL9, eQ9] at hP; clear ef9 eL9 eQ9
      rcases hq with ⟨rfl, hq⟩ | hq | ⟨rfl, hq⟩
      · skip
        have q_19 := hq
        refine lv_if_ge (tgt := 37) hx hb dX12_week_28 (by decide) (fun c => ?_) (fun c => absurd c (by decide))
        refine lv_aload_n hx hb dX12_week_37 rfl (lv_at hl 0 rfl) ?_
        refine lv_iload_n hx hb dX12_week_38 rfl (lv_at hl 1 rfl) ?_
        refine sg_calli (va_runV (As := [.int x0]) (rest := []) ⟨hx, hb, hml, hown, hts⟩ (kX12_weekOf l D ca za h hh f L Q hI x0 (by omega) H.size) (cwV 1 hts (gw_V (fun _ h => List.mem_cons_of_mem _ h) mw_752 mw_753 mw_754 mw_619 mw_751) rfl rfl rfl (by decide +kernel) ⟨Nat.le_of_ble_eq_true rfl, Nat.le_of_ble_eq_true rfl⟩) (sg_preV (ci := 12) (C := RX12) (T := TX12) (N := 55) hA hK hP hS hZ 0 (by decide) rfl rfl) rfl rfl hl.1 rfl (lv_room (Nat.le_of_ble_eq_true rfl)) dX12_week_39 ⟨Nat.le_refl _, Nat.le_refl _⟩) hA hS (fun r_23 f_20 L_21 Q_22 H locs hq hP hS => ?_)
        obtain ⟨⟨hI, hk_f_20, eL9, eQ9⟩, hq⟩ := hq
        rw [eL9, eQ9] at hP; clear eL9 eQ9
        have hF : sgK WkX12_week f f_20 := sgK.tr hF hk_f_20 (by decide)
        refine lv_istore_n (lv' := [(3, .int r_23), (0, .ref (h 0)), (1, .int x0), (2, .int x1)]) hx hb dX12_week_42 rfl hl (by decide) rfl (fun ls hl => ?_)
        refine lv_iload_n hx hb dX12_week_43 rfl (lv_at hl 3 rfl) ?_
        refine lv_if_ne (tgt := 54) hx hb dX12_week_44 (by decide) (fun c => ?_) (fun c => ?_)
        · skip
          have c_24 : x1.toInt ≠ 0 := (by have z := bn_ne c; have k1 : (0 : Int32).toInt = 0 := (by decide); omega)
          refine lv_iload_n hx hb dX12_week_54 rfl (lv_at hl 3 rfl) ?_
          refine lv_iconst (v := 1) hx hb dX12_week_55 (by decide) ?_
          refine lv_icmp_ne (tgt := 66) hx hb dX12_week_56 (by decide) (fun c => ?_) (fun c => ?_)
          · skip
            have c_26 : x1.toInt ≠ 1 := (by have z := bn_ne c; have k1 : (1 : Int32).toInt = 1 := (by decide); omega)
            refine lv_iload_n hx hb dX12_week_66 rfl (lv_at hl 0 rfl) ?_
            exact hret _ _ _ _ (r_23) f_20 L Q dX12_week_67 hP hS ⟨⟨hI, hF, rfl, rfl⟩, trivial⟩
          · skip
            have c_27 : x1.toInt = 1 := (by have z := Int32.toInt_inj.mpr c; have k1 : (1 : Int32).toInt = 1 := (by decide); omega)
            refine lv_aload_n hx hb dX12_week_59 rfl (lv_at hl 1 rfl) ?_
            refine sg_get (ci := 12) (v := .int (f_20 0 30)) (C := RX12) (T := TX12) (N := 55) hx hb hts (fun w h => List.mem_cons_of_mem _ (gx_12 w h)) hown hK hP 0 (by decide) rfl rfl 30 (by decide) (hts _ (List.mem_cons_of_mem _ mw_707)) (fun _ h9 => h9) rfl dX12_week_60 ?_
            refine lv_topi (fun v_28 ev_28 => ?_)
            refine lv_goto (tgt := 67) hx hb dX12_week_63 (by decide) ?_
            exact hret _ _ _ _ (v_28) f_20 L Q dX12_week_67 hP hS ⟨⟨hI, hF, rfl, rfl⟩, trivial⟩
        · skip
          have c_25 : x1.toInt = 0 := (by have z := Int32.toInt_inj.mpr c; have k1 : (0 : Int32).toInt = 0 := (by decide); omega)
          refine lv_aload_n hx hb dX12_week_47 rfl (lv_at hl 1 rfl) ?_
          refine sg_get (ci := 12) (v := .int (f_20 0 29)) (C := RX12) (T := TX12) (N := 55) hx hb hts (fun w h => List.mem_cons_of_mem _ (gx_12 w h)) hown hK hP 0 (by decide) rfl rfl 29 (by decide) (hts _ (List.mem_cons_of_mem _ mw_706)) (fun _ h9 => h9) rfl dX12_week_48 ?_
          refine lv_topi (fun v_29 ev_29 => ?_)
          refine lv_goto (tgt := 67) hx hb dX12_week_51 (by decide) ?_
          exact hret _ _ _ _ (v_29) f_20 L Q dX12_week_67 hP hS ⟨⟨hI, hF, rfl, rfl⟩, trivial⟩
      · skip
        have q_30 := hq
        refine lv_if_ge (tgt := 37) hx hb dX12_week_28 (by decide) (fun c => ?_) (fun c => ?_)
        · skip
          exfalso; have c_31 : 0 ≤ r_18.toInt := (by have z := bn_le c; have k1 : (0 : Int32).toInt = 0 := (by decide); omega); omega
        · skip
          have c_32 : r_18.toInt < 0 := (by have z := bn_nle c; have k1 : (0 : Int32).toInt = 0 := (by decide); omega)
          refine lv_aload_n hx hb dX12_week_31 rfl (lv_at hl 0 rfl) ?_
          refine lv_iload_n hx hb dX12_week_32 rfl (lv_at hl 1 rfl) ?_
          refine sg_calli (va_runV (As := [.int x0]) (rest := []) ⟨hx, hb, hml, hown, hts⟩ (kX12_bytesIs l D ca za h hh f L Q hI x0 H.size) (cwV 1 hts (gw_V (fun _ h => List.mem_cons_of_mem _ h) mw_685 mw_686 mw_687 mw_619 mw_684) rfl rfl rfl (by decide +kernel) ⟨Nat.le_of_ble_eq_true rfl, Nat.le_of_ble_eq_true rfl⟩) (sg_preV (ci := 12) (C := RX12) (T := TX12) (N := 55) hA hK hP hS hZ 0 (by decide) rfl rfl) rfl rfl hl.1 rfl (lv_room (Nat.le_of_ble_eq_true rfl)) dX12_week_33 ⟨Nat.le_refl _, Nat.le_refl _⟩) hA hS (fun r_36 f_33 L_34 Q_35 H locs hq hP hS => ?_)
          obtain ⟨⟨ef9, eL9, eQ9⟩, hq⟩ := hq
          rw [ef9, eL9, eQ9] at hP; clear ef9 eL9 eQ9
          rcases hq with ⟨rfl, hq⟩ | hq | ⟨rfl, hq⟩
          · skip
            have q_37 := hq
            have k99 : (1 : Int32).toInt = 1 := (by decide)
            exact hret _ _ _ _ (1) f L Q dX12_week_36 hP hS ⟨⟨hI, hF, rfl, rfl⟩, trivial⟩
          · skip
            have q_38 := hq
            exact hret _ _ _ _ (r_36) f L Q dX12_week_36 hP hS ⟨⟨hI, hF, rfl, rfl⟩, trivial⟩
          · skip
            have q_39 := hq
            have k99 : ((-1) : Int32).toInt = (-1) := (by decide)
            exact hret _ _ _ _ (-1) f L Q dX12_week_36 hP hS ⟨⟨hI, hF, rfl, rfl⟩, trivial⟩
      · skip
        have q_40 := hq
        refine lv_if_ge (tgt := 37) hx hb dX12_week_28 (by decide) (fun c => absurd c (by decide)) (fun c => ?_)
        refine lv_aload_n hx hb dX12_week_31 rfl (lv_at hl 0 rfl) ?_
        refine lv_iload_n hx hb dX12_week_32 rfl (lv_at hl 1 rfl) ?_
        refine sg_calli (va_runV (As := [.int x0]) (rest := []) ⟨hx, hb, hml, hown, hts⟩ (kX12_bytesIs l D ca za h hh f L Q hI x0 H.size) (cwV 1 hts (gw_V (fun _ h => List.mem_cons_of_mem _ h) mw_685 mw_686 mw_687 mw_619 mw_684) rfl rfl rfl (by decide +kernel) ⟨Nat.le_of_ble_eq_true rfl, Nat.le_of_ble_eq_true rfl⟩) (sg_preV (ci := 12) (C := RX12) (T := TX12) (N := 55) hA hK hP hS hZ 0 (by decide) rfl rfl) rfl rfl hl.1 rfl (lv_room (Nat.le_of_ble_eq_true rfl)) dX12_week_33 ⟨Nat.le_refl _, Nat.le_refl _⟩) hA hS (fun r_44 f_41 L_42 Q_43 H locs hq hP hS => ?_)
        obtain ⟨⟨ef9, eL9, eQ9⟩, hq⟩ := hq
        rw [ef9, eL9, eQ9] at hP; clear ef9 eL9 eQ9
        rcases hq with ⟨rfl, hq⟩ | hq | ⟨rfl, hq⟩
        · skip
          have q_45 := hq
          have k99 : (1 : Int32).toInt = 1 := (by decide)
          exact hret _ _ _ _ (1) f L Q dX12_week_36 hP hS ⟨⟨hI, hF, rfl, rfl⟩, trivial⟩
        · skip
          have q_46 := hq
          exact hret _ _ _ _ (r_44) f L Q dX12_week_36 hP hS ⟨⟨hI, hF, rfl, rfl⟩, trivial⟩
        · skip
          have q_47 := hq
          have k99 : ((-1) : Int32).toInt = (-1) := (by decide)
          exact hret _ _ _ _ (-1) f L Q dX12_week_36 hP hS ⟨⟨hI, hF, rfl, rfl⟩, trivial⟩
    · skip
      have q_48 := hq
      refine lv_if_ne (tgt := 23) hx hb dX12_week_18 (by decide) (fun c => absurd c (by decide)) (fun c => ?_)
      refine lv_iconst (v := (-1)) hx hb dX12_week_21 (by decide) ?_
      have k99 : ((-1) : Int32).toInt = (-1) := (by decide)
      exact hret _ _ _ _ (-1) f L Q dX12_week_22 hP hS ⟨⟨hI, hF, rfl, rfl⟩, trivial⟩
  · skip
    have q_49 := hq
    refine lv_iconst (v := (-1)) hx hb dX12_week_5 (by decide) ?_
    refine lv_icmp_eq (tgt := 21) hx hb dX12_week_6 (by decide) (fun c => ?_) (fun c => ?_)
    · skip
      exfalso; have c_50 : r_4.toInt = (-1) := (by have z := Int32.toInt_inj.mpr c; have k1 : ((-1) : Int32).toInt = (-1) := (by decide); omega); omega
    · skip
      have c_51 : r_4.toInt ≠ (-1) := (by have z := bn_ne c; have k1 : ((-1) : Int32).toInt = (-1) := (by decide); omega)
      refine lv_iload_n hx hb dX12_week_9 rfl (lv_at hl 2 rfl) ?_
      obtain ⟨w_52, ew_52⟩ : ∃ z : Int64, z = Int32.toInt64 x1 := ⟨_, rfl⟩
      have q_53 : w_52.toInt = x1.toInt := by rw [ew_52]; exact Int32.toInt_toInt64 _
      refine lv_i2l (v := w_52) hx hb dX12_week_10 ew_52.symm ?_
      refine lv_lconst (v := 0) hx hb dX12_week_11 (by decide) ?_
      refine lv_ldc2 (v := 2) hx hb hown (hts _ (List.mem_cons_of_mem _ mw_629)) dX12_week_12 ?_
      refine sg_calli (va_runS (As := [.long w_52, .long 0, .long 2]) (rest := []) ⟨hx, hb, hml, hown, hts⟩ (kX12_within l D ca za h hh f L Q hI w_52 0 2 H.size) (va_cwS 3 hts (gw_S (fun _ h => List.mem_cons_of_mem _ h) mw_631 mw_632 mw_619 mw_630) rfl rfl rfl (by decide +kernel) ⟨Nat.le_of_ble_eq_true rfl, Nat.le_of_ble_eq_true rfl⟩) (sg_preS hA hK hP hS hZ) rfl rfl hl.1 rfl (lv_room (Nat.le_of_ble_eq_true rfl)) dX12_week_15 ⟨Nat.le_refl _, Nat.le_refl _⟩) hA hS (fun r_57 f_54 L_55 Q_56 H locs hq hP hS => ?_)
      obtain ⟨⟨ef9, eL9, eQ9⟩, hq⟩ := hq
      rw [ef9, eL9, eQ9] at hP; clear ef9 eL9 eQ9
      have k_58 : (0 : Int64).toInt = 0 := by decide
      have k_59 : (2 : Int64).toInt = 2 := by decide
      rcases hq with ⟨rfl, hq⟩ | ⟨rfl, hq⟩
      · skip
        have q_60 := hq
        refine lv_if_ne (tgt := 23) hx hb dX12_week_18 (by decide) (fun c => ?_) (fun c => absurd c (by decide))
        refine lv_aload_n hx hb dX12_week_23 rfl (lv_at hl 0 rfl) ?_
        refine lv_iload_n hx hb dX12_week_24 rfl (lv_at hl 1 rfl) ?_
        refine sg_calli (va_runV (As := [.int x0]) (rest := []) ⟨hx, hb, hml, hown, hts⟩ (kX12_bytesIs l D ca za h hh f L Q hI x0 H.size) (cwV 1 hts (gw_V (fun _ h => List.mem_cons_of_mem _ h) mw_685 mw_686 mw_687 mw_619 mw_684) rfl rfl rfl (by decide +kernel) ⟨Nat.le_of_ble_eq_true rfl, Nat.le_of_ble_eq_true rfl⟩) (sg_preV (ci := 12) (C := RX12) (T := TX12) (N := 55) hA hK hP hS hZ 0 (by decide) rfl rfl) rfl rfl hl.1 rfl (lv_room (Nat.le_of_ble_eq_true rfl)) dX12_week_25 ⟨Nat.le_refl _, Nat.le_refl _⟩) hA hS (fun r_64 f_61 L_62 Q_63 H locs hq hP hS => ?_)
        obtain ⟨⟨ef9, eL9, eQ9⟩, hq⟩ := hq
        rw [ef9, eL9, eQ9] at hP; clear ef9 eL9 eQ9
        rcases hq with ⟨rfl, hq⟩ | hq | ⟨rfl, hq⟩
        · skip
          have q_65 := hq
          refine lv_if_ge (tgt := 37) hx hb dX12_week_28 (by decide) (fun c => ?_) (fun c => absurd c (by decide))
          refine lv_aload_n hx hb dX12_week_37 rfl (lv_at hl 0 rfl) ?_
          refine lv_iload_n hx hb dX12_week_38 rfl (lv_at hl 1 rfl) ?_
          refine sg_calli (va_runV (As := [.int x0]) (rest := []) ⟨hx, hb, hml, hown, hts⟩ (kX12_weekOf l D ca za h hh f L Q hI x0 (by omega) H.size) (cwV 1 hts (gw_V (fun _ h => List.mem_cons_of_mem _ h) mw_752 mw_753 mw_754 mw_619 mw_751) rfl rfl rfl (by decide +kernel) ⟨Nat.le_of_ble_eq_true rfl, Nat.le_of_ble_eq_true rfl⟩) (sg_preV (ci := 12) (C := RX12) (T := TX12) (N := 55) hA hK hP hS hZ 0 (by decide) rfl rfl) rfl rfl hl.1 rfl (lv_room (Nat.le_of_ble_eq_true rfl)) dX12_week_39 ⟨Nat.le_refl _, Nat.le_refl _⟩) hA hS (fun r_69 f_66 L_67 Q_68 H locs hq hP hS => ?_)
          obtain ⟨⟨hI, hk_f_66, eL9, eQ9⟩, hq⟩ := hq
          rw [eL9, eQ9] at hP; clear eL9 eQ9
          have hF : sgK WkX12_week f f_66 := sgK.tr hF hk_f_66 (by decide)
          refine lv_istore_n (lv' := [(3, .int r_69), (0, .ref (h 0)), (1, .int x0), (2, .int x1)]) hx hb dX12_week_42 rfl hl (by decide) rfl (fun ls hl => ?_)
          refine lv_iload_n hx hb dX12_week_43 rfl (lv_at hl 3 rfl) ?_
          refine lv_if_ne (tgt := 54) hx hb dX12_week_44 (by decide) (fun c => ?_) (fun c => ?_)
          · skip
            have c_70 : x1.toInt ≠ 0 := (by have z := bn_ne c; have k1 : (0 : Int32).toInt = 0 := (by decide); omega)
            refine lv_iload_n hx hb dX12_week_54 rfl (lv_at hl 3 rfl) ?_
            refine lv_iconst (v := 1) hx hb dX12_week_55 (by decide) ?_
            refine lv_icmp_ne (tgt := 66) hx hb dX12_week_56 (by decide) (fun c => ?_) (fun c => ?_)
            · skip
              have c_72 : x1.toInt ≠ 1 := (by have z := bn_ne c; have k1 : (1 : Int32).toInt = 1 := (by decide); omega)
              refine lv_iload_n hx hb dX12_week_66 rfl (lv_at hl 0 rfl) ?_
              exact hret _ _ _ _ (r_69) f_66 L Q dX12_week_67 hP hS ⟨⟨hI, hF, rfl, rfl⟩, trivial⟩
            · skip
              have c_73 : x1.toInt = 1 := (by have z := Int32.toInt_inj.mpr c; have k1 : (1 : Int32).toInt = 1 := (by decide); omega)
              refine lv_aload_n hx hb dX12_week_59 rfl (lv_at hl 1 rfl) ?_
              refine sg_get (ci := 12) (v := .int (f_66 0 30)) (C := RX12) (T := TX12) (N := 55) hx hb hts (fun w h => List.mem_cons_of_mem _ (gx_12 w h)) hown hK hP 0 (by decide) rfl rfl 30 (by decide) (hts _ (List.mem_cons_of_mem _ mw_707)) (fun _ h9 => h9) rfl dX12_week_60 ?_
              refine lv_topi (fun v_74 ev_74 => ?_)
              refine lv_goto (tgt := 67) hx hb dX12_week_63 (by decide) ?_
              exact hret _ _ _ _ (v_74) f_66 L Q dX12_week_67 hP hS ⟨⟨hI, hF, rfl, rfl⟩, trivial⟩
          · skip
            have c_71 : x1.toInt = 0 := (by have z := Int32.toInt_inj.mpr c; have k1 : (0 : Int32).toInt = 0 := (by decide); omega)
            refine lv_aload_n hx hb dX12_week_47 rfl (lv_at hl 1 rfl) ?_
            refine sg_get (ci := 12) (v := .int (f_66 0 29)) (C := RX12) (T := TX12) (N := 55) hx hb hts (fun w h => List.mem_cons_of_mem _ (gx_12 w h)) hown hK hP 0 (by decide) rfl rfl 29 (by decide) (hts _ (List.mem_cons_of_mem _ mw_706)) (fun _ h9 => h9) rfl dX12_week_48 ?_
            refine lv_topi (fun v_75 ev_75 => ?_)
            refine lv_goto (tgt := 67) hx hb dX12_week_51 (by decide) ?_
            exact hret _ _ _ _ (v_75) f_66 L Q dX12_week_67 hP hS ⟨⟨hI, hF, rfl, rfl⟩, trivial⟩
        · skip
          have q_76 := hq
          refine lv_if_ge (tgt := 37) hx hb dX12_week_28 (by decide) (fun c => ?_) (fun c => ?_)
          · skip
            exfalso; have c_77 : 0 ≤ r_64.toInt := (by have z := bn_le c; have k1 : (0 : Int32).toInt = 0 := (by decide); omega); omega
          · skip
            have c_78 : r_64.toInt < 0 := (by have z := bn_nle c; have k1 : (0 : Int32).toInt = 0 := (by decide); omega)
            refine lv_aload_n hx hb dX12_week_31 rfl (lv_at hl 0 rfl) ?_
            refine lv_iload_n hx hb dX12_week_32 rfl (lv_at hl 1 rfl) ?_
            refine sg_calli (va_runV (As := [.int x0]) (rest := []) ⟨hx, hb, hml, hown, hts⟩ (kX12_bytesIs l D ca za h hh f L Q hI x0 H.size) (cwV 1 hts (gw_V (fun _ h => List.mem_cons_of_mem _ h) mw_685 mw_686 mw_687 mw_619 mw_684) rfl rfl rfl (by decide +kernel) ⟨Nat.le_of_ble_eq_true rfl, Nat.le_of_ble_eq_true rfl⟩) (sg_preV (ci := 12) (C := RX12) (T := TX12) (N := 55) hA hK hP hS hZ 0 (by decide) rfl rfl) rfl rfl hl.1 rfl (lv_room (Nat.le_of_ble_eq_true rfl)) dX12_week_33 ⟨Nat.le_refl _, Nat.le_refl _⟩) hA hS (fun r_82 f_79 L_80 Q_81 H locs hq hP hS => ?_)
            obtain ⟨⟨ef9, eL9, eQ9⟩, hq⟩ := hq
            rw [ef9, eL9, eQ9] at hP; clear ef9 eL9 eQ9
            rcases hq with ⟨rfl, hq⟩ | hq | ⟨rfl, hq⟩
            · skip
              have q_83 := hq
              have k99 : (1 : Int32).toInt = 1 := (by decide)
              exact hret _ _ _ _ (1) f L Q dX12_week_36 hP hS ⟨⟨hI, hF, rfl, rfl⟩, trivial⟩
            · skip
              have q_84 := hq
              exact hret _ _ _ _ (r_82) f L Q dX12_week_36 hP hS ⟨⟨hI, hF, rfl, rfl⟩, trivial⟩
            · skip
              have q_85 := hq
              have k99 : ((-1) : Int32).toInt = (-1) := (by decide)
              exact hret _ _ _ _ (-1) f L Q dX12_week_36 hP hS ⟨⟨hI, hF, rfl, rfl⟩, trivial⟩
        · skip
          have q_86 := hq
          refine lv_if_ge (tgt := 37) hx hb dX12_week_28 (by decide) (fun c => absurd c (by decide)) (fun c => ?_)
          refine lv_aload_n hx hb dX12_week_31 rfl (lv_at hl 0 rfl) ?_
          refine lv_iload_n hx hb dX12_week_32 rfl (lv_at hl 1 rfl) ?_
          refine sg_calli (va_runV (As := [.int x0]) (rest := []) ⟨hx, hb, hml, hown, hts⟩ (kX12_bytesIs l D ca za h hh f L Q hI x0 H.size) (cwV 1 hts (gw_V (fun _ h => List.mem_cons_of_mem _ h) mw_685 mw_686 mw_687 mw_619 mw_684) rfl rfl rfl (by decide +kernel) ⟨Nat.le_of_ble_eq_true rfl, Nat.le_of_ble_eq_true rfl⟩) (sg_preV (ci := 12) (C := RX12) (T := TX12) (N := 55) hA hK hP hS hZ 0 (by decide) rfl rfl) rfl rfl hl.1 rfl (lv_room (Nat.le_of_ble_eq_true rfl)) dX12_week_33 ⟨Nat.le_refl _, Nat.le_refl _⟩) hA hS (fun r_90 f_87 L_88 Q_89 H locs hq hP hS => ?_)
          obtain ⟨⟨ef9, eL9, eQ9⟩, hq⟩ := hq
          rw [ef9, eL9, eQ9] at hP; clear ef9 eL9 eQ9
          rcases hq with ⟨rfl, hq⟩ | hq | ⟨rfl, hq⟩
          · skip
            have q_91 := hq
            have k99 : (1 : Int32).toInt = 1 := (by decide)
            exact hret _ _ _ _ (1) f L Q dX12_week_36 hP hS ⟨⟨hI, hF, rfl, rfl⟩, trivial⟩
          · skip
            have q_92 := hq
            exact hret _ _ _ _ (r_90) f L Q dX12_week_36 hP hS ⟨⟨hI, hF, rfl, rfl⟩, trivial⟩
          · skip
            have q_93 := hq
            have k99 : ((-1) : Int32).toInt = (-1) := (by decide)
            exact hret _ _ _ _ (-1) f L Q dX12_week_36 hP hS ⟨⟨hI, hF, rfl, rfl⟩, trivial⟩
      · skip
        have q_94 := hq
        refine lv_if_ne (tgt := 23) hx hb dX12_week_18 (by decide) (fun c => absurd c (by decide)) (fun c => ?_)
        refine lv_iconst (v := (-1)) hx hb dX12_week_21 (by decide) ?_
        have k99 : ((-1) : Int32).toInt = (-1) := (by decide)
        exact hret _ _ _ _ (-1) f L Q dX12_week_22 hP hS ⟨⟨hI, hF, rfl, rfl⟩, trivial⟩
  · skip
    have q_95 := hq
    refine lv_iconst (v := (-1)) hx hb dX12_week_5 (by decide) ?_
    refine lv_icmp_eq (tgt := 21) hx hb dX12_week_6 (by decide) (fun c => ?_) (fun c => absurd c (by decide))
    refine lv_iconst (v := (-1)) hx hb dX12_week_21 (by decide) ?_
    have k99 : ((-1) : Int32).toInt = (-1) := (by decide)
    exact hret _ _ _ _ (-1) f L Q dX12_week_22 hP hS ⟨⟨hI, hF, rfl, rfl⟩, trivial⟩

abbrev WkX12_stands : List (Nat × Nat × Option Nat) := [(0, 0, some 12), (0, 0, some 13), (0, 0, some 14), (0, 0, some 15), (0, 0, some 16), (0, 0, some 29), (0, 0, some 30), (0, 0, some 31), (8, 8, none), (12, 12, none), (13, 13, none)]
set_option maxHeartbeats 4000000 in
set_option maxRecDepth 100000 in
theorem kX12_stands (l : Launch) (D : va_G) (ca : Nat → ClassId) (za h : Nat → Nat) (hh : sgH 26 h) (f : sg_F) (L : sg_L) (Q : sg_Q) (hI : sgI loM hiM f) (x0 : Int32) (x1 : Int32) (x2 : Int32) (sz : Nat) : Met l yX12_stands gwX12_stands { frames := 47, cells := 0, slots := 0, locals := 1079 } (sgP D vwCl (tyX ca) 26 h (eM ca h) zcM za f L Q sz [.ref (h 0), .int x0, .int x1, .int x2]) (sgQi D vwCl 26 h (eM ca h) sz (fun r f1 L1 Q1 => ((sgI loM hiM f1 ∧ sgK WkX12_stands f f1 ∧ L1 = L ∧ Q1 = Q) ∧ ((-12) ≤ r.toInt ∧ r.toInt ≤ 60)))) 0 0 (sgA 26 h sz) := by
  refine sg_ofWi (cc := cX12_stands) (maxL := 4) RX12 (by decide) rfl rfl (Nat.le_of_ble_eq_true rfl) ?_
  intro p e s m below meth cd Qz ls hx hb hml hown hts hK hZ hP hS hl hret
  have hA := sgY.self (n := 26) (h := h) (sz := s.heap.size)
  have hl : lv_has ls 4 [(0, .ref (h 0)), (1, .int x0), (2, .int x1), (3, .int x2)] := hl
  obtain ⟨H, hH⟩ : ∃ z : Heap, z = s.heap := ⟨_, rfl⟩
  obtain ⟨locs, hlo⟩ : ∃ z : List Loc, z = [] := ⟨_, rfl⟩
  have hP : va_P D vwCl (sgw 26 h (eM ca h) f L Q) H := by rw [hH]; exact hP
  have hS : va_S (sgA 26 h s.heap.size) s.heap H locs := by rw [hH, hlo]; exact hS
  suffices hgo : W p l e ({ frames := 47, cells := 0, slots := 0, locals := 1079 }) s m ([.ref (h 0), .int x0, .int x1, .int x2] : List Value).toArray below meth cd H locs 0 0 Qz (F0 m 0 ls []) by rw [hH, hlo] at hgo; exact hgo
  clear hH hlo
  have hF : sgK WkX12_stands f f := sgK.rf
  refine lv_aload_n hx hb dX12_stands_0 rfl (lv_at hl 0 rfl) ?_
  refine lv_iload_n hx hb dX12_stands_1 rfl (lv_at hl 1 rfl) ?_
  refine sg_calli (va_runV (As := [.int x0]) (rest := []) ⟨hx, hb, hml, hown, hts⟩ (kX12_bytesIs l D ca za h hh f L Q hI x0 H.size) (cwV 1 hts (gw_V (fun _ h => List.mem_cons_of_mem _ h) mw_685 mw_686 mw_687 mw_619 mw_684) rfl rfl rfl (by decide +kernel) ⟨Nat.le_of_ble_eq_true rfl, Nat.le_of_ble_eq_true rfl⟩) (sg_preV (ci := 12) (C := RX12) (T := TX12) (N := 55) hA hK hP hS hZ 0 (by decide) rfl rfl) rfl rfl hl.1 rfl (lv_room (Nat.le_of_ble_eq_true rfl)) dX12_stands_2 ⟨Nat.le_refl _, Nat.le_refl _⟩) hA hS (fun r_4 f_1 L_2 Q_3 H locs hq hP hS => ?_)
  obtain ⟨⟨ef9, eL9, eQ9⟩, hq⟩ := hq
  rw [ef9, eL9, eQ9] at hP; clear ef9 eL9 eQ9
  rcases hq with ⟨rfl, hq⟩ | hq | ⟨rfl, hq⟩
  · skip
    have q_5 := hq
    refine lv_iconst (v := (-1)) hx hb dX12_stands_5 (by decide) ?_
    refine lv_icmp_eq (tgt := 20) hx hb dX12_stands_6 (by decide) (fun c => absurd c (by decide)) (fun c => ?_)
    refine lv_iload_n hx hb dX12_stands_9 rfl (lv_at hl 2 rfl) ?_
    refine sg_calli (va_runS (As := [.int x1]) (rest := []) ⟨hx, hb, hml, hown, hts⟩ (kX12_isPart l D ca za h hh f L Q hI x1 H.size) (va_cwS 1 hts (gw_S (fun _ h => List.mem_cons_of_mem _ h) mw_636 mw_637 mw_619 mw_635) rfl rfl rfl (by decide +kernel) ⟨Nat.le_of_ble_eq_true rfl, Nat.le_of_ble_eq_true rfl⟩) (sg_preS hA hK hP hS hZ) rfl rfl hl.1 rfl (lv_room (Nat.le_of_ble_eq_true rfl)) dX12_stands_10 ⟨Nat.le_refl _, Nat.le_refl _⟩) hA hS (fun r_9 f_6 L_7 Q_8 H locs hq hP hS => ?_)
    obtain ⟨⟨ef9, eL9, eQ9⟩, hq⟩ := hq
    rw [ef9, eL9, eQ9] at hP; clear ef9 eL9 eQ9
    rcases hq with ⟨rfl, hq⟩ | ⟨rfl, hq⟩
    · skip
      have q_10 := hq
      refine lv_if_eq (tgt := 20) hx hb dX12_stands_13 (by decide) (fun c => absurd c (by decide)) (fun c => ?_)
      refine lv_iload_n hx hb dX12_stands_16 rfl (lv_at hl 3 rfl) ?_
      refine lv_if_ge (tgt := 22) hx hb dX12_stands_17 (by decide) (fun c => ?_) (fun c => ?_)
      · skip
        have c_11 : 0 ≤ x2.toInt := (by have z := bn_le c; have k1 : (0 : Int32).toInt = 0 := (by decide); omega)
        refine lv_aload_n hx hb dX12_stands_22 rfl (lv_at hl 0 rfl) ?_
        refine lv_iload_n hx hb dX12_stands_23 rfl (lv_at hl 1 rfl) ?_
        refine sg_calli (va_runV (As := [.int x0]) (rest := []) ⟨hx, hb, hml, hown, hts⟩ (kX12_bytesIs l D ca za h hh f L Q hI x0 H.size) (cwV 1 hts (gw_V (fun _ h => List.mem_cons_of_mem _ h) mw_685 mw_686 mw_687 mw_619 mw_684) rfl rfl rfl (by decide +kernel) ⟨Nat.le_of_ble_eq_true rfl, Nat.le_of_ble_eq_true rfl⟩) (sg_preV (ci := 12) (C := RX12) (T := TX12) (N := 55) hA hK hP hS hZ 0 (by decide) rfl rfl) rfl rfl hl.1 rfl (lv_room (Nat.le_of_ble_eq_true rfl)) dX12_stands_24 ⟨Nat.le_refl _, Nat.le_refl _⟩) hA hS (fun r_16 f_13 L_14 Q_15 H locs hq hP hS => ?_)
        obtain ⟨⟨ef9, eL9, eQ9⟩, hq⟩ := hq
        rw [ef9, eL9, eQ9] at hP; clear ef9 eL9 eQ9
        rcases hq with ⟨rfl, hq⟩ | hq | ⟨rfl, hq⟩
        · skip
          have q_17 := hq
          refine lv_if_ge (tgt := 36) hx hb dX12_stands_27 (by decide) (fun c => ?_) (fun c => absurd c (by decide))
          refine lv_iload_n hx hb dX12_stands_36 rfl (lv_at hl 3 rfl) ?_
          refine lv_aload_n hx hb dX12_stands_37 rfl (lv_at hl 0 rfl) ?_
          refine lv_iload_n hx hb dX12_stands_38 rfl (lv_at hl 1 rfl) ?_
          refine sg_calli (va_runV (As := [.int x0]) (rest := [.int x2]) ⟨hx, hb, hml, hown, hts⟩ (kX12_shiftsOf l D ca za h hh f L Q hI x0 (by omega) H.size) (cwV 1 hts (gw_V (fun _ h => List.mem_cons_of_mem _ h) mw_714 mw_715 mw_716 mw_619 mw_713) rfl rfl rfl (by decide +kernel) ⟨Nat.le_of_ble_eq_true rfl, Nat.le_of_ble_eq_true rfl⟩) (sg_preV (ci := 12) (C := RX12) (T := TX12) (N := 55) hA hK hP hS hZ 0 (by decide) rfl rfl) rfl rfl hl.1 rfl (lv_room (Nat.le_of_ble_eq_true rfl)) dX12_stands_39 ⟨Nat.le_refl _, Nat.le_refl _⟩) hA hS (fun r_21 f_18 L_19 Q_20 H locs hq hP hS => ?_)
          obtain ⟨⟨ef9, eL9, eQ9⟩, hq⟩ := hq
          rw [ef9, eL9, eQ9] at hP; clear ef9 eL9 eQ9
          refine lv_icmp_le (tgt := 47) hx hb dX12_stands_42 (by decide) (fun c => ?_) (fun c => ?_)
          · skip
            have c_22 : x2.toInt ≤ r_21.toInt := (by have z := bn_le c; omega)
            refine lv_aload_n hx hb dX12_stands_47 rfl (lv_at hl 0 rfl) ?_
            refine lv_iload_n hx hb dX12_stands_48 rfl (lv_at hl 1 rfl) ?_
            refine sg_calli (va_runV (As := [.int x0]) (rest := []) ⟨hx, hb, hml, hown, hts⟩ (kX12_weekOf l D ca za h hh f L Q hI x0 (by omega) H.size) (cwV 1 hts (gw_V (fun _ h => List.mem_cons_of_mem _ h) mw_752 mw_753 mw_754 mw_619 mw_751) rfl rfl rfl (by decide +kernel) ⟨Nat.le_of_ble_eq_true rfl, Nat.le_of_ble_eq_true rfl⟩) (sg_preV (ci := 12) (C := RX12) (T := TX12) (N := 55) hA hK hP hS hZ 0 (by decide) rfl rfl) rfl rfl hl.1 rfl (lv_room (Nat.le_of_ble_eq_true rfl)) dX12_stands_49 ⟨Nat.le_refl _, Nat.le_refl _⟩) hA hS (fun r_27 f_24 L_25 Q_26 H locs hq hP hS => ?_)
            obtain ⟨⟨hI, hk_f_24, eL9, eQ9⟩, hq⟩ := hq
            rw [eL9, eQ9] at hP; clear eL9 eQ9
            have hF : sgK WkX12_stands f f_24 := sgK.tr hF hk_f_24 (by decide)
            refine lv_pop hx hb dX12_stands_52 rfl ?_
            refine lv_iload_n hx hb dX12_stands_53 rfl (lv_at hl 3 rfl) ?_
            refine lv_if_ne (tgt := 66) hx hb dX12_stands_54 (by decide) (fun c => ?_) (fun c => ?_)
            · skip
              have c_28 : x2.toInt ≠ 0 := (by have z := bn_ne c; have k1 : (0 : Int32).toInt = 0 := (by decide); omega)
              refine lv_aload_n hx hb dX12_stands_66 rfl (lv_at hl 0 rfl) ?_
              refine sg_get (ci := 12) (v := .ref (h 13)) (C := RX12) (T := TX12) (N := 55) hx hb hts (fun w h => List.mem_cons_of_mem _ (gx_12 w h)) hown hK hP 0 (by decide) rfl rfl 28 (by decide) (hts _ (List.mem_cons_of_mem _ mw_717)) (fun _ h9 => h9) rfl dX12_stands_67 ?_
              refine lv_iconst (v := 3) hx hb dX12_stands_70 (by decide) ?_
              refine lv_iload_n hx hb dX12_stands_71 rfl (lv_at hl 3 rfl) ?_
              refine lv_imul hx hb dX12_stands_72 ?_
              refine lv_topi (fun v_30 ev_30 => ?_)
              have q_31 : v_30.toInt = 3 * x2.toInt := by rw [ev_30]; exact bn_mulJ (by decide) (by omega) (by omega)
              refine lv_iload_n hx hb dX12_stands_73 rfl (lv_at hl 2 rfl) ?_
              refine lv_iadd hx hb dX12_stands_74 ?_
              refine lv_topi (fun v_32 ev_32 => ?_)
              have q_33 : v_32.toInt = v_30.toInt + x1.toInt := by rw [ev_32]; exact (bn_addI (by omega) (by omega)).trans (by omega)
              refine sg_iald hx hb hK hP 13 (by decide) 0 rfl rfl (i := v_32) (vp_in_iff.mpr ⟨by omega, by omega⟩) dX12_stands_75 ?_
              refine lv_topi (fun v_34 ev_34 => ?_)
              have q_35 : 0 ≤ v_34.toInt ∧ v_34.toInt ≤ 60 := by rw [ev_34]; exact hI 13 _
              exact hret _ _ _ _ (v_34) f_24 L Q dX12_stands_76 hP hS ⟨⟨hI, hF, rfl, rfl⟩, (by omega)⟩
            · skip
              have c_29 : x2.toInt = 0 := (by have z := Int32.toInt_inj.mpr c; have k1 : (0 : Int32).toInt = 0 := (by decide); omega)
              refine lv_aload_n hx hb dX12_stands_57 rfl (lv_at hl 0 rfl) ?_
              refine sg_get (ci := 12) (v := .ref (h 5)) (C := RX12) (T := TX12) (N := 55) hx hb hts (fun w h => List.mem_cons_of_mem _ (gx_12 w h)) hown hK hP 0 (by decide) rfl rfl 7 (by decide) (hts _ (List.mem_cons_of_mem _ mw_607)) (fun _ h9 => h9) rfl dX12_stands_58 ?_
              refine lv_iload_n hx hb dX12_stands_61 rfl (lv_at hl 2 rfl) ?_
              refine sg_iald hx hb hK hP 5 (by decide) 0 rfl rfl (i := x1) (vp_in_iff.mpr ⟨by omega, by omega⟩) dX12_stands_62 ?_
              refine lv_topi (fun v_36 ev_36 => ?_)
              have q_37 : 0 ≤ v_36.toInt ∧ v_36.toInt ≤ 60 := by rw [ev_36]; exact hI 5 _
              refine lv_goto (tgt := 76) hx hb dX12_stands_63 (by decide) ?_
              exact hret _ _ _ _ (v_36) f_24 L Q dX12_stands_76 hP hS ⟨⟨hI, hF, rfl, rfl⟩, (by omega)⟩
          · skip
            have c_23 : r_21.toInt < x2.toInt := (by have z := bn_nle c; omega)
            refine lv_iconst (v := (-1)) hx hb dX12_stands_45 (by decide) ?_
            have k99 : ((-1) : Int32).toInt = (-1) := (by decide)
            exact hret _ _ _ _ (-1) f L Q dX12_stands_46 hP hS ⟨⟨hI, hF, rfl, rfl⟩, (by decide)⟩
        · skip
          have q_38 := hq
          refine lv_if_ge (tgt := 36) hx hb dX12_stands_27 (by decide) (fun c => ?_) (fun c => ?_)
          · skip
            exfalso; have c_39 : 0 ≤ r_16.toInt := (by have z := bn_le c; have k1 : (0 : Int32).toInt = 0 := (by decide); omega); omega
          · skip
            have c_40 : r_16.toInt < 0 := (by have z := bn_nle c; have k1 : (0 : Int32).toInt = 0 := (by decide); omega)
            refine lv_aload_n hx hb dX12_stands_30 rfl (lv_at hl 0 rfl) ?_
            refine lv_iload_n hx hb dX12_stands_31 rfl (lv_at hl 1 rfl) ?_
            refine sg_calli (va_runV (As := [.int x0]) (rest := []) ⟨hx, hb, hml, hown, hts⟩ (kX12_bytesIs l D ca za h hh f L Q hI x0 H.size) (cwV 1 hts (gw_V (fun _ h => List.mem_cons_of_mem _ h) mw_685 mw_686 mw_687 mw_619 mw_684) rfl rfl rfl (by decide +kernel) ⟨Nat.le_of_ble_eq_true rfl, Nat.le_of_ble_eq_true rfl⟩) (sg_preV (ci := 12) (C := RX12) (T := TX12) (N := 55) hA hK hP hS hZ 0 (by decide) rfl rfl) rfl rfl hl.1 rfl (lv_room (Nat.le_of_ble_eq_true rfl)) dX12_stands_32 ⟨Nat.le_refl _, Nat.le_refl _⟩) hA hS (fun r_44 f_41 L_42 Q_43 H locs hq hP hS => ?_)
            obtain ⟨⟨ef9, eL9, eQ9⟩, hq⟩ := hq
            rw [ef9, eL9, eQ9] at hP; clear ef9 eL9 eQ9
            rcases hq with ⟨rfl, hq⟩ | hq | ⟨rfl, hq⟩
            · skip
              have q_45 := hq
              have k99 : (1 : Int32).toInt = 1 := (by decide)
              exact hret _ _ _ _ (1) f L Q dX12_stands_35 hP hS ⟨⟨hI, hF, rfl, rfl⟩, (by decide)⟩
            · skip
              have q_46 := hq
              exact hret _ _ _ _ (r_44) f L Q dX12_stands_35 hP hS ⟨⟨hI, hF, rfl, rfl⟩, (by omega)⟩
            · skip
              have q_47 := hq
              have k99 : ((-1) : Int32).toInt = (-1) := (by decide)
              exact hret _ _ _ _ (-1) f L Q dX12_stands_35 hP hS ⟨⟨hI, hF, rfl, rfl⟩, (by decide)⟩
        · skip
          have q_48 := hq
          refine lv_if_ge (tgt := 36) hx hb dX12_stands_27 (by decide) (fun c => absurd c (by decide)) (fun c => ?_)
          refine lv_aload_n hx hb dX12_stands_30 rfl (lv_at hl 0 rfl) ?_
          refine lv_iload_n hx hb dX12_stands_31 rfl (lv_at hl 1 rfl) ?_
          refine sg_calli (va_runV (As := [.int x0]) (rest := []) ⟨hx, hb, hml, hown, hts⟩ (kX12_bytesIs l D ca za h hh f L Q hI x0 H.size) (cwV 1 hts (gw_V (fun _ h => List.mem_cons_of_mem _ h) mw_685 mw_686 mw_687 mw_619 mw_684) rfl rfl rfl (by decide +kernel) ⟨Nat.le_of_ble_eq_true rfl, Nat.le_of_ble_eq_true rfl⟩) (sg_preV (ci := 12) (C := RX12) (T := TX12) (N := 55) hA hK hP hS hZ 0 (by decide) rfl rfl) rfl rfl hl.1 rfl (lv_room (Nat.le_of_ble_eq_true rfl)) dX12_stands_32 ⟨Nat.le_refl _, Nat.le_refl _⟩) hA hS (fun r_52 f_49 L_50 Q_51 H locs hq hP hS => ?_)
          obtain ⟨⟨ef9, eL9, eQ9⟩, hq⟩ := hq
          rw [ef9, eL9, eQ9] at hP; clear ef9 eL9 eQ9
          rcases hq with ⟨rfl, hq⟩ | hq | ⟨rfl, hq⟩
          · skip
            have q_53 := hq
            have k99 : (1 : Int32).toInt = 1 := (by decide)
            exact hret _ _ _ _ (1) f L Q dX12_stands_35 hP hS ⟨⟨hI, hF, rfl, rfl⟩, (by decide)⟩
          · skip
            have q_54 := hq
            exact hret _ _ _ _ (r_52) f L Q dX12_stands_35 hP hS ⟨⟨hI, hF, rfl, rfl⟩, (by omega)⟩
          · skip
            have q_55 := hq
            have k99 : ((-1) : Int32).toInt = (-1) := (by decide)
            exact hret _ _ _ _ (-1) f L Q dX12_stands_35 hP hS ⟨⟨hI, hF, rfl, rfl⟩, (by decide)⟩
      · skip
        have c_12 : x2.toInt < 0 := (by have z := bn_nle c; have k1 : (0 : Int32).toInt = 0 := (by decide); omega)
        refine lv_iconst (v := (-1)) hx hb dX12_stands_20 (by decide) ?_
        have k99 : ((-1) : Int32).toInt = (-1) := (by decide)
        exact hret _ _ _ _ (-1) f L Q dX12_stands_21 hP hS ⟨⟨hI, hF, rfl, rfl⟩, (by decide)⟩
    · skip
      have q_56 := hq
      refine lv_if_eq (tgt := 20) hx hb dX12_stands_13 (by decide) (fun c => ?_) (fun c => absurd c (by decide))
      refine lv_iconst (v := (-1)) hx hb dX12_stands_20 (by decide) ?_
      have k99 : ((-1) : Int32).toInt = (-1) := (by decide)
      exact hret _ _ _ _ (-1) f L Q dX12_stands_21 hP hS ⟨⟨hI, hF, rfl, rfl⟩, (by decide)⟩
  · skip
    have q_57 := hq
    refine lv_iconst (v := (-1)) hx hb dX12_stands_5 (by decide) ?_
    refine lv_icmp_eq (tgt := 20) hx hb dX12_stands_6 (by decide) (fun c => ?_) (fun c => ?_)
    · skip
      exfalso; have c_58 : r_4.toInt = (-1) := (by have z := Int32.toInt_inj.mpr c; have k1 : ((-1) : Int32).toInt = (-1) := (by decide); omega); omega
    · skip
      have c_59 : r_4.toInt ≠ (-1) := (by have z := bn_ne c; have k1 : ((-1) : Int32).toInt = (-1) := (by decide); omega)
      refine lv_iload_n hx hb dX12_stands_9 rfl (lv_at hl 2 rfl) ?_
      refine sg_calli (va_runS (As := [.int x1]) (rest := []) ⟨hx, hb, hml, hown, hts⟩ (kX12_isPart l D ca za h hh f L Q hI x1 H.size) (va_cwS 1 hts (gw_S (fun _ h => List.mem_cons_of_mem _ h) mw_636 mw_637 mw_619 mw_635) rfl rfl rfl (by decide +kernel) ⟨Nat.le_of_ble_eq_true rfl, Nat.le_of_ble_eq_true rfl⟩) (sg_preS hA hK hP hS hZ) rfl rfl hl.1 rfl (lv_room (Nat.le_of_ble_eq_true rfl)) dX12_stands_10 ⟨Nat.le_refl _, Nat.le_refl _⟩) hA hS (fun r_63 f_60 L_61 Q_62 H locs hq hP hS => ?_)
      obtain ⟨⟨ef9, eL9, eQ9⟩, hq⟩ := hq
      rw [ef9, eL9, eQ9] at hP; clear ef9 eL9 eQ9
      rcases hq with ⟨rfl, hq⟩ | ⟨rfl, hq⟩
      · skip
        have q_64 := hq
        refine lv_if_eq (tgt := 20) hx hb dX12_stands_13 (by decide) (fun c => absurd c (by decide)) (fun c => ?_)
        refine lv_iload_n hx hb dX12_stands_16 rfl (lv_at hl 3 rfl) ?_
        refine lv_if_ge (tgt := 22) hx hb dX12_stands_17 (by decide) (fun c => ?_) (fun c => ?_)
        · skip
          have c_65 : 0 ≤ x2.toInt := (by have z := bn_le c; have k1 : (0 : Int32).toInt = 0 := (by decide); omega)
          refine lv_aload_n hx hb dX12_stands_22 rfl (lv_at hl 0 rfl) ?_
          refine lv_iload_n hx hb dX12_stands_23 rfl (lv_at hl 1 rfl) ?_
          refine sg_calli (va_runV (As := [.int x0]) (rest := []) ⟨hx, hb, hml, hown, hts⟩ (kX12_bytesIs l D ca za h hh f L Q hI x0 H.size) (cwV 1 hts (gw_V (fun _ h => List.mem_cons_of_mem _ h) mw_685 mw_686 mw_687 mw_619 mw_684) rfl rfl rfl (by decide +kernel) ⟨Nat.le_of_ble_eq_true rfl, Nat.le_of_ble_eq_true rfl⟩) (sg_preV (ci := 12) (C := RX12) (T := TX12) (N := 55) hA hK hP hS hZ 0 (by decide) rfl rfl) rfl rfl hl.1 rfl (lv_room (Nat.le_of_ble_eq_true rfl)) dX12_stands_24 ⟨Nat.le_refl _, Nat.le_refl _⟩) hA hS (fun r_70 f_67 L_68 Q_69 H locs hq hP hS => ?_)
          obtain ⟨⟨ef9, eL9, eQ9⟩, hq⟩ := hq
          rw [ef9, eL9, eQ9] at hP; clear ef9 eL9 eQ9
          rcases hq with ⟨rfl, hq⟩ | hq | ⟨rfl, hq⟩
          · skip
            have q_71 := hq
            refine lv_if_ge (tgt := 36) hx hb dX12_stands_27 (by decide) (fun c => ?_) (fun c => absurd c (by decide))
            refine lv_iload_n hx hb dX12_stands_36 rfl (lv_at hl 3 rfl) ?_
            refine lv_aload_n hx hb dX12_stands_37 rfl (lv_at hl 0 rfl) ?_
            refine lv_iload_n hx hb dX12_stands_38 rfl (lv_at hl 1 rfl) ?_
            refine sg_calli (va_runV (As := [.int x0]) (rest := [.int x2]) ⟨hx, hb, hml, hown, hts⟩ (kX12_shiftsOf l D ca za h hh f L Q hI x0 (by omega) H.size) (cwV 1 hts (gw_V (fun _ h => List.mem_cons_of_mem _ h) mw_714 mw_715 mw_716 mw_619 mw_713) rfl rfl rfl (by decide +kernel) ⟨Nat.le_of_ble_eq_true rfl, Nat.le_of_ble_eq_true rfl⟩) (sg_preV (ci := 12) (C := RX12) (T := TX12) (N := 55) hA hK hP hS hZ 0 (by decide) rfl rfl) rfl rfl hl.1 rfl (lv_room (Nat.le_of_ble_eq_true rfl)) dX12_stands_39 ⟨Nat.le_refl _, Nat.le_refl _⟩) hA hS (fun r_75 f_72 L_73 Q_74 H locs hq hP hS => ?_)
            obtain ⟨⟨ef9, eL9, eQ9⟩, hq⟩ := hq
            rw [ef9, eL9, eQ9] at hP; clear ef9 eL9 eQ9
            refine lv_icmp_le (tgt := 47) hx hb dX12_stands_42 (by decide) (fun c => ?_) (fun c => ?_)
            · skip
              have c_76 : x2.toInt ≤ r_75.toInt := (by have z := bn_le c; omega)
              refine lv_aload_n hx hb dX12_stands_47 rfl (lv_at hl 0 rfl) ?_
              refine lv_iload_n hx hb dX12_stands_48 rfl (lv_at hl 1 rfl) ?_
              refine sg_calli (va_runV (As := [.int x0]) (rest := []) ⟨hx, hb, hml, hown, hts⟩ (kX12_weekOf l D ca za h hh f L Q hI x0 (by omega) H.size) (cwV 1 hts (gw_V (fun _ h => List.mem_cons_of_mem _ h) mw_752 mw_753 mw_754 mw_619 mw_751) rfl rfl rfl (by decide +kernel) ⟨Nat.le_of_ble_eq_true rfl, Nat.le_of_ble_eq_true rfl⟩) (sg_preV (ci := 12) (C := RX12) (T := TX12) (N := 55) hA hK hP hS hZ 0 (by decide) rfl rfl) rfl rfl hl.1 rfl (lv_room (Nat.le_of_ble_eq_true rfl)) dX12_stands_49 ⟨Nat.le_refl _, Nat.le_refl _⟩) hA hS (fun r_81 f_78 L_79 Q_80 H locs hq hP hS => ?_)
              obtain ⟨⟨hI, hk_f_78, eL9, eQ9⟩, hq⟩ := hq
              rw [eL9, eQ9] at hP; clear eL9 eQ9
              have hF : sgK WkX12_stands f f_78 := sgK.tr hF hk_f_78 (by decide)
              refine lv_pop hx hb dX12_stands_52 rfl ?_
              refine lv_iload_n hx hb dX12_stands_53 rfl (lv_at hl 3 rfl) ?_
              refine lv_if_ne (tgt := 66) hx hb dX12_stands_54 (by decide) (fun c => ?_) (fun c => ?_)
              · skip
                have c_82 : x2.toInt ≠ 0 := (by have z := bn_ne c; have k1 : (0 : Int32).toInt = 0 := (by decide); omega)
                refine lv_aload_n hx hb dX12_stands_66 rfl (lv_at hl 0 rfl) ?_
                refine sg_get (ci := 12) (v := .ref (h 13)) (C := RX12) (T := TX12) (N := 55) hx hb hts (fun w h => List.mem_cons_of_mem _ (gx_12 w h)) hown hK hP 0 (by decide) rfl rfl 28 (by decide) (hts _ (List.mem_cons_of_mem _ mw_717)) (fun _ h9 => h9) rfl dX12_stands_67 ?_
                refine lv_iconst (v := 3) hx hb dX12_stands_70 (by decide) ?_
                refine lv_iload_n hx hb dX12_stands_71 rfl (lv_at hl 3 rfl) ?_
                refine lv_imul hx hb dX12_stands_72 ?_
                refine lv_topi (fun v_84 ev_84 => ?_)
                have q_85 : v_84.toInt = 3 * x2.toInt := by rw [ev_84]; exact bn_mulJ (by decide) (by omega) (by omega)
                refine lv_iload_n hx hb dX12_stands_73 rfl (lv_at hl 2 rfl) ?_
                refine lv_iadd hx hb dX12_stands_74 ?_
                refine lv_topi (fun v_86 ev_86 => ?_)
                have q_87 : v_86.toInt = v_84.toInt + x1.toInt := by rw [ev_86]; exact (bn_addI (by omega) (by omega)).trans (by omega)
                refine sg_iald hx hb hK hP 13 (by decide) 0 rfl rfl (i := v_86) (vp_in_iff.mpr ⟨by omega, by omega⟩) dX12_stands_75 ?_
                refine lv_topi (fun v_88 ev_88 => ?_)
                have q_89 : 0 ≤ v_88.toInt ∧ v_88.toInt ≤ 60 := by rw [ev_88]; exact hI 13 _
                exact hret _ _ _ _ (v_88) f_78 L Q dX12_stands_76 hP hS ⟨⟨hI, hF, rfl, rfl⟩, (by omega)⟩
              · skip
                have c_83 : x2.toInt = 0 := (by have z := Int32.toInt_inj.mpr c; have k1 : (0 : Int32).toInt = 0 := (by decide); omega)
                refine lv_aload_n hx hb dX12_stands_57 rfl (lv_at hl 0 rfl) ?_
                refine sg_get (ci := 12) (v := .ref (h 5)) (C := RX12) (T := TX12) (N := 55) hx hb hts (fun w h => List.mem_cons_of_mem _ (gx_12 w h)) hown hK hP 0 (by decide) rfl rfl 7 (by decide) (hts _ (List.mem_cons_of_mem _ mw_607)) (fun _ h9 => h9) rfl dX12_stands_58 ?_
                refine lv_iload_n hx hb dX12_stands_61 rfl (lv_at hl 2 rfl) ?_
                refine sg_iald hx hb hK hP 5 (by decide) 0 rfl rfl (i := x1) (vp_in_iff.mpr ⟨by omega, by omega⟩) dX12_stands_62 ?_
                refine lv_topi (fun v_90 ev_90 => ?_)
                have q_91 : 0 ≤ v_90.toInt ∧ v_90.toInt ≤ 60 := by rw [ev_90]; exact hI 5 _
                refine lv_goto (tgt := 76) hx hb dX12_stands_63 (by decide) ?_
                exact hret _ _ _ _ (v_90) f_78 L Q dX12_stands_76 hP hS ⟨⟨hI, hF, rfl, rfl⟩, (by omega)⟩
            · skip
              have c_77 : r_75.toInt < x2.toInt := (by have z := bn_nle c; omega)
              refine lv_iconst (v := (-1)) hx hb dX12_stands_45 (by decide) ?_
              have k99 : ((-1) : Int32).toInt = (-1) := (by decide)
              exact hret _ _ _ _ (-1) f L Q dX12_stands_46 hP hS ⟨⟨hI, hF, rfl, rfl⟩, (by decide)⟩
          · skip
            have q_92 := hq
            refine lv_if_ge (tgt := 36) hx hb dX12_stands_27 (by decide) (fun c => ?_) (fun c => ?_)
            · skip
              exfalso; have c_93 : 0 ≤ r_70.toInt := (by have z := bn_le c; have k1 : (0 : Int32).toInt = 0 := (by decide); omega); omega
            · skip
              have c_94 : r_70.toInt < 0 := (by have z := bn_nle c; have k1 : (0 : Int32).toInt = 0 := (by decide); omega)
              refine lv_aload_n hx hb dX12_stands_30 rfl (lv_at hl 0 rfl) ?_
              refine lv_iload_n hx hb dX12_stands_31 rfl (lv_at hl 1 rfl) ?_
              refine sg_calli (va_runV (As := [.int x0]) (rest := []) ⟨hx, hb, hml, hown, hts⟩ (kX12_bytesIs l D ca za h hh f L Q hI x0 H.size) (cwV 1 hts (gw_V (fun _ h => List.mem_cons_of_mem _ h) mw_685 mw_686 mw_687 mw_619 mw_684) rfl rfl rfl (by decide +kernel) ⟨Nat.le_of_ble_eq_true rfl, Nat.le_of_ble_eq_true rfl⟩) (sg_preV (ci := 12) (C := RX12) (T := TX12) (N := 55) hA hK hP hS hZ 0 (by decide) rfl rfl) rfl rfl hl.1 rfl (lv_room (Nat.le_of_ble_eq_true rfl)) dX12_stands_32 ⟨Nat.le_refl _, Nat.le_refl _⟩) hA hS (fun r_98 f_95 L_96 Q_97 H locs hq hP hS => ?_)
              obtain ⟨⟨ef9, eL9, eQ9⟩, hq⟩ := hq
              rw [ef9, eL9, eQ9] at hP; clear ef9 eL9 eQ9
              rcases hq with ⟨rfl, hq⟩ | hq | ⟨rfl, hq⟩
              · skip
                have q_99 := hq
                have k99 : (1 : Int32).toInt = 1 := (by decide)
                exact hret _ _ _ _ (1) f L Q dX12_stands_35 hP hS ⟨⟨hI, hF, rfl, rfl⟩, (by decide)⟩
              · skip
                have q_100 := hq
                exact hret _ _ _ _ (r_98) f L Q dX12_stands_35 hP hS ⟨⟨hI, hF, rfl, rfl⟩, (by omega)⟩
              · skip
                have q_101 := hq
                have k99 : ((-1) : Int32).toInt = (-1) := (by decide)
                exact hret _ _ _ _ (-1) f L Q dX12_stands_35 hP hS ⟨⟨hI, hF, rfl, rfl⟩, (by decide)⟩
          · skip
            have q_102 := hq
            refine lv_if_ge (tgt := 36) hx hb dX12_stands_27 (by decide) (fun c => absurd c (by decide)) (fun c => ?_)
            refine lv_aload_n hx hb dX12_stands_30 rfl (lv_at hl 0 rfl) ?_
            refine lv_iload_n hx hb dX12_stands_31 rfl (lv_at hl 1 rfl) ?_
            refine sg_calli (va_runV (As := [.int x0]) (rest := []) ⟨hx, hb, hml, hown, hts⟩ (kX12_bytesIs l D ca za h hh f L Q hI x0 H.size) (cwV 1 hts (gw_V (fun _ h => List.mem_cons_of_mem _ h) mw_685 mw_686 mw_687 mw_619 mw_684) rfl rfl rfl (by decide +kernel) ⟨Nat.le_of_ble_eq_true rfl, Nat.le_of_ble_eq_true rfl⟩) (sg_preV (ci := 12) (C := RX12) (T := TX12) (N := 55) hA hK hP hS hZ 0 (by decide) rfl rfl) rfl rfl hl.1 rfl (lv_room (Nat.le_of_ble_eq_true rfl)) dX12_stands_32 ⟨Nat.le_refl _, Nat.le_refl _⟩) hA hS (fun r_106 f_103 L_104 Q_105 H locs hq hP hS => ?_)
            obtain ⟨⟨ef9, eL9, eQ9⟩, hq⟩ := hq
            rw [ef9, eL9, eQ9] at hP; clear ef9 eL9 eQ9
            rcases hq with ⟨rfl, hq⟩ | hq | ⟨rfl, hq⟩
            · skip
              have q_107 := hq
              have k99 : (1 : Int32).toInt = 1 := (by decide)
              exact hret _ _ _ _ (1) f L Q dX12_stands_35 hP hS ⟨⟨hI, hF, rfl, rfl⟩, (by decide)⟩
            · skip
              have q_108 := hq
              exact hret _ _ _ _ (r_106) f L Q dX12_stands_35 hP hS ⟨⟨hI, hF, rfl, rfl⟩, (by omega)⟩
            · skip
              have q_109 := hq
              have k99 : ((-1) : Int32).toInt = (-1) := (by decide)
              exact hret _ _ _ _ (-1) f L Q dX12_stands_35 hP hS ⟨⟨hI, hF, rfl, rfl⟩, (by decide)⟩
        · skip
          have c_66 : x2.toInt < 0 := (by have z := bn_nle c; have k1 : (0 : Int32).toInt = 0 := (by decide); omega)
          refine lv_iconst (v := (-1)) hx hb dX12_stands_20 (by decide) ?_
          have k99 : ((-1) : Int32).toInt = (-1) := (by decide)
          exact hret _ _ _ _ (-1) f L Q dX12_stands_21 hP hS ⟨⟨hI, hF, rfl, rfl⟩, (by decide)⟩
      · skip
        have q_110 := hq
        refine lv_if_eq (tgt := 20) hx hb dX12_stands_13 (by decide) (fun c => ?_) (fun c => absurd c (by decide))
        refine lv_iconst (v := (-1)) hx hb dX12_stands_20 (by decide) ?_
        have k99 : ((-1) : Int32).toInt = (-1) := (by decide)
        exact hret _ _ _ _ (-1) f L Q dX12_stands_21 hP hS ⟨⟨hI, hF, rfl, rfl⟩, (by decide)⟩
  · skip
    have q_111 := hq
    refine lv_iconst (v := (-1)) hx hb dX12_stands_5 (by decide) ?_
    refine lv_icmp_eq (tgt := 20) hx hb dX12_stands_6 (by decide) (fun c => ?_) (fun c => absurd c (by decide))
    refine lv_iconst (v := (-1)) hx hb dX12_stands_20 (by decide) ?_
    have k99 : ((-1) : Int32).toInt = (-1) := (by decide)
    exact hret _ _ _ _ (-1) f L Q dX12_stands_21 hP hS ⟨⟨hI, hF, rfl, rfl⟩, (by decide)⟩
