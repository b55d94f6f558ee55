/-! contracts of any state. Laid by a program (wip/tool) -/
abbrev WkX5_both_2 : List (Nat × Nat × Option Nat) := [(4, 4, some 6), (4, 4, some 7), (4, 4, some 8), (6, 6, none)]
set_option maxHeartbeats 4000000 in
set_option maxRecDepth 100000 in
theorem kX5_both_2 (l : Launch) (D : va_G) (ca : Nat → ClassId) (za h : Nat → Nat) (hh : sgH 52 h) (f : sg_F) (L : sg_L) (Q : sg_Q) (hI : sgI loX hiX f) (sz : Nat) : Met l yX5_both gwX5_both { frames := 34, cells := 0, slots := 0, locals := 757 } (sgP D vwCl (tyX ca) 52 h (eX ca h) zcX za f L Q sz [.ref (h 4), .int 2]) (sgQv D vwCl 52 h (eX ca h) sz (fun f1 L1 Q1 => ((sgI loX hiX f1 ∧ sgK WkX5_both_2 f f1 ∧ L1 = L ∧ Q1 = Q) ∧ (f1) = sX5_both_2 f L))) 0 0 (sgA 52 h sz) := by
  refine sg_ofWv (cc := cX5_both) (maxL := 3) RX5 (by decide) rfl rfl (Nat.le_of_ble_eq_true rfl) ?_
  intro p e s m below meth cd Qz ls hx hb hml hown hts hK hZ hP hS hl hret
  have hA := sgY.self (n := 52) (h := h) (sz := s.heap.size)
  have hl : lv_has ls 3 [(0, .ref (h 4)), (1, .int 2)] := hl
  obtain ⟨H, hH⟩ : ∃ z : Heap, z = s.heap := ⟨_, rfl⟩
  obtain ⟨locs, hlo⟩ : ∃ z : List Loc, z = [] := ⟨_, rfl⟩
  have hP : va_P D vwCl (sgw 52 h (eX ca h) f L Q) H := by rw [hH]; exact hP
  have hS : va_S (sgA 52 h s.heap.size) s.heap H locs := by rw [hH, hlo]; exact hS
  suffices hgo : W p l e ({ frames := 34, cells := 0, slots := 0, locals := 757 }) s m ([.ref (h 4), .int 2] : List Value).toArray below meth cd H locs 0 0 Qz (F0 m 0 ls []) by rw [hH, hlo] at hgo; exact hgo
  clear hH hlo
  obtain ⟨sp, hsp⟩ : ∃ z : sg_F, z = sX5_both_2 f L := ⟨_, rfl⟩
  have hs : sp = sX5_both_2 f L := hsp
  have hF : sgK WkX5_both_2 f f := sgK.rf
  have loop_7 : ∀ (n_7 : Nat) (y2_7 : Int32) (fp_7 : sg_F) (H : Heap) (locs : List Loc) (ls : Array Slot), sp = sX5_both_2_l7 n_7 y2_7 fp_7 L → 120 - y2_7.toInt < (n_7 : Int) → 0 ≤ y2_7.toInt ∧ y2_7.toInt ≤ 120 → sgI loX hiX fp_7 → sgK WkX5_both_2 f fp_7 → va_P D vwCl (sgw 52 h (eX ca h) fp_7 L Q) H → va_S (sgA 52 h s.heap.size) s.heap H locs → lv_has ls 3 [(0, .ref (h 4)), (1, .int 2), (2, .int y2_7)] → W p l e ({ frames := 34, cells := 0, slots := 0, locals := 757 }) s m ([.ref (h 4), .int 2] : List Value).toArray below meth cd H locs 0 0 Qz (F0 m 7 ls []) := by
    intro n_7
    induction n_7 with
    | zero => intro y2_7 fp_7 H locs ls hs hm_7 hy0_7 hI hF hP hS hl; exact absurd hm_7 (by omega)
    | succ n_7 ih_7 =>
      intro y2_7 fp_7 H locs ls hs hm_7 hy0_7 hI hF hP hS hl
      have hs : sp = sX5_both_2_h7 (sX5_both_2_l7 n_7) y2_7 fp_7 L := hs
      refine lv_iload_n hx hb dX5_both_7 rfl (lv_at hl 2 rfl) ?_
      refine lv_bipush (v := 120) hx hb dX5_both_8 bp_120 ?_
      refine lv_icmp_ge (tgt := 49) hx hb dX5_both_10 (by decide) (fun c => ?_) (fun c => ?_)
      · skip
        have c_1 : 120 ≤ y2_7.toInt := (by first | exact (cm_le0 ti_120 c) | (have z := bn_le c; have k1 : (120 : Int32).toInt = 120 := ti_120; omega))
        exact hret _ _ _ _ fp_7 L Q dX5_both_49 hP hS ⟨⟨hI, hF, rfl, rfl⟩, (Eq.trans (Eq.symm (hs.trans (((if_neg (Int.not_lt.mpr c_1)).trans rfl)))) hsp)⟩
      · skip
        have c_2 : y2_7.toInt < 120 := (by first | exact (cm_nle0 ti_120 c) | (have z := bn_nle c; have k1 : (120 : Int32).toInt = 120 := ti_120; omega))
        refine lv_aload_n hx hb dX5_both_13 rfl (lv_at hl 0 rfl) ?_
        obtain ⟨v_3, ev_3⟩ : ∃ z : Int32, z = fp_7 4 6 := ⟨_, rfl⟩
        have q_4 : 0 ≤ v_3.toInt ∧ v_3.toInt ≤ 120 := by rw [ev_3]; exact hI 4 6
        have q_5 : (fp_7 4 6).toInt = v_3.toInt := (congrArg Int32.toInt (show fp_7 4 6 = v_3 from ev_3.symm))
        obtain ⟨v_6, ev_6⟩ : ∃ z : Int32, z = fp_7 4 1 := ⟨_, rfl⟩
        have q_7 : 0 ≤ v_6.toInt ∧ v_6.toInt ≤ 120 := by rw [ev_6]; exact hI 4 1
        have q_8 : (fp_7 4 1).toInt = v_6.toInt := (congrArg Int32.toInt (show fp_7 4 1 = v_6 from ev_6.symm))
        refine sg_calli (va_runV (As := []) (rest := []) ⟨hx, hb, hml, hown, hts⟩ (kX5_next l D ca za h hh fp_7 L Q hI H.size) (sl_c5_next_0_0_0_0_5 hts ⟨Nat.le_of_ble_eq_true rfl, Nat.le_of_ble_eq_true rfl⟩) (sl_vX_4 hA hK hP hS hZ) rfl rfl hl.1 rfl (lv_room (Nat.le_of_ble_eq_true rfl)) dX5_both_14 ⟨Nat.le_refl _, Nat.le_refl _⟩) hA hS (fun r_12 f_9 L_10 Q_11 H locs hq hP hS => ?_)
        obtain ⟨⟨ef9, eL9, eQ9⟩, hq, p_13, u_14⟩ := hq
        replace hs := hs.trans ((if_pos c_2).trans (spl_e ev_3 (spl_e ev_6 (spl_e u_14 rfl))))
        rw [ef9, eL9, eQ9] at hP; clear ef9 eL9 eQ9
        refine lv_bipush (v := 38) hx hb dX5_both_17 bp_38 ?_
        refine lv_icmp_ne (tgt := 49) hx hb dX5_both_19 (by decide) (fun c => ?_) (fun c => ?_)
        · skip
          have c_15 : r_12.toInt ≠ 38 := (by first | exact (cm_ne1 ti_38 c) | (have z := bn_ne c; have k1 : (38 : Int32).toInt = 38 := ti_38; omega))
          exact hret _ _ _ _ fp_7 L Q dX5_both_49 hP hS ⟨⟨hI, hF, rfl, rfl⟩, (Eq.trans (Eq.symm (hs.trans ((if_neg c_15).trans rfl))) hsp)⟩
        · skip
          have c_16 : r_12.toInt = 38 := (by first | exact (cm_eq1 ti_38 c) | (have z := Int32.toInt_inj.mpr c; have k1 : (38 : Int32).toInt = 38 := ti_38; omega))
          refine lv_aload_n hx hb dX5_both_22 rfl (lv_at hl 0 rfl) ?_
          refine lv_dup hx hb dX5_both_23 rfl ?_
          refine sl_gX_4_6_5 (v := v_3) hx hb hts hown hK hP (show fp_7 4 6 = v_3 from ev_3.symm) dX5_both_24 ?_
          refine lv_iconst (v := 1) hx hb dX5_both_27 ic_1 ?_
          refine lv_iadd hx hb dX5_both_28 ?_
          refine lv_topi (fun v_17 ev_17 => ?_)
          have q_18 : v_17.toInt = v_3.toInt + 1 := by rw [ev_17]; first | exact cm_add ti_1 (by omega) (by omega) | (have k1 : (1 : Int32).toInt = 1 := ti_1; exact (bn_addI (by omega) (by omega)).trans (by omega))
          refine sl_pX_4_6_5 (x := v_17) hx hb hts hown hh hA hK hP hS dX5_both_29 (fun f_19 H locs ef_19 hP hS => ?_)
          have hI : sgI loX hiX f_19 := by rw [ef_19]; exact sgI.put hI 4 6 (show 0 ≤ (v_17 : Int32).toInt ∧ (v_17 : Int32).toInt ≤ 120 from ⟨by omega, by omega⟩)
          have hF : sgK WkX5_both_2 f f_19 := sgK.put hF ef_19 (by rfl)
          refine lv_aload_n hx hb dX5_both_32 rfl (lv_at hl 0 rfl) ?_
          refine lv_iload_n hx hb dX5_both_33 rfl (lv_at hl 1 rfl) ?_
          refine sg_callv (va_runV (As := [.int 2]) (rest := []) ⟨hx, hb, hml, hown, hts⟩ (kX5_compared_2 l D ca za h hh f_19 L Q hI H.size) (sl_c5_compared_33_0_0_735_5 hts ⟨Nat.le_of_ble_eq_true rfl, Nat.le_of_ble_eq_true rfl⟩) (sl_vX_4 hA hK hP hS hZ) rfl rfl hl.1 rfl (lv_room (Nat.le_of_ble_eq_true rfl)) dX5_both_34 ⟨Nat.le_refl _, Nat.le_refl _⟩) hA hS (fun f_20 L_21 Q_22 H locs hq hP hS => ?_)
          obtain ⟨⟨hI, hk_f_20, eL9, eQ9⟩, u_23⟩ := hq
          rw [eL9, eQ9] at hP; clear eL9 eQ9
          have hF : sgK WkX5_both_2 f f_20 := sgK.tr hF hk_f_20 (by decide +kernel)
          refine lv_aload_n hx hb dX5_both_37 rfl (lv_at hl 0 rfl) ?_
          refine lv_bipush (v := 38) hx hb dX5_both_38 bp_38 ?_
          refine sg_callv (va_runV (As := [.int 38]) (rest := []) ⟨hx, hb, hml, hown, hts⟩ (kX5_write l D ca za h hh f_20 L Q hI 38 H.size) (sl_c5_write_0_0_0_0_5 hts ⟨Nat.le_of_ble_eq_true rfl, Nat.le_of_ble_eq_true rfl⟩) (sl_vX_4 hA hK hP hS hZ) rfl rfl hl.1 rfl (lv_room (Nat.le_of_ble_eq_true rfl)) dX5_both_40 ⟨Nat.le_refl _, Nat.le_refl _⟩) hA hS (fun f_24 L_25 Q_26 H locs hq hP hS => ?_)
          obtain ⟨⟨hI, hk_f_24, eL9, eQ9⟩, u_27⟩ := hq
          rw [eL9, eQ9] at hP; clear eL9 eQ9
          have hF : sgK WkX5_both_2 f f_24 := sgK.tr hF hk_f_24 (by decide +kernel)
          obtain ⟨v_28, ev_28⟩ : ∃ z : Int32, z = y2_7 + 1 := ⟨_, rfl⟩
          have q_29 : v_28.toInt = y2_7.toInt + 1 := by rw [ev_28]; exact (bn_addc y2_7 1 (by decide) (by omega) (by omega))
          refine lv_iinc (v := v_28) (lv' := [(2, .int v_28), (0, .ref (h 4)), (1, .int 2)]) hx hb dX5_both_43 hl (k := 2) rfl (by rw [ev_28]; rfl) (by decide) rfl (fun ls hl => ?_)
          refine lv_goto (tgt := 7) hx hb dX5_both_46 (by decide) ?_
          exact ih_7 v_28 f_24 _ _ _ (hs.trans ((if_pos c_16).trans (spl_e ev_17 (spl_e ef_19 (spl_e u_23 (spl_e u_27 (spl_e ev_28 rfl))))))) (by omega) ⟨by omega, by omega⟩ hI hF hP hS (lv_sub hl [1, 2, 0] rfl)
  refine lv_aload_n hx hb dX5_both_0 rfl (lv_at hl 0 rfl) ?_
  refine lv_iload_n hx hb dX5_both_1 rfl (lv_at hl 1 rfl) ?_
  refine sg_callv (va_runV (As := [.int 2]) (rest := []) ⟨hx, hb, hml, hown, hts⟩ (kX5_compared_2 l D ca za h hh f L Q hI H.size) (sl_c5_compared_33_0_0_735_5 hts ⟨Nat.le_of_ble_eq_true rfl, Nat.le_of_ble_eq_true rfl⟩) (sl_vX_4 hA hK hP hS hZ) rfl rfl hl.1 rfl (lv_room (Nat.le_of_ble_eq_true rfl)) dX5_both_2 ⟨Nat.le_refl _, Nat.le_refl _⟩) hA hS (fun f_30 L_31 Q_32 H locs hq hP hS => ?_)
  obtain ⟨⟨hI, hk_f_30, eL9, eQ9⟩, u_33⟩ := hq
  rw [eL9, eQ9] at hP; clear eL9 eQ9
  have hF : sgK WkX5_both_2 f f_30 := sgK.tr hF hk_f_30 (by decide +kernel)
  refine lv_iconst (v := 0) hx hb dX5_both_5 ic_0 ?_
  refine lv_istore_n (lv' := [(2, .int 0), (0, .ref (h 4)), (1, .int 2)]) hx hb dX5_both_6 rfl hl (by decide) rfl (fun ls hl => ?_)
  exact loop_7 121 0 f_30 _ _ _ (hs.trans ((spl_e u_33 rfl))) (by have kc0 : (0 : Int32).toInt = 0 := ti_0; omega) (by decide) hI hF hP hS (lv_sub hl [1, 2, 0] rfl)

abbrev WkX5_either_2 : List (Nat × Nat × Option Nat) := [(4, 4, some 6), (4, 4, some 7), (4, 4, some 8), (6, 6, none)]
set_option maxHeartbeats 4000000 in
set_option maxRecDepth 100000 in
theorem kX5_either_2 (l : Launch) (D : va_G) (ca : Nat → ClassId) (za h : Nat → Nat) (hh : sgH 52 h) (f : sg_F) (L : sg_L) (Q : sg_Q) (hI : sgI loX hiX f) (sz : Nat) : Met l yX5_either gwX5_either { frames := 35, cells := 0, slots := 0, locals := 779 } (sgP D vwCl (tyX ca) 52 h (eX ca h) zcX za f L Q sz [.ref (h 4), .int 2]) (sgQv D vwCl 52 h (eX ca h) sz (fun f1 L1 Q1 => ((sgI loX hiX f1 ∧ sgK WkX5_either_2 f f1 ∧ L1 = L ∧ Q1 = Q) ∧ (f1) = sX5_either_2 f L))) 0 0 (sgA 52 h sz) := by
  refine sg_ofWv (cc := cX5_either) (maxL := 3) RX5 (by decide) rfl rfl (Nat.le_of_ble_eq_true rfl) ?_
  intro p e s m below meth cd Qz ls hx hb hml hown hts hK hZ hP hS hl hret
  have hA := sgY.self (n := 52) (h := h) (sz := s.heap.size)
  have hl : lv_has ls 3 [(0, .ref (h 4)), (1, .int 2)] := hl
  obtain ⟨H, hH⟩ : ∃ z : Heap, z = s.heap := ⟨_, rfl⟩
  obtain ⟨locs, hlo⟩ : ∃ z : List Loc, z = [] := ⟨_, rfl⟩
  have hP : va_P D vwCl (sgw 52 h (eX ca h) f L Q) H := by rw [hH]; exact hP
  have hS : va_S (sgA 52 h s.heap.size) s.heap H locs := by rw [hH, hlo]; exact hS
  suffices hgo : W p l e ({ frames := 35, cells := 0, slots := 0, locals := 779 }) s m ([.ref (h 4), .int 2] : List Value).toArray below meth cd H locs 0 0 Qz (F0 m 0 ls []) by rw [hH, hlo] at hgo; exact hgo
  clear hH hlo
  obtain ⟨sp, hsp⟩ : ∃ z : sg_F, z = sX5_either_2 f L := ⟨_, rfl⟩
  have hs : sp = sX5_either_2 f L := hsp
  have hF : sgK WkX5_either_2 f f := sgK.rf
  have loop_7 : ∀ (n_7 : Nat) (y2_7 : Int32) (fp_7 : sg_F) (H : Heap) (locs : List Loc) (ls : Array Slot), sp = sX5_either_2_l7 n_7 y2_7 fp_7 L → 120 - y2_7.toInt < (n_7 : Int) → 0 ≤ y2_7.toInt ∧ y2_7.toInt ≤ 120 → sgI loX hiX fp_7 → sgK WkX5_either_2 f fp_7 → va_P D vwCl (sgw 52 h (eX ca h) fp_7 L Q) H → va_S (sgA 52 h s.heap.size) s.heap H locs → lv_has ls 3 [(0, .ref (h 4)), (1, .int 2), (2, .int y2_7)] → W p l e ({ frames := 35, cells := 0, slots := 0, locals := 779 }) s m ([.ref (h 4), .int 2] : List Value).toArray below meth cd H locs 0 0 Qz (F0 m 7 ls []) := by
    intro n_7
    induction n_7 with
    | zero => intro y2_7 fp_7 H locs ls hs hm_7 hy0_7 hI hF hP hS hl; exact absurd hm_7 (by omega)
    | succ n_7 ih_7 =>
      intro y2_7 fp_7 H locs ls hs hm_7 hy0_7 hI hF hP hS hl
      have hs : sp = sX5_either_2_h7 (sX5_either_2_l7 n_7) y2_7 fp_7 L := hs
      refine lv_iload_n hx hb dX5_either_7 rfl (lv_at hl 2 rfl) ?_
      refine lv_bipush (v := 120) hx hb dX5_either_8 bp_120 ?_
      refine lv_icmp_ge (tgt := 49) hx hb dX5_either_10 (by decide) (fun c => ?_) (fun c => ?_)
      · skip
        have c_1 : 120 ≤ y2_7.toInt := (by first | exact (cm_le0 ti_120 c) | (have z := bn_le c; have k1 : (120 : Int32).toInt = 120 := ti_120; omega))
        exact hret _ _ _ _ fp_7 L Q dX5_either_49 hP hS ⟨⟨hI, hF, rfl, rfl⟩, (Eq.trans (Eq.symm (hs.trans (((if_neg (Int.not_lt.mpr c_1)).trans rfl)))) hsp)⟩
      · skip
        have c_2 : y2_7.toInt < 120 := (by first | exact (cm_nle0 ti_120 c) | (have z := bn_nle c; have k1 : (120 : Int32).toInt = 120 := ti_120; omega))
        refine lv_aload_n hx hb dX5_either_13 rfl (lv_at hl 0 rfl) ?_
        obtain ⟨v_3, ev_3⟩ : ∃ z : Int32, z = fp_7 4 6 := ⟨_, rfl⟩
        have q_4 : 0 ≤ v_3.toInt ∧ v_3.toInt ≤ 120 := by rw [ev_3]; exact hI 4 6
        have q_5 : (fp_7 4 6).toInt = v_3.toInt := (congrArg Int32.toInt (show fp_7 4 6 = v_3 from ev_3.symm))
        obtain ⟨v_6, ev_6⟩ : ∃ z : Int32, z = fp_7 4 1 := ⟨_, rfl⟩
        have q_7 : 0 ≤ v_6.toInt ∧ v_6.toInt ≤ 120 := by rw [ev_6]; exact hI 4 1
        have q_8 : (fp_7 4 1).toInt = v_6.toInt := (congrArg Int32.toInt (show fp_7 4 1 = v_6 from ev_6.symm))
        refine sg_calli (va_runV (As := []) (rest := []) ⟨hx, hb, hml, hown, hts⟩ (kX5_next l D ca za h hh fp_7 L Q hI H.size) (sl_c5_next_0_0_0_0_5 hts ⟨Nat.le_of_ble_eq_true rfl, Nat.le_of_ble_eq_true rfl⟩) (sl_vX_4 hA hK hP hS hZ) rfl rfl hl.1 rfl (lv_room (Nat.le_of_ble_eq_true rfl)) dX5_either_14 ⟨Nat.le_refl _, Nat.le_refl _⟩) hA hS (fun r_12 f_9 L_10 Q_11 H locs hq hP hS => ?_)
        obtain ⟨⟨ef9, eL9, eQ9⟩, hq, p_13, u_14⟩ := hq
        replace hs := hs.trans ((if_pos c_2).trans (spl_e ev_3 (spl_e ev_6 (spl_e u_14 rfl))))
        rw [ef9, eL9, eQ9] at hP; clear ef9 eL9 eQ9
        refine lv_bipush (v := 124) hx hb dX5_either_17 bp_124 ?_
        refine lv_icmp_ne (tgt := 49) hx hb dX5_either_19 (by decide) (fun c => ?_) (fun c => ?_)
        · skip
          have c_15 : r_12.toInt ≠ 124 := (by first | exact (cm_ne1 ti_124 c) | (have z := bn_ne c; have k1 : (124 : Int32).toInt = 124 := ti_124; omega))
          exact hret _ _ _ _ fp_7 L Q dX5_either_49 hP hS ⟨⟨hI, hF, rfl, rfl⟩, (Eq.trans (Eq.symm (hs.trans ((if_neg c_15).trans rfl))) hsp)⟩
        · skip
          have c_16 : r_12.toInt = 124 := (by first | exact (cm_eq1 ti_124 c) | (have z := Int32.toInt_inj.mpr c; have k1 : (124 : Int32).toInt = 124 := ti_124; omega))
          refine lv_aload_n hx hb dX5_either_22 rfl (lv_at hl 0 rfl) ?_
          refine lv_dup hx hb dX5_either_23 rfl ?_
          refine sl_gX_4_6_5 (v := v_3) hx hb hts hown hK hP (show fp_7 4 6 = v_3 from ev_3.symm) dX5_either_24 ?_
          refine lv_iconst (v := 1) hx hb dX5_either_27 ic_1 ?_
          refine lv_iadd hx hb dX5_either_28 ?_
          refine lv_topi (fun v_17 ev_17 => ?_)
          have q_18 : v_17.toInt = v_3.toInt + 1 := by rw [ev_17]; first | exact cm_add ti_1 (by omega) (by omega) | (have k1 : (1 : Int32).toInt = 1 := ti_1; exact (bn_addI (by omega) (by omega)).trans (by omega))
          refine sl_pX_4_6_5 (x := v_17) hx hb hts hown hh hA hK hP hS dX5_either_29 (fun f_19 H locs ef_19 hP hS => ?_)
          have hI : sgI loX hiX f_19 := by rw [ef_19]; exact sgI.put hI 4 6 (show 0 ≤ (v_17 : Int32).toInt ∧ (v_17 : Int32).toInt ≤ 120 from ⟨by omega, by omega⟩)
          have hF : sgK WkX5_either_2 f f_19 := sgK.put hF ef_19 (by rfl)
          refine lv_aload_n hx hb dX5_either_32 rfl (lv_at hl 0 rfl) ?_
          refine lv_iload_n hx hb dX5_either_33 rfl (lv_at hl 1 rfl) ?_
          refine sg_callv (va_runV (As := [.int 2]) (rest := []) ⟨hx, hb, hml, hown, hts⟩ (kX5_both_2 l D ca za h hh f_19 L Q hI H.size) (sl_c5_both_34_0_0_757_5 hts ⟨Nat.le_of_ble_eq_true rfl, Nat.le_of_ble_eq_true rfl⟩) (sl_vX_4 hA hK hP hS hZ) rfl rfl hl.1 rfl (lv_room (Nat.le_of_ble_eq_true rfl)) dX5_either_34 ⟨Nat.le_refl _, Nat.le_refl _⟩) hA hS (fun f_20 L_21 Q_22 H locs hq hP hS => ?_)
          obtain ⟨⟨hI, hk_f_20, eL9, eQ9⟩, u_23⟩ := hq
          rw [eL9, eQ9] at hP; clear eL9 eQ9
          have hF : sgK WkX5_either_2 f f_20 := sgK.tr hF hk_f_20 (by decide +kernel)
          refine lv_aload_n hx hb dX5_either_37 rfl (lv_at hl 0 rfl) ?_
          refine lv_bipush (v := 124) hx hb dX5_either_38 bp_124 ?_
          refine sg_callv (va_runV (As := [.int 124]) (rest := []) ⟨hx, hb, hml, hown, hts⟩ (kX5_write l D ca za h hh f_20 L Q hI 124 H.size) (sl_c5_write_0_0_0_0_5 hts ⟨Nat.le_of_ble_eq_true rfl, Nat.le_of_ble_eq_true rfl⟩) (sl_vX_4 hA hK hP hS hZ) rfl rfl hl.1 rfl (lv_room (Nat.le_of_ble_eq_true rfl)) dX5_either_40 ⟨Nat.le_refl _, Nat.le_refl _⟩) hA hS (fun f_24 L_25 Q_26 H locs hq hP hS => ?_)
          obtain ⟨⟨hI, hk_f_24, eL9, eQ9⟩, u_27⟩ := hq
          rw [eL9, eQ9] at hP; clear eL9 eQ9
          have hF : sgK WkX5_either_2 f f_24 := sgK.tr hF hk_f_24 (by decide +kernel)
          obtain ⟨v_28, ev_28⟩ : ∃ z : Int32, z = y2_7 + 1 := ⟨_, rfl⟩
          have q_29 : v_28.toInt = y2_7.toInt + 1 := by rw [ev_28]; exact (bn_addc y2_7 1 (by decide) (by omega) (by omega))
          refine lv_iinc (v := v_28) (lv' := [(2, .int v_28), (0, .ref (h 4)), (1, .int 2)]) hx hb dX5_either_43 hl (k := 2) rfl (by rw [ev_28]; rfl) (by decide) rfl (fun ls hl => ?_)
          refine lv_goto (tgt := 7) hx hb dX5_either_46 (by decide) ?_
          exact ih_7 v_28 f_24 _ _ _ (hs.trans ((if_pos c_16).trans (spl_e ev_17 (spl_e ef_19 (spl_e u_23 (spl_e u_27 (spl_e ev_28 rfl))))))) (by omega) ⟨by omega, by omega⟩ hI hF hP hS (lv_sub hl [1, 2, 0] rfl)
  refine lv_aload_n hx hb dX5_either_0 rfl (lv_at hl 0 rfl) ?_
  refine lv_iload_n hx hb dX5_either_1 rfl (lv_at hl 1 rfl) ?_
  refine sg_callv (va_runV (As := [.int 2]) (rest := []) ⟨hx, hb, hml, hown, hts⟩ (kX5_both_2 l D ca za h hh f L Q hI H.size) (sl_c5_both_34_0_0_757_5 hts ⟨Nat.le_of_ble_eq_true rfl, Nat.le_of_ble_eq_true rfl⟩) (sl_vX_4 hA hK hP hS hZ) rfl rfl hl.1 rfl (lv_room (Nat.le_of_ble_eq_true rfl)) dX5_either_2 ⟨Nat.le_refl _, Nat.le_refl _⟩) hA hS (fun f_30 L_31 Q_32 H locs hq hP hS => ?_)
  obtain ⟨⟨hI, hk_f_30, eL9, eQ9⟩, u_33⟩ := hq
  rw [eL9, eQ9] at hP; clear eL9 eQ9
  have hF : sgK WkX5_either_2 f f_30 := sgK.tr hF hk_f_30 (by decide +kernel)
  refine lv_iconst (v := 0) hx hb dX5_either_5 ic_0 ?_
  refine lv_istore_n (lv' := [(2, .int 0), (0, .ref (h 4)), (1, .int 2)]) hx hb dX5_either_6 rfl hl (by decide) rfl (fun ls hl => ?_)
  exact loop_7 121 0 f_30 _ _ _ (hs.trans ((spl_e u_33 rfl))) (by have kc0 : (0 : Int32).toInt = 0 := ti_0; omega) (by decide) hI hF hP hS (lv_sub hl [1, 2, 0] rfl)

abbrev WkX5_opened_2 : List (Nat × Nat × Option Nat) := [(4, 4, some 6), (4, 4, some 7), (4, 4, some 8), (6, 6, none)]
set_option maxHeartbeats 4000000 in
set_option maxRecDepth 100000 in
theorem kX5_opened_2 (l : Launch) (D : va_G) (ca : Nat → ClassId) (za h : Nat → Nat) (hh : sgH 52 h) (f : sg_F) (L : sg_L) (Q : sg_Q) (hI : sgI loX hiX f) (x0 : Int32) (b0 : 33 ≤ x0.toInt ∧ x0.toInt ≤ 49) (sz : Nat) : Met l yX5_opened gwX5_opened { frames := 36, cells := 0, slots := 0, locals := 801 } (sgP D vwCl (tyX ca) 52 h (eX ca h) zcX za f L Q sz [.ref (h 4), .int x0, .int 2]) (sgQv D vwCl 52 h (eX ca h) sz (fun f1 L1 Q1 => ((sgI loX hiX f1 ∧ sgK WkX5_opened_2 f f1 ∧ L1 = L ∧ Q1 = Q) ∧ (f1) = sX5_opened_2 x0 f L))) 0 0 (sgA 52 h sz) := by
  refine sg_ofWv (cc := cX5_opened) (maxL := 3) RX5 (by decide) rfl rfl (Nat.le_of_ble_eq_true rfl) ?_
  intro p e s m below meth cd Qz ls hx hb hml hown hts hK hZ hP hS hl hret
  have hA := sgY.self (n := 52) (h := h) (sz := s.heap.size)
  have hl : lv_has ls 3 [(0, .ref (h 4)), (1, .int x0), (2, .int 2)] := hl
  obtain ⟨H, hH⟩ : ∃ z : Heap, z = s.heap := ⟨_, rfl⟩
  obtain ⟨locs, hlo⟩ : ∃ z : List Loc, z = [] := ⟨_, rfl⟩
  have hP : va_P D vwCl (sgw 52 h (eX ca h) f L Q) H := by rw [hH]; exact hP
  have hS : va_S (sgA 52 h s.heap.size) s.heap H locs := by rw [hH, hlo]; exact hS
  suffices hgo : W p l e ({ frames := 36, cells := 0, slots := 0, locals := 801 }) s m ([.ref (h 4), .int x0, .int 2] : List Value).toArray below meth cd H locs 0 0 Qz (F0 m 0 ls []) by rw [hH, hlo] at hgo; exact hgo
  clear hH hlo
  obtain ⟨sp, hsp⟩ : ∃ z : sg_F, z = sX5_opened_2 x0 f L := ⟨_, rfl⟩
  have hs : sp = sX5_opened_2 x0 f L := hsp
  have hF : sgK WkX5_opened_2 f f := sgK.rf
  refine lv_iload_n hx hb dX5_opened_0 rfl (lv_at hl 1 rfl) ?_
  refine lv_bipush (v := 40) hx hb dX5_opened_1 bp_40 ?_
  refine lv_icmp_eq (tgt := 29) hx hb dX5_opened_3 (by decide) (fun c => ?_) (fun c => ?_)
  · skip
    have c_1 : x0.toInt = 40 := (by first | exact (cm_eq1 ti_40 c) | (have z := Int32.toInt_inj.mpr c; have k1 : (40 : Int32).toInt = 40 := ti_40; omega))
    refine lv_aload_n hx hb dX5_opened_29 rfl (lv_at hl 0 rfl) ?_
    refine lv_iload_n hx hb dX5_opened_30 rfl (lv_at hl 2 rfl) ?_
    refine sg_callv (va_runV (As := [.int 2]) (rest := []) ⟨hx, hb, hml, hown, hts⟩ (kX5_either_2 l D ca za h hh f L Q hI H.size) (sl_c5_either_35_0_0_779_5 hts ⟨Nat.le_of_ble_eq_true rfl, Nat.le_of_ble_eq_true rfl⟩) (sl_vX_4 hA hK hP hS hZ) rfl rfl hl.1 rfl (lv_room (Nat.le_of_ble_eq_true rfl)) dX5_opened_31 ⟨Nat.le_refl _, Nat.le_refl _⟩) hA hS (fun f_3 L_4 Q_5 H locs hq hP hS => ?_)
    obtain ⟨⟨hI, hk_f_3, eL9, eQ9⟩, u_6⟩ := hq
    rw [eL9, eQ9] at hP; clear eL9 eQ9
    have hF : sgK WkX5_opened_2 f f_3 := sgK.tr hF hk_f_3 (by decide +kernel)
    refine lv_aload_n hx hb dX5_opened_34 rfl (lv_at hl 0 rfl) ?_
    obtain ⟨v_7, ev_7⟩ : ∃ z : Int32, z = f_3 4 6 := ⟨_, rfl⟩
    have q_8 : 0 ≤ v_7.toInt ∧ v_7.toInt ≤ 120 := by rw [ev_7]; exact hI 4 6
    have q_9 : (f_3 4 6).toInt = v_7.toInt := (congrArg Int32.toInt (show f_3 4 6 = v_7 from ev_7.symm))
    obtain ⟨v_10, ev_10⟩ : ∃ z : Int32, z = f_3 4 1 := ⟨_, rfl⟩
    have q_11 : 0 ≤ v_10.toInt ∧ v_10.toInt ≤ 120 := by rw [ev_10]; exact hI 4 1
    have q_12 : (f_3 4 1).toInt = v_10.toInt := (congrArg Int32.toInt (show f_3 4 1 = v_10 from ev_10.symm))
    refine sg_calli (va_runV (As := []) (rest := []) ⟨hx, hb, hml, hown, hts⟩ (kX5_next l D ca za h hh f_3 L Q hI H.size) (sl_c5_next_0_0_0_0_5 hts ⟨Nat.le_of_ble_eq_true rfl, Nat.le_of_ble_eq_true rfl⟩) (sl_vX_4 hA hK hP hS hZ) rfl rfl hl.1 rfl (lv_room (Nat.le_of_ble_eq_true rfl)) dX5_opened_35 ⟨Nat.le_refl _, Nat.le_refl _⟩) hA hS (fun r_16 f_13 L_14 Q_15 H locs hq hP hS => ?_)
    obtain ⟨⟨ef9, eL9, eQ9⟩, hq, p_17, u_18⟩ := hq
    replace hs := hs.trans ((if_pos c_1).trans (spl_e u_6 (spl_e ev_7 (spl_e ev_10 (spl_e u_18 rfl)))))
    rw [ef9, eL9, eQ9] at hP; clear ef9 eL9 eQ9
    refine lv_bipush (v := 41) hx hb dX5_opened_38 bp_41 ?_
    refine lv_icmp_ne (tgt := 56) hx hb dX5_opened_40 (by decide) (fun c => ?_) (fun c => ?_)
    · skip
      have c_19 : r_16.toInt ≠ 41 := (by first | exact (cm_ne1 ti_41 c) | (have z := bn_ne c; have k1 : (41 : Int32).toInt = 41 := ti_41; omega))
      refine lv_aload_n hx hb dX5_opened_56 rfl (lv_at hl 0 rfl) ?_
      refine sg_callv (va_runV (As := []) (rest := []) ⟨hx, hb, hml, hown, hts⟩ (kX5_fail l D ca za h hh f_3 L Q hI H.size) (sl_c5_fail_0_0_0_0_5 hts ⟨Nat.le_of_ble_eq_true rfl, Nat.le_of_ble_eq_true rfl⟩) (sl_vX_4 hA hK hP hS hZ) rfl rfl hl.1 rfl (lv_room (Nat.le_of_ble_eq_true rfl)) dX5_opened_57 ⟨Nat.le_refl _, Nat.le_refl _⟩) hA hS (fun f_21 L_22 Q_23 H locs hq hP hS => ?_)
      obtain ⟨⟨hI, hk_f_21, eL9, eQ9⟩, u_24⟩ := hq
      rw [eL9, eQ9] at hP; clear eL9 eQ9
      have hF : sgK WkX5_opened_2 f f_21 := sgK.tr hF hk_f_21 (by decide +kernel)
      exact hret _ _ _ _ f_21 L Q dX5_opened_60 hP hS ⟨⟨hI, hF, rfl, rfl⟩, (Eq.trans (Eq.symm (hs.trans ((if_neg c_19).trans (spl_e u_24 rfl)))) hsp)⟩
    · skip
      have c_20 : r_16.toInt = 41 := (by first | exact (cm_eq1 ti_41 c) | (have z := Int32.toInt_inj.mpr c; have k1 : (41 : Int32).toInt = 41 := ti_41; omega))
      refine lv_aload_n hx hb dX5_opened_43 rfl (lv_at hl 0 rfl) ?_
      refine lv_dup hx hb dX5_opened_44 rfl ?_
      refine sl_gX_4_6_5 (v := v_7) hx hb hts hown hK hP (show f_3 4 6 = v_7 from ev_7.symm) dX5_opened_45 ?_
      refine lv_iconst (v := 1) hx hb dX5_opened_48 ic_1 ?_
      refine lv_iadd hx hb dX5_opened_49 ?_
      refine lv_topi (fun v_25 ev_25 => ?_)
      have q_26 : v_25.toInt = v_7.toInt + 1 := by rw [ev_25]; first | exact cm_add ti_1 (by omega) (by omega) | (have k1 : (1 : Int32).toInt = 1 := ti_1; exact (bn_addI (by omega) (by omega)).trans (by omega))
      refine sl_pX_4_6_5 (x := v_25) hx hb hts hown hh hA hK hP hS dX5_opened_50 (fun f_27 H locs ef_27 hP hS => ?_)
      have hI : sgI loX hiX f_27 := by rw [ef_27]; exact sgI.put hI 4 6 (show 0 ≤ (v_25 : Int32).toInt ∧ (v_25 : Int32).toInt ≤ 120 from ⟨by omega, by omega⟩)
      have hF : sgK WkX5_opened_2 f f_27 := sgK.put hF ef_27 (by rfl)
      refine lv_goto (tgt := 60) hx hb dX5_opened_53 (by decide) ?_
      exact hret _ _ _ _ f_27 L Q dX5_opened_60 hP hS ⟨⟨hI, hF, rfl, rfl⟩, (Eq.trans (Eq.symm (hs.trans ((if_pos c_20).trans (spl_e ev_25 (spl_e ef_27 rfl))))) hsp)⟩
  · skip
    have c_2 : x0.toInt ≠ 40 := (by first | exact (cm_ne1 ti_40 c) | (have z := bn_ne c; have k1 : (40 : Int32).toInt = 40 := ti_40; omega))
    refine lv_aload_n hx hb dX5_opened_6 rfl (lv_at hl 0 rfl) ?_
    refine lv_iload_n hx hb dX5_opened_7 rfl (lv_at hl 2 rfl) ?_
    refine sg_callv (va_runV (As := [.int 2]) (rest := []) ⟨hx, hb, hml, hown, hts⟩ (kX5_operand_2 l D ca za h hh f L Q hI H.size) (sl_c5_operand_30_0_0_667_5 hts ⟨Nat.le_of_ble_eq_true rfl, Nat.le_of_ble_eq_true rfl⟩) (sl_vX_4 hA hK hP hS hZ) rfl rfl hl.1 rfl (lv_room (Nat.le_of_ble_eq_true rfl)) dX5_opened_8 ⟨Nat.le_refl _, Nat.le_refl _⟩) hA hS (fun f_28 L_29 Q_30 H locs hq hP hS => ?_)
    obtain ⟨⟨hI, hk_f_28, eL9, eQ9⟩, u_31⟩ := hq
    replace hs := hs.trans ((if_neg c_2).trans (spl_e u_31 rfl))
    rw [eL9, eQ9] at hP; clear eL9 eQ9
    have hF : sgK WkX5_opened_2 f f_28 := sgK.tr hF hk_f_28 (by decide +kernel)
    refine lv_aload_n hx hb dX5_opened_11 rfl (lv_at hl 0 rfl) ?_
    refine lv_iload_n hx hb dX5_opened_12 rfl (lv_at hl 1 rfl) ?_
    refine lv_bipush (v := 33) hx hb dX5_opened_13 bp_33 ?_
    refine lv_icmp_ne (tgt := 23) hx hb dX5_opened_15 (by decide) (fun c => ?_) (fun c => ?_)
    · skip
      have c_32 : x0.toInt ≠ 33 := (by first | exact (cm_ne1 ti_33 c) | (have z := bn_ne c; have k1 : (33 : Int32).toInt = 33 := ti_33; omega))
      refine lv_bipush (v := 126) hx hb dX5_opened_23 bp_126 ?_
      refine sg_callv (va_runV (As := [.int 126]) (rest := []) ⟨hx, hb, hml, hown, hts⟩ (kX5_write l D ca za h hh f_28 L Q hI 126 H.size) (sl_c5_write_0_0_0_0_5 hts ⟨Nat.le_of_ble_eq_true rfl, Nat.le_of_ble_eq_true rfl⟩) (sl_vX_4 hA hK hP hS hZ) rfl rfl hl.1 rfl (lv_room (Nat.le_of_ble_eq_true rfl)) dX5_opened_25 ⟨Nat.le_refl _, Nat.le_refl _⟩) hA hS (fun f_34 L_35 Q_36 H locs hq hP hS => ?_)
      obtain ⟨⟨hI, hk_f_34, eL9, eQ9⟩, u_37⟩ := hq
      rw [eL9, eQ9] at hP; clear eL9 eQ9
      have hF : sgK WkX5_opened_2 f f_34 := sgK.tr hF hk_f_34 (by decide +kernel)
      exact hret _ _ _ _ f_34 L Q dX5_opened_28 hP hS ⟨⟨hI, hF, rfl, rfl⟩, (Eq.trans (Eq.symm (hs.trans ((if_neg c_32).trans (spl_e u_37 rfl)))) hsp)⟩
    · skip
      have c_33 : x0.toInt = 33 := (by first | exact (cm_eq1 ti_33 c) | (have z := Int32.toInt_inj.mpr c; have k1 : (33 : Int32).toInt = 33 := ti_33; omega))
      refine lv_bipush (v := 33) hx hb dX5_opened_18 bp_33 ?_
      refine lv_goto (tgt := 25) hx hb dX5_opened_20 (by decide) ?_
      refine sg_callv (va_runV (As := [.int 33]) (rest := []) ⟨hx, hb, hml, hown, hts⟩ (kX5_write l D ca za h hh f_28 L Q hI 33 H.size) (sl_c5_write_0_0_0_0_5 hts ⟨Nat.le_of_ble_eq_true rfl, Nat.le_of_ble_eq_true rfl⟩) (sl_vX_4 hA hK hP hS hZ) rfl rfl hl.1 rfl (lv_room (Nat.le_of_ble_eq_true rfl)) dX5_opened_25 ⟨Nat.le_refl _, Nat.le_refl _⟩) hA hS (fun f_38 L_39 Q_40 H locs hq hP hS => ?_)
      obtain ⟨⟨hI, hk_f_38, eL9, eQ9⟩, u_41⟩ := hq
      rw [eL9, eQ9] at hP; clear eL9 eQ9
      have hF : sgK WkX5_opened_2 f f_38 := sgK.tr hF hk_f_38 (by decide +kernel)
      exact hret _ _ _ _ f_38 L Q dX5_opened_28 hP hS ⟨⟨hI, hF, rfl, rfl⟩, (Eq.trans (Eq.symm (hs.trans ((if_pos c_33).trans (spl_e u_41 rfl)))) hsp)⟩

abbrev WkX5_operand_1 : List (Nat × Nat × Option Nat) := [(4, 4, some 6), (4, 4, some 7), (4, 4, some 8), (6, 6, none)]
set_option maxHeartbeats 4000000 in
set_option maxRecDepth 100000 in
theorem kX5_operand_1 (l : Launch) (D : va_G) (ca : Nat → ClassId) (za h : Nat → Nat) (hh : sgH 52 h) (f : sg_F) (L : sg_L) (Q : sg_Q) (hI : sgI loX hiX f) (sz : Nat) : Met l yX5_operand gwX5_operand { frames := 37, cells := 0, slots := 0, locals := 823 } (sgP D vwCl (tyX ca) 52 h (eX ca h) zcX za f L Q sz [.ref (h 4), .int 1]) (sgQv D vwCl 52 h (eX ca h) sz (fun f1 L1 Q1 => ((sgI loX hiX f1 ∧ sgK WkX5_operand_1 f f1 ∧ L1 = L ∧ Q1 = Q) ∧ (f1) = sX5_operand_1 f L))) 0 0 (sgA 52 h sz) := by
  refine sg_ofWv (cc := cX5_operand) (maxL := 3) RX5 (by decide) rfl rfl (Nat.le_of_ble_eq_true rfl) ?_
  intro p e s m below meth cd Qz ls hx hb hml hown hts hK hZ hP hS hl hret
  have hA := sgY.self (n := 52) (h := h) (sz := s.heap.size)
  have hl : lv_has ls 3 [(0, .ref (h 4)), (1, .int 1)] := hl
  obtain ⟨H, hH⟩ : ∃ z : Heap, z = s.heap := ⟨_, rfl⟩
  obtain ⟨locs, hlo⟩ : ∃ z : List Loc, z = [] := ⟨_, rfl⟩
  have hP : va_P D vwCl (sgw 52 h (eX ca h) f L Q) H := by rw [hH]; exact hP
  have hS : va_S (sgA 52 h s.heap.size) s.heap H locs := by rw [hH, hlo]; exact hS
  suffices hgo : W p l e ({ frames := 37, cells := 0, slots := 0, locals := 823 }) s m ([.ref (h 4), .int 1] : List Value).toArray below meth cd H locs 0 0 Qz (F0 m 0 ls []) by rw [hH, hlo] at hgo; exact hgo
  clear hH hlo
  obtain ⟨sp, hsp⟩ : ∃ z : sg_F, z = sX5_operand_1 f L := ⟨_, rfl⟩
  have hs : sp = sX5_operand_1 f L := hsp
  have hF : sgK WkX5_operand_1 f f := sgK.rf
  refine lv_aload_n hx hb dX5_operand_0 rfl (lv_at hl 0 rfl) ?_
  obtain ⟨v_1, ev_1⟩ : ∃ z : Int32, z = f 4 6 := ⟨_, rfl⟩
  have q_2 : 0 ≤ v_1.toInt ∧ v_1.toInt ≤ 120 := by rw [ev_1]; exact hI 4 6
  have q_3 : (f 4 6).toInt = v_1.toInt := (congrArg Int32.toInt (show f 4 6 = v_1 from ev_1.symm))
  obtain ⟨v_4, ev_4⟩ : ∃ z : Int32, z = f 4 1 := ⟨_, rfl⟩
  have q_5 : 0 ≤ v_4.toInt ∧ v_4.toInt ≤ 120 := by rw [ev_4]; exact hI 4 1
  have q_6 : (f 4 1).toInt = v_4.toInt := (congrArg Int32.toInt (show f 4 1 = v_4 from ev_4.symm))
  refine sg_calli (va_runV (As := []) (rest := []) ⟨hx, hb, hml, hown, hts⟩ (kX5_next l D ca za h hh f L Q hI H.size) (sl_c5_next_0_0_0_0_5 hts ⟨Nat.le_of_ble_eq_true rfl, Nat.le_of_ble_eq_true rfl⟩) (sl_vX_4 hA hK hP hS hZ) rfl rfl hl.1 rfl (lv_room (Nat.le_of_ble_eq_true rfl)) dX5_operand_1 ⟨Nat.le_refl _, Nat.le_refl _⟩) hA hS (fun r_10 f_7 L_8 Q_9 H locs hq hP hS => ?_)
  obtain ⟨⟨ef9, eL9, eQ9⟩, hq, p_11, u_12⟩ := hq
  rw [ef9, eL9, eQ9] at hP; clear ef9 eL9 eQ9
  refine lv_istore_n (lv' := [(2, .int r_10), (0, .ref (h 4)), (1, .int 1)]) hx hb dX5_operand_4 rfl hl (by decide) rfl (fun ls hl => ?_)
  refine lv_iload_n hx hb dX5_operand_5 rfl (lv_at hl 0 rfl) ?_
  refine sg_calli (va_runS (As := [.int r_10]) (rest := []) ⟨hx, hb, hml, hown, hts⟩ (kX5_isDigit l D ca za h hh f L Q hI r_10 ⟨by omega, by omega⟩ H.size) (va_cwS 1 hts (gw_S (fun _ h => List.mem_cons_of_mem _ h) mw_505 mw_506 mw_73 mw_504) rfl rfl rfl hd_yX5_isDigit.2 ⟨Nat.le_of_ble_eq_true rfl, Nat.le_of_ble_eq_true rfl⟩) (sg_preS hA hK hP hS hZ) rfl rfl hl.1 rfl (lv_room (Nat.le_of_ble_eq_true rfl)) dX5_operand_6 ⟨Nat.le_refl _, Nat.le_refl _⟩) hA hS (fun r_16 f_13 L_14 Q_15 H locs hq hP hS => ?_)
  obtain ⟨⟨ef9, eL9, eQ9⟩, hq, u_17⟩ := hq
  replace hs := hs.trans (spl_e ev_1 (spl_e ev_4 (spl_e u_12 (spl_e u_17 rfl))))
  rw [ef9, eL9, eQ9] at hP; clear ef9 eL9 eQ9
  rcases hq with ⟨rfl, hq⟩ | ⟨rfl, hq⟩
  · skip
    have hc_18 := hq
    refine lv_if_eq (tgt := 19) hx hb dX5_operand_9 (by decide) (fun c => absurd c (by decide)) (fun c => ?_)
    refine lv_aload_n hx hb dX5_operand_12 rfl (lv_at hl 1 rfl) ?_
    refine sg_callv (va_runV (As := []) (rest := []) ⟨hx, hb, hml, hown, hts⟩ (kX5_number l D ca za h hh f L Q hI H.size) (sl_c5_number_1_0_0_21_5 hts ⟨Nat.le_of_ble_eq_true rfl, Nat.le_of_ble_eq_true rfl⟩) (sl_vX_4 hA hK hP hS hZ) rfl rfl hl.1 rfl (lv_room (Nat.le_of_ble_eq_true rfl)) dX5_operand_13 ⟨Nat.le_refl _, Nat.le_refl _⟩) hA hS (fun f_19 L_20 Q_21 H locs hq hP hS => ?_)
    obtain ⟨⟨hI, hk_f_19, eL9, eQ9⟩, u_22⟩ := hq
    rw [eL9, eQ9] at hP; clear eL9 eQ9
    have hF : sgK WkX5_operand_1 f f_19 := sgK.tr hF hk_f_19 (by decide +kernel)
    refine lv_goto (tgt := 93) hx hb dX5_operand_16 (by decide) ?_
    exact hret _ _ _ _ f_19 L Q dX5_operand_93 hP hS ⟨⟨hI, hF, rfl, rfl⟩, (Eq.trans (Eq.symm (hs.trans ((if_pos rfl).trans (spl_e u_22 rfl)))) hsp)⟩
  · skip
    have hc_18 := hq
    refine lv_if_eq (tgt := 19) hx hb dX5_operand_9 (by decide) (fun c => ?_) (fun c => absurd c (by decide))
    refine lv_iload_n hx hb dX5_operand_19 rfl (lv_at hl 0 rfl) ?_
    refine sg_calli (va_runS (As := [.int r_10]) (rest := []) ⟨hx, hb, hml, hown, hts⟩ (kX5_isName l D ca za h hh f L Q hI r_10 ⟨by omega, by omega⟩ H.size) (va_cwS 1 hts (gw_S (fun _ h => List.mem_cons_of_mem _ h) mw_525 mw_526 mw_73 mw_524) rfl rfl rfl hd_yX5_isName.2 ⟨Nat.le_of_ble_eq_true rfl, Nat.le_of_ble_eq_true rfl⟩) (sg_preS hA hK hP hS hZ) rfl rfl hl.1 rfl (lv_room (Nat.le_of_ble_eq_true rfl)) dX5_operand_20 ⟨Nat.le_refl _, Nat.le_refl _⟩) hA hS (fun r_26 f_23 L_24 Q_25 H locs hq hP hS => ?_)
    obtain ⟨⟨ef9, eL9, eQ9⟩, hq, u_27⟩ := hq
    replace hs := hs.trans ((if_neg (by decide)).trans (spl_e u_27 rfl))
    rw [ef9, eL9, eQ9] at hP; clear ef9 eL9 eQ9
    rcases hq with ⟨rfl, hq⟩ | ⟨rfl, hq⟩
    · skip
      have hc_28 := hq
      refine lv_if_eq (tgt := 44) hx hb dX5_operand_23 (by decide) (fun c => absurd c (by decide)) (fun c => ?_)
      refine lv_aload_n hx hb dX5_operand_26 rfl (lv_at hl 1 rfl) ?_
      refine lv_dup hx hb dX5_operand_27 rfl ?_
      refine sl_gX_4_6_5 (v := v_1) hx hb hts hown hK hP (show f 4 6 = v_1 from ev_1.symm) dX5_operand_28 ?_
      refine lv_iconst (v := 1) hx hb dX5_operand_31 ic_1 ?_
      refine lv_iadd hx hb dX5_operand_32 ?_
      refine lv_topi (fun v_29 ev_29 => ?_)
      have q_30 : v_29.toInt = v_1.toInt + 1 := by rw [ev_29]; first | exact cm_add ti_1 (by omega) (by omega) | (have k1 : (1 : Int32).toInt = 1 := ti_1; exact (bn_addI (by omega) (by omega)).trans (by omega))
      refine sl_pX_4_6_5 (x := v_29) hx hb hts hown hh hA hK hP hS dX5_operand_33 (fun f_31 H locs ef_31 hP hS => ?_)
      have hI : sgI loX hiX f_31 := by rw [ef_31]; exact sgI.put hI 4 6 (show 0 ≤ (v_29 : Int32).toInt ∧ (v_29 : Int32).toInt ≤ 120 from ⟨by omega, by omega⟩)
      have hF : sgK WkX5_operand_1 f f_31 := sgK.put hF ef_31 (by rfl)
      refine lv_aload_n hx hb dX5_operand_36 rfl (lv_at hl 1 rfl) ?_
      refine lv_iload_n hx hb dX5_operand_37 rfl (lv_at hl 0 rfl) ?_
      refine sg_callv (va_runV (As := [.int r_10]) (rest := []) ⟨hx, hb, hml, hown, hts⟩ (kX5_write l D ca za h hh f_31 L Q hI r_10 H.size) (sl_c5_write_0_0_0_0_5 hts ⟨Nat.le_of_ble_eq_true rfl, Nat.le_of_ble_eq_true rfl⟩) (sl_vX_4 hA hK hP hS hZ) rfl rfl hl.1 rfl (lv_room (Nat.le_of_ble_eq_true rfl)) dX5_operand_38 ⟨Nat.le_refl _, Nat.le_refl _⟩) hA hS (fun f_32 L_33 Q_34 H locs hq hP hS => ?_)
      obtain ⟨⟨hI, hk_f_32, eL9, eQ9⟩, u_35⟩ := hq
      rw [eL9, eQ9] at hP; clear eL9 eQ9
      have hF : sgK WkX5_operand_1 f f_32 := sgK.tr hF hk_f_32 (by decide +kernel)
      refine lv_goto (tgt := 93) hx hb dX5_operand_41 (by decide) ?_
      exact hret _ _ _ _ f_32 L Q dX5_operand_93 hP hS ⟨⟨hI, hF, rfl, rfl⟩, (Eq.trans (Eq.symm (hs.trans ((if_pos rfl).trans (spl_e ev_29 (spl_e ef_31 (spl_e u_35 rfl)))))) hsp)⟩
    · skip
      have hc_28 := hq
      refine lv_if_eq (tgt := 44) hx hb dX5_operand_23 (by decide) (fun c => ?_) (fun c => absurd c (by decide))
      refine lv_iload_n hx hb dX5_operand_44 rfl (lv_at hl 0 rfl) ?_
      refine lv_bipush (v := 40) hx hb dX5_operand_45 bp_40 ?_
      refine lv_icmp_eq (tgt := 62) hx hb dX5_operand_47 (by decide) (fun c => ?_) (fun c => ?_)
      · skip
        have c_36 : r_10.toInt = 40 := (by first | exact (cm_eq1 ti_40 c) | (have z := Int32.toInt_inj.mpr c; have k1 : (40 : Int32).toInt = 40 := ti_40; omega))
        refine lv_iload_n hx hb dX5_operand_62 rfl (lv_at hl 2 rfl) ?_
        refine lv_bipush (v := 6) hx hb dX5_operand_63 bp_6 ?_
        refine lv_icmp_lt (tgt := 75) hx hb dX5_operand_65 (by decide) (fun c => ?_) (fun c => absurd c (by decide))
        refine lv_aload_n hx hb dX5_operand_75 rfl (lv_at hl 1 rfl) ?_
        refine lv_dup hx hb dX5_operand_76 rfl ?_
        refine sl_gX_4_6_5 (v := v_1) hx hb hts hown hK hP (show f 4 6 = v_1 from ev_1.symm) dX5_operand_77 ?_
        refine lv_iconst (v := 1) hx hb dX5_operand_80 ic_1 ?_
        refine lv_iadd hx hb dX5_operand_81 ?_
        refine lv_topi (fun v_38 ev_38 => ?_)
        have q_39 : v_38.toInt = v_1.toInt + 1 := by rw [ev_38]; first | exact cm_add ti_1 (by omega) (by omega) | (have k1 : (1 : Int32).toInt = 1 := ti_1; exact (bn_addI (by omega) (by omega)).trans (by omega))
        refine sl_pX_4_6_5 (x := v_38) hx hb hts hown hh hA hK hP hS dX5_operand_82 (fun f_40 H locs ef_40 hP hS => ?_)
        have hI : sgI loX hiX f_40 := by rw [ef_40]; exact sgI.put hI 4 6 (show 0 ≤ (v_38 : Int32).toInt ∧ (v_38 : Int32).toInt ≤ 120 from ⟨by omega, by omega⟩)
        have hF : sgK WkX5_operand_1 f f_40 := sgK.put hF ef_40 (by rfl)
        refine lv_aload_n hx hb dX5_operand_85 rfl (lv_at hl 1 rfl) ?_
        refine lv_iload_n hx hb dX5_operand_86 rfl (lv_at hl 0 rfl) ?_
        refine lv_iload_n hx hb dX5_operand_87 rfl (lv_at hl 2 rfl) ?_
        refine lv_iconst (v := 1) hx hb dX5_operand_88 ic_1 ?_
        refine lv_iadd hx hb dX5_operand_89 ?_
        refine W.eq (g2 := F0 m 90 ls [.int 2, .int r_10, .ref (h 4)]) (by rw [show (1 + 1 : Int32) = 2 from by decide]) ?_
        refine sg_callv (va_runV (As := [.int r_10, .int 2]) (rest := []) ⟨hx, hb, hml, hown, hts⟩ (kX5_opened_2 l D ca za h hh f_40 L Q hI r_10 ⟨by omega, by omega⟩ H.size) (sl_c5_opened_36_0_0_801_5 hts ⟨Nat.le_of_ble_eq_true rfl, Nat.le_of_ble_eq_true rfl⟩) (sl_vX_4 hA hK hP hS hZ) rfl rfl hl.1 rfl (lv_room (Nat.le_of_ble_eq_true rfl)) dX5_operand_90 ⟨Nat.le_refl _, Nat.le_refl _⟩) hA hS (fun f_41 L_42 Q_43 H locs hq hP hS => ?_)
        obtain ⟨⟨hI, hk_f_41, eL9, eQ9⟩, u_44⟩ := hq
        rw [eL9, eQ9] at hP; clear eL9 eQ9
        have hF : sgK WkX5_operand_1 f f_41 := sgK.tr hF hk_f_41 (by decide +kernel)
        exact hret _ _ _ _ f_41 L Q dX5_operand_93 hP hS ⟨⟨hI, hF, rfl, rfl⟩, (Eq.trans (Eq.symm (hs.trans ((if_neg (by decide)).trans ((if_pos c_36).trans (spl_e ev_38 (spl_e ef_40 (spl_e u_44 rfl))))))) hsp)⟩
      · skip
        have c_37 : r_10.toInt ≠ 40 := (by first | exact (cm_ne1 ti_40 c) | (have z := bn_ne c; have k1 : (40 : Int32).toInt = 40 := ti_40; omega))
        replace hs := hs.trans ((if_neg (by decide)).trans ((if_neg c_37).trans rfl))
        refine lv_iload_n hx hb dX5_operand_50 rfl (lv_at hl 0 rfl) ?_
        refine lv_bipush (v := 33) hx hb dX5_operand_51 bp_33 ?_
        refine lv_icmp_eq (tgt := 62) hx hb dX5_operand_53 (by decide) (fun c => ?_) (fun c => ?_)
        · skip
          have c_45 : r_10.toInt = 33 := (by first | exact (cm_eq1 ti_33 c) | (have z := Int32.toInt_inj.mpr c; have k1 : (33 : Int32).toInt = 33 := ti_33; omega))
          refine lv_iload_n hx hb dX5_operand_62 rfl (lv_at hl 2 rfl) ?_
          refine lv_bipush (v := 6) hx hb dX5_operand_63 bp_6 ?_
          refine lv_icmp_lt (tgt := 75) hx hb dX5_operand_65 (by decide) (fun c => ?_) (fun c => absurd c (by decide))
          refine lv_aload_n hx hb dX5_operand_75 rfl (lv_at hl 1 rfl) ?_
          refine lv_dup hx hb dX5_operand_76 rfl ?_
          refine sl_gX_4_6_5 (v := v_1) hx hb hts hown hK hP (show f 4 6 = v_1 from ev_1.symm) dX5_operand_77 ?_
          refine lv_iconst (v := 1) hx hb dX5_operand_80 ic_1 ?_
          refine lv_iadd hx hb dX5_operand_81 ?_
          refine lv_topi (fun v_47 ev_47 => ?_)
          have q_48 : v_47.toInt = v_1.toInt + 1 := by rw [ev_47]; first | exact cm_add ti_1 (by omega) (by omega) | (have k1 : (1 : Int32).toInt = 1 := ti_1; exact (bn_addI (by omega) (by omega)).trans (by omega))
          refine sl_pX_4_6_5 (x := v_47) hx hb hts hown hh hA hK hP hS dX5_operand_82 (fun f_49 H locs ef_49 hP hS => ?_)
          have hI : sgI loX hiX f_49 := by rw [ef_49]; exact sgI.put hI 4 6 (show 0 ≤ (v_47 : Int32).toInt ∧ (v_47 : Int32).toInt ≤ 120 from ⟨by omega, by omega⟩)
          have hF : sgK WkX5_operand_1 f f_49 := sgK.put hF ef_49 (by rfl)
          refine lv_aload_n hx hb dX5_operand_85 rfl (lv_at hl 1 rfl) ?_
          refine lv_iload_n hx hb dX5_operand_86 rfl (lv_at hl 0 rfl) ?_
          refine lv_iload_n hx hb dX5_operand_87 rfl (lv_at hl 2 rfl) ?_
          refine lv_iconst (v := 1) hx hb dX5_operand_88 ic_1 ?_
          refine lv_iadd hx hb dX5_operand_89 ?_
          refine W.eq (g2 := F0 m 90 ls [.int 2, .int r_10, .ref (h 4)]) (by rw [show (1 + 1 : Int32) = 2 from by decide]) ?_
          refine sg_callv (va_runV (As := [.int r_10, .int 2]) (rest := []) ⟨hx, hb, hml, hown, hts⟩ (kX5_opened_2 l D ca za h hh f_49 L Q hI r_10 ⟨by omega, by omega⟩ H.size) (sl_c5_opened_36_0_0_801_5 hts ⟨Nat.le_of_ble_eq_true rfl, Nat.le_of_ble_eq_true rfl⟩) (sl_vX_4 hA hK hP hS hZ) rfl rfl hl.1 rfl (lv_room (Nat.le_of_ble_eq_true rfl)) dX5_operand_90 ⟨Nat.le_refl _, Nat.le_refl _⟩) hA hS (fun f_50 L_51 Q_52 H locs hq hP hS => ?_)
          obtain ⟨⟨hI, hk_f_50, eL9, eQ9⟩, u_53⟩ := hq
          rw [eL9, eQ9] at hP; clear eL9 eQ9
          have hF : sgK WkX5_operand_1 f f_50 := sgK.tr hF hk_f_50 (by decide +kernel)
          exact hret _ _ _ _ f_50 L Q dX5_operand_93 hP hS ⟨⟨hI, hF, rfl, rfl⟩, (Eq.trans (Eq.symm (hs.trans ((if_pos c_45).trans (spl_e ev_47 (spl_e ef_49 (spl_e u_53 rfl)))))) hsp)⟩
        · skip
          have c_46 : r_10.toInt ≠ 33 := (by first | exact (cm_ne1 ti_33 c) | (have z := bn_ne c; have k1 : (33 : Int32).toInt = 33 := ti_33; omega))
          replace hs := hs.trans ((if_neg c_46).trans rfl)
          refine lv_iload_n hx hb dX5_operand_56 rfl (lv_at hl 0 rfl) ?_
          refine lv_bipush (v := 45) hx hb dX5_operand_57 bp_45 ?_
          refine lv_icmp_ne (tgt := 68) hx hb dX5_operand_59 (by decide) (fun c => ?_) (fun c => ?_)
          · skip
            have c_54 : r_10.toInt ≠ 45 := (by first | exact (cm_ne1 ti_45 c) | (have z := bn_ne c; have k1 : (45 : Int32).toInt = 45 := ti_45; omega))
            refine lv_aload_n hx hb dX5_operand_68 rfl (lv_at hl 1 rfl) ?_
            refine sg_callv (va_runV (As := []) (rest := []) ⟨hx, hb, hml, hown, hts⟩ (kX5_fail l D ca za h hh f L Q hI H.size) (sl_c5_fail_0_0_0_0_5 hts ⟨Nat.le_of_ble_eq_true rfl, Nat.le_of_ble_eq_true rfl⟩) (sl_vX_4 hA hK hP hS hZ) rfl rfl hl.1 rfl (lv_room (Nat.le_of_ble_eq_true rfl)) dX5_operand_69 ⟨Nat.le_refl _, Nat.le_refl _⟩) hA hS (fun f_56 L_57 Q_58 H locs hq hP hS => ?_)
            obtain ⟨⟨hI, hk_f_56, eL9, eQ9⟩, u_59⟩ := hq
            rw [eL9, eQ9] at hP; clear eL9 eQ9
            have hF : sgK WkX5_operand_1 f f_56 := sgK.tr hF hk_f_56 (by decide +kernel)
            refine lv_goto (tgt := 93) hx hb dX5_operand_72 (by decide) ?_
            exact hret _ _ _ _ f_56 L Q dX5_operand_93 hP hS ⟨⟨hI, hF, rfl, rfl⟩, (Eq.trans (Eq.symm (hs.trans ((if_neg c_54).trans (spl_e u_59 rfl)))) hsp)⟩
          · skip
            have c_55 : r_10.toInt = 45 := (by first | exact (cm_eq1 ti_45 c) | (have z := Int32.toInt_inj.mpr c; have k1 : (45 : Int32).toInt = 45 := ti_45; omega))
            refine lv_iload_n hx hb dX5_operand_62 rfl (lv_at hl 2 rfl) ?_
            refine lv_bipush (v := 6) hx hb dX5_operand_63 bp_6 ?_
            refine lv_icmp_lt (tgt := 75) hx hb dX5_operand_65 (by decide) (fun c => ?_) (fun c => absurd c (by decide))
            refine lv_aload_n hx hb dX5_operand_75 rfl (lv_at hl 1 rfl) ?_
            refine lv_dup hx hb dX5_operand_76 rfl ?_
            refine sl_gX_4_6_5 (v := v_1) hx hb hts hown hK hP (show f 4 6 = v_1 from ev_1.symm) dX5_operand_77 ?_
            refine lv_iconst (v := 1) hx hb dX5_operand_80 ic_1 ?_
            refine lv_iadd hx hb dX5_operand_81 ?_
            refine lv_topi (fun v_60 ev_60 => ?_)
            have q_61 : v_60.toInt = v_1.toInt + 1 := by rw [ev_60]; first | exact cm_add ti_1 (by omega) (by omega) | (have k1 : (1 : Int32).toInt = 1 := ti_1; exact (bn_addI (by omega) (by omega)).trans (by omega))
            refine sl_pX_4_6_5 (x := v_60) hx hb hts hown hh hA hK hP hS dX5_operand_82 (fun f_62 H locs ef_62 hP hS => ?_)
            have hI : sgI loX hiX f_62 := by rw [ef_62]; exact sgI.put hI 4 6 (show 0 ≤ (v_60 : Int32).toInt ∧ (v_60 : Int32).toInt ≤ 120 from ⟨by omega, by omega⟩)
            have hF : sgK WkX5_operand_1 f f_62 := sgK.put hF ef_62 (by rfl)
            refine lv_aload_n hx hb dX5_operand_85 rfl (lv_at hl 1 rfl) ?_
            refine lv_iload_n hx hb dX5_operand_86 rfl (lv_at hl 0 rfl) ?_
            refine lv_iload_n hx hb dX5_operand_87 rfl (lv_at hl 2 rfl) ?_
            refine lv_iconst (v := 1) hx hb dX5_operand_88 ic_1 ?_
            refine lv_iadd hx hb dX5_operand_89 ?_
            refine W.eq (g2 := F0 m 90 ls [.int 2, .int r_10, .ref (h 4)]) (by rw [show (1 + 1 : Int32) = 2 from by decide]) ?_
            refine sg_callv (va_runV (As := [.int r_10, .int 2]) (rest := []) ⟨hx, hb, hml, hown, hts⟩ (kX5_opened_2 l D ca za h hh f_62 L Q hI r_10 ⟨by omega, by omega⟩ H.size) (sl_c5_opened_36_0_0_801_5 hts ⟨Nat.le_of_ble_eq_true rfl, Nat.le_of_ble_eq_true rfl⟩) (sl_vX_4 hA hK hP hS hZ) rfl rfl hl.1 rfl (lv_room (Nat.le_of_ble_eq_true rfl)) dX5_operand_90 ⟨Nat.le_refl _, Nat.le_refl _⟩) hA hS (fun f_63 L_64 Q_65 H locs hq hP hS => ?_)
            obtain ⟨⟨hI, hk_f_63, eL9, eQ9⟩, u_66⟩ := hq
            rw [eL9, eQ9] at hP; clear eL9 eQ9
            have hF : sgK WkX5_operand_1 f f_63 := sgK.tr hF hk_f_63 (by decide +kernel)
            exact hret _ _ _ _ f_63 L Q dX5_operand_93 hP hS ⟨⟨hI, hF, rfl, rfl⟩, (Eq.trans (Eq.symm (hs.trans ((if_pos c_55).trans (spl_e ev_60 (spl_e ef_62 (spl_e u_66 rfl)))))) hsp)⟩

abbrev WkX5_product_1 : List (Nat × Nat × Option Nat) := [(4, 4, some 6), (4, 4, some 7), (4, 4, some 8), (6, 6, none)]
set_option maxHeartbeats 4000000 in
set_option maxRecDepth 100000 in
theorem kX5_product_1 (l : Launch) (D : va_G) (ca : Nat → ClassId) (za h : Nat → Nat) (hh : sgH 52 h) (f : sg_F) (L : sg_L) (Q : sg_Q) (hI : sgI loX hiX f) (sz : Nat) : Met l yX5_product gwX5_product { frames := 38, cells := 0, slots := 0, locals := 845 } (sgP D vwCl (tyX ca) 52 h (eX ca h) zcX za f L Q sz [.ref (h 4), .int 1]) (sgQv D vwCl 52 h (eX ca h) sz (fun f1 L1 Q1 => ((sgI loX hiX f1 ∧ sgK WkX5_product_1 f f1 ∧ L1 = L ∧ Q1 = Q) ∧ (f1) = sX5_product_1 f L))) 0 0 (sgA 52 h sz) := by
  refine sg_ofWv (cc := cX5_product) (maxL := 4) RX5 (by decide) rfl rfl (Nat.le_of_ble_eq_true rfl) ?_
  intro p e s m below meth cd Qz ls hx hb hml hown hts hK hZ hP hS hl hret
  have hA := sgY.self (n := 52) (h := h) (sz := s.heap.size)
  have hl : lv_has ls 4 [(0, .ref (h 4)), (1, .int 1)] := hl
  obtain ⟨H, hH⟩ : ∃ z : Heap, z = s.heap := ⟨_, rfl⟩
  obtain ⟨locs, hlo⟩ : ∃ z : List Loc, z = [] := ⟨_, rfl⟩
  have hP : va_P D vwCl (sgw 52 h (eX ca h) f L Q) H := by rw [hH]; exact hP
  have hS : va_S (sgA 52 h s.heap.size) s.heap H locs := by rw [hH, hlo]; exact hS
  suffices hgo : W p l e ({ frames := 38, cells := 0, slots := 0, locals := 845 }) s m ([.ref (h 4), .int 1] : List Value).toArray below meth cd H locs 0 0 Qz (F0 m 0 ls []) by rw [hH, hlo] at hgo; exact hgo
  clear hH hlo
  obtain ⟨sp, hsp⟩ : ∃ z : sg_F, z = sX5_product_1 f L := ⟨_, rfl⟩
  have hs : sp = sX5_product_1 f L := hsp
  obtain ⟨v_1, ev_1⟩ : ∃ z : Int32, z = f 4 6 := ⟨_, rfl⟩
  have q_2 : 0 ≤ v_1.toInt ∧ v_1.toInt ≤ 120 := by rw [ev_1]; exact hI 4 6
  obtain ⟨v_3, ev_3⟩ : ∃ z : Int32, z = f 4 1 := ⟨_, rfl⟩
  have q_4 : 0 ≤ v_3.toInt ∧ v_3.toInt ≤ 120 := by rw [ev_3]; exact hI 4 1
  have o_5 : (f 4 6).toInt = v_1.toInt := (congrArg Int32.toInt (show f 4 6 = v_1 from ev_1.symm))
  have o_6 : (f 4 1).toInt = v_3.toInt := (congrArg Int32.toInt (show f 4 1 = v_3 from ev_3.symm))
  have hF : sgK WkX5_product_1 f f := sgK.rf
  have loop_12 : ∀ (n_12 : Nat) (y2_12 : Int32) (y3_12 : Int32) (fp_12 : sg_F) (H : Heap) (locs : List Loc) (ls : Array Slot), sp = sX5_product_1_l12 n_12 y2_12 y3_12 fp_12 L → 120 - y3_12.toInt < (n_12 : Int) → (-1) ≤ y2_12.toInt ∧ y2_12.toInt ≤ 255 → 0 ≤ y3_12.toInt ∧ y3_12.toInt ≤ 120 → y2_12.toInt < 0 ∨ (fp_12 4 6).toInt < (fp_12 4 1).toInt → sgI loX hiX fp_12 → sgK WkX5_product_1 f fp_12 → va_P D vwCl (sgw 52 h (eX ca h) fp_12 L Q) H → va_S (sgA 52 h s.heap.size) s.heap H locs → lv_has ls 4 [(0, .ref (h 4)), (1, .int 1), (2, .int y2_12), (3, .int y3_12)] → W p l e ({ frames := 38, cells := 0, slots := 0, locals := 845 }) s m ([.ref (h 4), .int 1] : List Value).toArray below meth cd H locs 0 0 Qz (F0 m 12 ls []) := by
    intro n_12
    induction n_12 with
    | zero => intro y2_12 y3_12 fp_12 H locs ls hs hm_12 hy0_12 hy1_12 hg0_12 hI hF hP hS hl; exact absurd hm_12 (by omega)
    | succ n_12 ih_12 =>
      intro y2_12 y3_12 fp_12 H locs ls hs hm_12 hy0_12 hy1_12 hg0_12 hI hF hP hS hl
      have hs : sp = sX5_product_1_h12 (sX5_product_1_l12 n_12) y2_12 y3_12 fp_12 L := hs
      obtain ⟨v_7, ev_7⟩ : ∃ z : Int32, z = fp_12 4 6 := ⟨_, rfl⟩
      have q_8 : 0 ≤ v_7.toInt ∧ v_7.toInt ≤ 120 := by rw [ev_7]; exact hI 4 6
      have q_9 : (fp_12 4 6).toInt = v_7.toInt := by rw [ev_7]
      obtain ⟨v_10, ev_10⟩ : ∃ z : Int32, z = fp_12 4 1 := ⟨_, rfl⟩
      replace hs := hs.trans (spl_e ev_7 (spl_e ev_10 rfl))
      have q_11 : 0 ≤ v_10.toInt ∧ v_10.toInt ≤ 120 := by rw [ev_10]; exact hI 4 1
      have q_12 : (fp_12 4 1).toInt = v_10.toInt := by rw [ev_10]
      refine lv_iload_n hx hb dX5_product_12 rfl (lv_at hl 3 rfl) ?_
      refine lv_bipush (v := 120) hx hb dX5_product_13 bp_120 ?_
      refine lv_icmp_ge (tgt := 67) hx hb dX5_product_15 (by decide) (fun c => ?_) (fun c => ?_)
      · skip
        have c_13 : 120 ≤ y3_12.toInt := (by first | exact (cm_le0 ti_120 c) | (have z := bn_le c; have k1 : (120 : Int32).toInt = 120 := ti_120; omega))
        exact hret _ _ _ _ fp_12 L Q dX5_product_67 hP hS ⟨⟨hI, hF, rfl, rfl⟩, (Eq.trans (Eq.symm (hs.trans ((if_neg (Int.not_lt.mpr c_13)).trans rfl))) hsp)⟩
      · skip
        have c_14 : y3_12.toInt < 120 := (by first | exact (cm_nle0 ti_120 c) | (have z := bn_nle c; have k1 : (120 : Int32).toInt = 120 := ti_120; omega))
        replace hs := hs.trans ((if_pos c_14).trans rfl)
        refine lv_iload_n hx hb dX5_product_18 rfl (lv_at hl 2 rfl) ?_
        refine lv_bipush (v := 42) hx hb dX5_product_19 bp_42 ?_
        refine lv_icmp_eq (tgt := 36) hx hb dX5_product_21 (by decide) (fun c => ?_) (fun c => ?_)
        · skip
          have c_15 : y2_12.toInt = 42 := (by first | exact (cm_eq1 ti_42 c) | (have z := Int32.toInt_inj.mpr c; have k1 : (42 : Int32).toInt = 42 := ti_42; omega))
          refine lv_aload_n hx hb dX5_product_36 rfl (lv_at hl 0 rfl) ?_
          refine lv_dup hx hb dX5_product_37 rfl ?_
          refine sl_gX_4_6_5 (v := v_7) hx hb hts hown hK hP (show fp_12 4 6 = v_7 from ev_7.symm) dX5_product_38 ?_
          refine lv_iconst (v := 1) hx hb dX5_product_41 ic_1 ?_
          refine lv_iadd hx hb dX5_product_42 ?_
          refine lv_topi (fun v_17 ev_17 => ?_)
          have q_18 : v_17.toInt = v_7.toInt + 1 := by rw [ev_17]; first | exact cm_add ti_1 (by omega) (by omega) | (have k1 : (1 : Int32).toInt = 1 := ti_1; exact (bn_addI (by omega) (by omega)).trans (by omega))
          refine sl_pX_4_6_5 (x := v_17) hx hb hts hown hh hA hK hP hS dX5_product_43 (fun f_19 H locs ef_19 hP hS => ?_)
          have hI : sgI loX hiX f_19 := by rw [ef_19]; exact sgI.put hI 4 6 (show 0 ≤ (v_17 : Int32).toInt ∧ (v_17 : Int32).toInt ≤ 120 from ⟨by omega, by omega⟩)
          have hF : sgK WkX5_product_1 f f_19 := sgK.put hF ef_19 (by rfl)
          refine lv_aload_n hx hb dX5_product_46 rfl (lv_at hl 0 rfl) ?_
          refine lv_iload_n hx hb dX5_product_47 rfl (lv_at hl 1 rfl) ?_
          refine sg_callv (va_runV (As := [.int 1]) (rest := []) ⟨hx, hb, hml, hown, hts⟩ (kX5_operand_1 l D ca za h hh f_19 L Q hI H.size) (sl_c5_operand_37_0_0_823_5 hts ⟨Nat.le_of_ble_eq_true rfl, Nat.le_of_ble_eq_true rfl⟩) (sl_vX_4 hA hK hP hS hZ) rfl rfl hl.1 rfl (lv_room (Nat.le_of_ble_eq_true rfl)) dX5_product_48 ⟨Nat.le_refl _, Nat.le_refl _⟩) hA hS (fun f_20 L_21 Q_22 H locs hq hP hS => ?_)
          obtain ⟨⟨hI, hk_f_20, eL9, eQ9⟩, u_23⟩ := hq
          rw [eL9, eQ9] at hP; clear eL9 eQ9
          have hF : sgK WkX5_product_1 f f_20 := sgK.tr hF hk_f_20 (by decide +kernel)
          refine lv_aload_n hx hb dX5_product_51 rfl (lv_at hl 0 rfl) ?_
          refine lv_iload_n hx hb dX5_product_52 rfl (lv_at hl 2 rfl) ?_
          refine sg_callv (va_runV (As := [.int y2_12]) (rest := []) ⟨hx, hb, hml, hown, hts⟩ (kX5_write l D ca za h hh f_20 L Q hI y2_12 H.size) (sl_c5_write_0_0_0_0_5 hts ⟨Nat.le_of_ble_eq_true rfl, Nat.le_of_ble_eq_true rfl⟩) (sl_vX_4 hA hK hP hS hZ) rfl rfl hl.1 rfl (lv_room (Nat.le_of_ble_eq_true rfl)) dX5_product_53 ⟨Nat.le_refl _, Nat.le_refl _⟩) hA hS (fun f_24 L_25 Q_26 H locs hq hP hS => ?_)
          obtain ⟨⟨hI, hk_f_24, eL9, eQ9⟩, u_27⟩ := hq
          rw [eL9, eQ9] at hP; clear eL9 eQ9
          have hF : sgK WkX5_product_1 f f_24 := sgK.tr hF hk_f_24 (by decide +kernel)
          refine lv_aload_n hx hb dX5_product_56 rfl (lv_at hl 0 rfl) ?_
          obtain ⟨v_28, ev_28⟩ : ∃ z : Int32, z = f_24 4 6 := ⟨_, rfl⟩
          have q_29 : 0 ≤ v_28.toInt ∧ v_28.toInt ≤ 120 := by rw [ev_28]; exact hI 4 6
          have q_30 : (f_24 4 6).toInt = v_28.toInt := (congrArg Int32.toInt (show f_24 4 6 = v_28 from ev_28.symm))
          have q_31 : (f_24 4 1).toInt = v_10.toInt := (congrArg Int32.toInt (show f_24 4 1 = v_10 from ((hk_f_24 4 1 (by decide)).trans ((hk_f_20 4 1 (by decide)).trans (by rw [ef_19, sg_up_s, sgu_n (by decide)]; exact ev_10.symm)))))
          refine sg_calli (va_runV (As := []) (rest := []) ⟨hx, hb, hml, hown, hts⟩ (kX5_next l D ca za h hh f_24 L Q hI H.size) (sl_c5_next_0_0_0_0_5 hts ⟨Nat.le_of_ble_eq_true rfl, Nat.le_of_ble_eq_true rfl⟩) (sl_vX_4 hA hK hP hS hZ) rfl rfl hl.1 rfl (lv_room (Nat.le_of_ble_eq_true rfl)) dX5_product_57 ⟨Nat.le_refl _, Nat.le_refl _⟩) hA hS (fun r_35 f_32 L_33 Q_34 H locs hq hP hS => ?_)
          obtain ⟨⟨ef9, eL9, eQ9⟩, hq, p_36, u_37⟩ := hq
          rw [ef9, eL9, eQ9] at hP; clear ef9 eL9 eQ9
          refine lv_istore_n (lv' := [(2, .int r_35), (0, .ref (h 4)), (1, .int 1), (3, .int y3_12)]) hx hb dX5_product_60 rfl hl (by decide) rfl (fun ls hl => ?_)
          obtain ⟨v_38, ev_38⟩ : ∃ z : Int32, z = y3_12 + 1 := ⟨_, rfl⟩
          have q_39 : v_38.toInt = y3_12.toInt + 1 := by rw [ev_38]; exact (bn_addc y3_12 1 (by decide) (by omega) (by omega))
          refine lv_iinc (v := v_38) (lv' := [(3, .int v_38), (2, .int r_35), (0, .ref (h 4)), (1, .int 1)]) hx hb dX5_product_61 hl (k := 3) rfl (by rw [ev_38]; rfl) (by decide) rfl (fun ls hl => ?_)
          refine lv_goto (tgt := 12) hx hb dX5_product_64 (by decide) ?_
          exact ih_12 r_35 v_38 f_24 _ _ _ (hs.trans ((if_pos c_15).trans (spl_e ev_17 (spl_e ef_19 (spl_e u_23 (spl_e u_27 (spl_e ev_28 (spl_e u_37 (spl_e ev_38 rfl))))))))) (by omega) ⟨by omega, by omega⟩ ⟨by omega, by omega⟩ (by have zz4_6 : (f_24 4 6).toInt = v_28.toInt := (congrArg Int32.toInt (show f_24 4 6 = v_28 from ev_28.symm)); have zz4_1 : (f_24 4 1).toInt = v_10.toInt := (congrArg Int32.toInt (show f_24 4 1 = v_10 from ((hk_f_24 4 1 (by decide)).trans ((hk_f_20 4 1 (by decide)).trans (by rw [ef_19, sg_up_s, sgu_n (by decide)]; exact ev_10.symm))))); omega) hI hF hP hS (lv_sub hl [2, 3, 1, 0] rfl)
        · skip
          have c_16 : y2_12.toInt ≠ 42 := (by first | exact (cm_ne1 ti_42 c) | (have z := bn_ne c; have k1 : (42 : Int32).toInt = 42 := ti_42; omega))
          replace hs := hs.trans ((if_neg c_16).trans rfl)
          refine lv_iload_n hx hb dX5_product_24 rfl (lv_at hl 2 rfl) ?_
          refine lv_bipush (v := 47) hx hb dX5_product_25 bp_47 ?_
          refine lv_icmp_eq (tgt := 36) hx hb dX5_product_27 (by decide) (fun c => ?_) (fun c => ?_)
          · skip
            have c_40 : y2_12.toInt = 47 := (by first | exact (cm_eq1 ti_47 c) | (have z := Int32.toInt_inj.mpr c; have k1 : (47 : Int32).toInt = 47 := ti_47; omega))
            refine lv_aload_n hx hb dX5_product_36 rfl (lv_at hl 0 rfl) ?_
            refine lv_dup hx hb dX5_product_37 rfl ?_
            refine sl_gX_4_6_5 (v := v_7) hx hb hts hown hK hP (show fp_12 4 6 = v_7 from ev_7.symm) dX5_product_38 ?_
            refine lv_iconst (v := 1) hx hb dX5_product_41 ic_1 ?_
            refine lv_iadd hx hb dX5_product_42 ?_
            refine lv_topi (fun v_42 ev_42 => ?_)
            have q_43 : v_42.toInt = v_7.toInt + 1 := by rw [ev_42]; first | exact cm_add ti_1 (by omega) (by omega) | (have k1 : (1 : Int32).toInt = 1 := ti_1; exact (bn_addI (by omega) (by omega)).trans (by omega))
            refine sl_pX_4_6_5 (x := v_42) hx hb hts hown hh hA hK hP hS dX5_product_43 (fun f_44 H locs ef_44 hP hS => ?_)
            have hI : sgI loX hiX f_44 := by rw [ef_44]; exact sgI.put hI 4 6 (show 0 ≤ (v_42 : Int32).toInt ∧ (v_42 : Int32).toInt ≤ 120 from ⟨by omega, by omega⟩)
            have hF : sgK WkX5_product_1 f f_44 := sgK.put hF ef_44 (by rfl)
            refine lv_aload_n hx hb dX5_product_46 rfl (lv_at hl 0 rfl) ?_
            refine lv_iload_n hx hb dX5_product_47 rfl (lv_at hl 1 rfl) ?_
            refine sg_callv (va_runV (As := [.int 1]) (rest := []) ⟨hx, hb, hml, hown, hts⟩ (kX5_operand_1 l D ca za h hh f_44 L Q hI H.size) (sl_c5_operand_37_0_0_823_5 hts ⟨Nat.le_of_ble_eq_true rfl, Nat.le_of_ble_eq_true rfl⟩) (sl_vX_4 hA hK hP hS hZ) rfl rfl hl.1 rfl (lv_room (Nat.le_of_ble_eq_true rfl)) dX5_product_48 ⟨Nat.le_refl _, Nat.le_refl _⟩) hA hS (fun f_45 L_46 Q_47 H locs hq hP hS => ?_)
            obtain ⟨⟨hI, hk_f_45, eL9, eQ9⟩, u_48⟩ := hq
            rw [eL9, eQ9] at hP; clear eL9 eQ9
            have hF : sgK WkX5_product_1 f f_45 := sgK.tr hF hk_f_45 (by decide +kernel)
            refine lv_aload_n hx hb dX5_product_51 rfl (lv_at hl 0 rfl) ?_
            refine lv_iload_n hx hb dX5_product_52 rfl (lv_at hl 2 rfl) ?_
            refine sg_callv (va_runV (As := [.int y2_12]) (rest := []) ⟨hx, hb, hml, hown, hts⟩ (kX5_write l D ca za h hh f_45 L Q hI y2_12 H.size) (sl_c5_write_0_0_0_0_5 hts ⟨Nat.le_of_ble_eq_true rfl, Nat.le_of_ble_eq_true rfl⟩) (sl_vX_4 hA hK hP hS hZ) rfl rfl hl.1 rfl (lv_room (Nat.le_of_ble_eq_true rfl)) dX5_product_53 ⟨Nat.le_refl _, Nat.le_refl _⟩) hA hS (fun f_49 L_50 Q_51 H locs hq hP hS => ?_)
            obtain ⟨⟨hI, hk_f_49, eL9, eQ9⟩, u_52⟩ := hq
            rw [eL9, eQ9] at hP; clear eL9 eQ9
            have hF : sgK WkX5_product_1 f f_49 := sgK.tr hF hk_f_49 (by decide +kernel)
            refine lv_aload_n hx hb dX5_product_56 rfl (lv_at hl 0 rfl) ?_
            obtain ⟨v_53, ev_53⟩ : ∃ z : Int32, z = f_49 4 6 := ⟨_, rfl⟩
            have q_54 : 0 ≤ v_53.toInt ∧ v_53.toInt ≤ 120 := by rw [ev_53]; exact hI 4 6
            have q_55 : (f_49 4 6).toInt = v_53.toInt := (congrArg Int32.toInt (show f_49 4 6 = v_53 from ev_53.symm))
            have q_56 : (f_49 4 1).toInt = v_10.toInt := (congrArg Int32.toInt (show f_49 4 1 = v_10 from ((hk_f_49 4 1 (by decide)).trans ((hk_f_45 4 1 (by decide)).trans (by rw [ef_44, sg_up_s, sgu_n (by decide)]; exact ev_10.symm)))))
            refine sg_calli (va_runV (As := []) (rest := []) ⟨hx, hb, hml, hown, hts⟩ (kX5_next l D ca za h hh f_49 L Q hI H.size) (sl_c5_next_0_0_0_0_5 hts ⟨Nat.le_of_ble_eq_true rfl, Nat.le_of_ble_eq_true rfl⟩) (sl_vX_4 hA hK hP hS hZ) rfl rfl hl.1 rfl (lv_room (Nat.le_of_ble_eq_true rfl)) dX5_product_57 ⟨Nat.le_refl _, Nat.le_refl _⟩) hA hS (fun r_60 f_57 L_58 Q_59 H locs hq hP hS => ?_)
            obtain ⟨⟨ef9, eL9, eQ9⟩, hq, p_61, u_62⟩ := hq
            rw [ef9, eL9, eQ9] at hP; clear ef9 eL9 eQ9
            refine lv_istore_n (lv' := [(2, .int r_60), (0, .ref (h 4)), (1, .int 1), (3, .int y3_12)]) hx hb dX5_product_60 rfl hl (by decide) rfl (fun ls hl => ?_)
            obtain ⟨v_63, ev_63⟩ : ∃ z : Int32, z = y3_12 + 1 := ⟨_, rfl⟩
            have q_64 : v_63.toInt = y3_12.toInt + 1 := by rw [ev_63]; exact (bn_addc y3_12 1 (by decide) (by omega) (by omega))
            refine lv_iinc (v := v_63) (lv' := [(3, .int v_63), (2, .int r_60), (0, .ref (h 4)), (1, .int 1)]) hx hb dX5_product_61 hl (k := 3) rfl (by rw [ev_63]; rfl) (by decide) rfl (fun ls hl => ?_)
            refine lv_goto (tgt := 12) hx hb dX5_product_64 (by decide) ?_
            exact ih_12 r_60 v_63 f_49 _ _ _ (hs.trans ((if_pos c_40).trans (spl_e ev_42 (spl_e ef_44 (spl_e u_48 (spl_e u_52 (spl_e ev_53 (spl_e u_62 (spl_e ev_63 rfl))))))))) (by omega) ⟨by omega, by omega⟩ ⟨by omega, by omega⟩ (by have zz4_6 : (f_49 4 6).toInt = v_53.toInt := (congrArg Int32.toInt (show f_49 4 6 = v_53 from ev_53.symm)); have zz4_1 : (f_49 4 1).toInt = v_10.toInt := (congrArg Int32.toInt (show f_49 4 1 = v_10 from ((hk_f_49 4 1 (by decide)).trans ((hk_f_45 4 1 (by decide)).trans (by rw [ef_44, sg_up_s, sgu_n (by decide)]; exact ev_10.symm))))); omega) hI hF hP hS (lv_sub hl [2, 3, 1, 0] rfl)
          · skip
            have c_41 : y2_12.toInt ≠ 47 := (by first | exact (cm_ne1 ti_47 c) | (have z := bn_ne c; have k1 : (47 : Int32).toInt = 47 := ti_47; omega))
            replace hs := hs.trans ((if_neg c_41).trans rfl)
            refine lv_iload_n hx hb dX5_product_30 rfl (lv_at hl 2 rfl) ?_
            refine lv_bipush (v := 37) hx hb dX5_product_31 bp_37 ?_
            refine lv_icmp_ne (tgt := 67) hx hb dX5_product_33 (by decide) (fun c => ?_) (fun c => ?_)
            · skip
              have c_65 : y2_12.toInt ≠ 37 := (by first | exact (cm_ne1 ti_37 c) | (have z := bn_ne c; have k1 : (37 : Int32).toInt = 37 := ti_37; omega))
              exact hret _ _ _ _ fp_12 L Q dX5_product_67 hP hS ⟨⟨hI, hF, rfl, rfl⟩, (Eq.trans (Eq.symm (hs.trans ((if_neg c_65).trans rfl))) hsp)⟩
            · skip
              have c_66 : y2_12.toInt = 37 := (by first | exact (cm_eq1 ti_37 c) | (have z := Int32.toInt_inj.mpr c; have k1 : (37 : Int32).toInt = 37 := ti_37; omega))
              refine lv_aload_n hx hb dX5_product_36 rfl (lv_at hl 0 rfl) ?_
              refine lv_dup hx hb dX5_product_37 rfl ?_
              refine sl_gX_4_6_5 (v := v_7) hx hb hts hown hK hP (show fp_12 4 6 = v_7 from ev_7.symm) dX5_product_38 ?_
              refine lv_iconst (v := 1) hx hb dX5_product_41 ic_1 ?_
              refine lv_iadd hx hb dX5_product_42 ?_
              refine lv_topi (fun v_67 ev_67 => ?_)
              have q_68 : v_67.toInt = v_7.toInt + 1 := by rw [ev_67]; first | exact cm_add ti_1 (by omega) (by omega) | (have k1 : (1 : Int32).toInt = 1 := ti_1; exact (bn_addI (by omega) (by omega)).trans (by omega))
              refine sl_pX_4_6_5 (x := v_67) hx hb hts hown hh hA hK hP hS dX5_product_43 (fun f_69 H locs ef_69 hP hS => ?_)
              have hI : sgI loX hiX f_69 := by rw [ef_69]; exact sgI.put hI 4 6 (show 0 ≤ (v_67 : Int32).toInt ∧ (v_67 : Int32).toInt ≤ 120 from ⟨by omega, by omega⟩)
              have hF : sgK WkX5_product_1 f f_69 := sgK.put hF ef_69 (by rfl)
              refine lv_aload_n hx hb dX5_product_46 rfl (lv_at hl 0 rfl) ?_
              refine lv_iload_n hx hb dX5_product_47 rfl (lv_at hl 1 rfl) ?_
              refine sg_callv (va_runV (As := [.int 1]) (rest := []) ⟨hx, hb, hml, hown, hts⟩ (kX5_operand_1 l D ca za h hh f_69 L Q hI H.size) (sl_c5_operand_37_0_0_823_5 hts ⟨Nat.le_of_ble_eq_true rfl, Nat.le_of_ble_eq_true rfl⟩) (sl_vX_4 hA hK hP hS hZ) rfl rfl hl.1 rfl (lv_room (Nat.le_of_ble_eq_true rfl)) dX5_product_48 ⟨Nat.le_refl _, Nat.le_refl _⟩) hA hS (fun f_70 L_71 Q_72 H locs hq hP hS => ?_)
              obtain ⟨⟨hI, hk_f_70, eL9, eQ9⟩, u_73⟩ := hq
              rw [eL9, eQ9] at hP; clear eL9 eQ9
              have hF : sgK WkX5_product_1 f f_70 := sgK.tr hF hk_f_70 (by decide +kernel)
              refine lv_aload_n hx hb dX5_product_51 rfl (lv_at hl 0 rfl) ?_
              refine lv_iload_n hx hb dX5_product_52 rfl (lv_at hl 2 rfl) ?_
              refine sg_callv (va_runV (As := [.int y2_12]) (rest := []) ⟨hx, hb, hml, hown, hts⟩ (kX5_write l D ca za h hh f_70 L Q hI y2_12 H.size) (sl_c5_write_0_0_0_0_5 hts ⟨Nat.le_of_ble_eq_true rfl, Nat.le_of_ble_eq_true rfl⟩) (sl_vX_4 hA hK hP hS hZ) rfl rfl hl.1 rfl (lv_room (Nat.le_of_ble_eq_true rfl)) dX5_product_53 ⟨Nat.le_refl _, Nat.le_refl _⟩) hA hS (fun f_74 L_75 Q_76 H locs hq hP hS => ?_)
              obtain ⟨⟨hI, hk_f_74, eL9, eQ9⟩, u_77⟩ := hq
              rw [eL9, eQ9] at hP; clear eL9 eQ9
              have hF : sgK WkX5_product_1 f f_74 := sgK.tr hF hk_f_74 (by decide +kernel)
              refine lv_aload_n hx hb dX5_product_56 rfl (lv_at hl 0 rfl) ?_
              obtain ⟨v_78, ev_78⟩ : ∃ z : Int32, z = f_74 4 6 := ⟨_, rfl⟩
              have q_79 : 0 ≤ v_78.toInt ∧ v_78.toInt ≤ 120 := by rw [ev_78]; exact hI 4 6
              have q_80 : (f_74 4 6).toInt = v_78.toInt := (congrArg Int32.toInt (show f_74 4 6 = v_78 from ev_78.symm))
              have q_81 : (f_74 4 1).toInt = v_10.toInt := (congrArg Int32.toInt (show f_74 4 1 = v_10 from ((hk_f_74 4 1 (by decide)).trans ((hk_f_70 4 1 (by decide)).trans (by rw [ef_69, sg_up_s, sgu_n (by decide)]; exact ev_10.symm)))))
              refine sg_calli (va_runV (As := []) (rest := []) ⟨hx, hb, hml, hown, hts⟩ (kX5_next l D ca za h hh f_74 L Q hI H.size) (sl_c5_next_0_0_0_0_5 hts ⟨Nat.le_of_ble_eq_true rfl, Nat.le_of_ble_eq_true rfl⟩) (sl_vX_4 hA hK hP hS hZ) rfl rfl hl.1 rfl (lv_room (Nat.le_of_ble_eq_true rfl)) dX5_product_57 ⟨Nat.le_refl _, Nat.le_refl _⟩) hA hS (fun r_85 f_82 L_83 Q_84 H locs hq hP hS => ?_)
              obtain ⟨⟨ef9, eL9, eQ9⟩, hq, p_86, u_87⟩ := hq
              rw [ef9, eL9, eQ9] at hP; clear ef9 eL9 eQ9
              refine lv_istore_n (lv' := [(2, .int r_85), (0, .ref (h 4)), (1, .int 1), (3, .int y3_12)]) hx hb dX5_product_60 rfl hl (by decide) rfl (fun ls hl => ?_)
              obtain ⟨v_88, ev_88⟩ : ∃ z : Int32, z = y3_12 + 1 := ⟨_, rfl⟩
              have q_89 : v_88.toInt = y3_12.toInt + 1 := by rw [ev_88]; exact (bn_addc y3_12 1 (by decide) (by omega) (by omega))
              refine lv_iinc (v := v_88) (lv' := [(3, .int v_88), (2, .int r_85), (0, .ref (h 4)), (1, .int 1)]) hx hb dX5_product_61 hl (k := 3) rfl (by rw [ev_88]; rfl) (by decide) rfl (fun ls hl => ?_)
              refine lv_goto (tgt := 12) hx hb dX5_product_64 (by decide) ?_
              exact ih_12 r_85 v_88 f_74 _ _ _ (hs.trans ((if_pos c_66).trans (spl_e ev_67 (spl_e ef_69 (spl_e u_73 (spl_e u_77 (spl_e ev_78 (spl_e u_87 (spl_e ev_88 rfl))))))))) (by omega) ⟨by omega, by omega⟩ ⟨by omega, by omega⟩ (by have zz4_6 : (f_74 4 6).toInt = v_78.toInt := (congrArg Int32.toInt (show f_74 4 6 = v_78 from ev_78.symm)); have zz4_1 : (f_74 4 1).toInt = v_10.toInt := (congrArg Int32.toInt (show f_74 4 1 = v_10 from ((hk_f_74 4 1 (by decide)).trans ((hk_f_70 4 1 (by decide)).trans (by rw [ef_69, sg_up_s, sgu_n (by decide)]; exact ev_10.symm))))); omega) hI hF hP hS (lv_sub hl [2, 3, 1, 0] rfl)
  refine lv_aload_n hx hb dX5_product_0 rfl (lv_at hl 0 rfl) ?_
  refine lv_iload_n hx hb dX5_product_1 rfl (lv_at hl 1 rfl) ?_
  refine sg_callv (va_runV (As := [.int 1]) (rest := []) ⟨hx, hb, hml, hown, hts⟩ (kX5_operand_1 l D ca za h hh f L Q hI H.size) (sl_c5_operand_37_0_0_823_5 hts ⟨Nat.le_of_ble_eq_true rfl, Nat.le_of_ble_eq_true rfl⟩) (sl_vX_4 hA hK hP hS hZ) rfl rfl hl.1 rfl (lv_room (Nat.le_of_ble_eq_true rfl)) dX5_product_2 ⟨Nat.le_refl _, Nat.le_refl _⟩) hA hS (fun f_90 L_91 Q_92 H locs hq hP hS => ?_)
  obtain ⟨⟨hI, hk_f_90, eL9, eQ9⟩, u_93⟩ := hq
  rw [eL9, eQ9] at hP; clear eL9 eQ9
  have hF : sgK WkX5_product_1 f f_90 := sgK.tr hF hk_f_90 (by decide +kernel)
  refine lv_aload_n hx hb dX5_product_5 rfl (lv_at hl 0 rfl) ?_
  obtain ⟨v_94, ev_94⟩ : ∃ z : Int32, z = f_90 4 6 := ⟨_, rfl⟩
  have q_95 : 0 ≤ v_94.toInt ∧ v_94.toInt ≤ 120 := by rw [ev_94]; exact hI 4 6
  have q_96 : (f_90 4 6).toInt = v_94.toInt := (congrArg Int32.toInt (show f_90 4 6 = v_94 from ev_94.symm))
  have q_97 : (f_90 4 1).toInt = v_3.toInt := (congrArg Int32.toInt (show f_90 4 1 = v_3 from ((hk_f_90 4 1 (by decide)).trans ev_3.symm)))
  refine sg_calli (va_runV (As := []) (rest := []) ⟨hx, hb, hml, hown, hts⟩ (kX5_next l D ca za h hh f_90 L Q hI H.size) (sl_c5_next_0_0_0_0_5 hts ⟨Nat.le_of_ble_eq_true rfl, Nat.le_of_ble_eq_true rfl⟩) (sl_vX_4 hA hK hP hS hZ) rfl rfl hl.1 rfl (lv_room (Nat.le_of_ble_eq_true rfl)) dX5_product_6 ⟨Nat.le_refl _, Nat.le_refl _⟩) hA hS (fun r_101 f_98 L_99 Q_100 H locs hq hP hS => ?_)
  obtain ⟨⟨ef9, eL9, eQ9⟩, hq, p_102, u_103⟩ := hq
  rw [ef9, eL9, eQ9] at hP; clear ef9 eL9 eQ9
  refine lv_istore_n (lv' := [(2, .int r_101), (0, .ref (h 4)), (1, .int 1)]) hx hb dX5_product_9 rfl hl (by decide) rfl (fun ls hl => ?_)
  refine lv_iconst (v := 0) hx hb dX5_product_10 ic_0 ?_
  refine lv_istore_n (lv' := [(3, .int 0), (2, .int r_101), (0, .ref (h 4)), (1, .int 1)]) hx hb dX5_product_11 rfl hl (by decide) rfl (fun ls hl => ?_)
  exact loop_12 121 r_101 0 f_90 _ _ _ (hs.trans ((spl_e ev_1 (spl_e ev_3 (spl_e u_93 (spl_e ev_94 (spl_e u_103 rfl))))))) (by have kc1 : (0 : Int32).toInt = 0 := ti_0; omega) ⟨by omega, by omega⟩ (by decide) (by have kc1 : (0 : Int32).toInt = 0 := ti_0; have zz4_6 : (f_90 4 6).toInt = v_94.toInt := (congrArg Int32.toInt (show f_90 4 6 = v_94 from ev_94.symm)); have zz4_1 : (f_90 4 1).toInt = v_3.toInt := (congrArg Int32.toInt (show f_90 4 1 = v_3 from ((hk_f_90 4 1 (by decide)).trans ev_3.symm))); omega) hI hF hP hS (lv_sub hl [2, 3, 1, 0] rfl)

abbrev WkX5_sum_1 : List (Nat × Nat × Option Nat) := [(4, 4, some 6), (4, 4, some 7), (4, 4, some 8), (6, 6, none)]
set_option maxHeartbeats 4000000 in
set_option maxRecDepth 100000 in
theorem kX5_sum_1 (l : Launch) (D : va_G) (ca : Nat → ClassId) (za h : Nat → Nat) (hh : sgH 52 h) (f : sg_F) (L : sg_L) (Q : sg_Q) (hI : sgI loX hiX f) (sz : Nat) : Met l yX5_sum gwX5_sum { frames := 39, cells := 0, slots := 0, locals := 868 } (sgP D vwCl (tyX ca) 52 h (eX ca h) zcX za f L Q sz [.ref (h 4), .int 1]) (sgQv D vwCl 52 h (eX ca h) sz (fun f1 L1 Q1 => ((sgI loX hiX f1 ∧ sgK WkX5_sum_1 f f1 ∧ L1 = L ∧ Q1 = Q) ∧ (f1) = sX5_sum_1 f L))) 0 0 (sgA 52 h sz) := by
  refine sg_ofWv (cc := cX5_sum) (maxL := 4) RX5 (by decide) rfl rfl (Nat.le_of_ble_eq_true rfl) ?_
  intro p e s m below meth cd Qz ls hx hb hml hown hts hK hZ hP hS hl hret
  have hA := sgY.self (n := 52) (h := h) (sz := s.heap.size)
  have hl : lv_has ls 4 [(0, .ref (h 4)), (1, .int 1)] := hl
  obtain ⟨H, hH⟩ : ∃ z : Heap, z = s.heap := ⟨_, rfl⟩
  obtain ⟨locs, hlo⟩ : ∃ z : List Loc, z = [] := ⟨_, rfl⟩
  have hP : va_P D vwCl (sgw 52 h (eX ca h) f L Q) H := by rw [hH]; exact hP
  have hS : va_S (sgA 52 h s.heap.size) s.heap H locs := by rw [hH, hlo]; exact hS
  suffices hgo : W p l e ({ frames := 39, cells := 0, slots := 0, locals := 868 }) s m ([.ref (h 4), .int 1] : List Value).toArray below meth cd H locs 0 0 Qz (F0 m 0 ls []) by rw [hH, hlo] at hgo; exact hgo
  clear hH hlo
  obtain ⟨sp, hsp⟩ : ∃ z : sg_F, z = sX5_sum_1 f L := ⟨_, rfl⟩
  have hs : sp = sX5_sum_1 f L := hsp
  obtain ⟨v_1, ev_1⟩ : ∃ z : Int32, z = f 4 6 := ⟨_, rfl⟩
  have q_2 : 0 ≤ v_1.toInt ∧ v_1.toInt ≤ 120 := by rw [ev_1]; exact hI 4 6
  obtain ⟨v_3, ev_3⟩ : ∃ z : Int32, z = f 4 1 := ⟨_, rfl⟩
  have q_4 : 0 ≤ v_3.toInt ∧ v_3.toInt ≤ 120 := by rw [ev_3]; exact hI 4 1
  have o_5 : (f 4 6).toInt = v_1.toInt := (congrArg Int32.toInt (show f 4 6 = v_1 from ev_1.symm))
  have o_6 : (f 4 1).toInt = v_3.toInt := (congrArg Int32.toInt (show f 4 1 = v_3 from ev_3.symm))
  have hF : sgK WkX5_sum_1 f f := sgK.rf
  have loop_12 : ∀ (n_12 : Nat) (y2_12 : Int32) (y3_12 : Int32) (fp_12 : sg_F) (H : Heap) (locs : List Loc) (ls : Array Slot), sp = sX5_sum_1_l12 n_12 y2_12 y3_12 fp_12 L → 120 - y3_12.toInt < (n_12 : Int) → (-1) ≤ y2_12.toInt ∧ y2_12.toInt ≤ 255 → 0 ≤ y3_12.toInt ∧ y3_12.toInt ≤ 120 → y2_12.toInt < 0 ∨ (fp_12 4 6).toInt < (fp_12 4 1).toInt → sgI loX hiX fp_12 → sgK WkX5_sum_1 f fp_12 → va_P D vwCl (sgw 52 h (eX ca h) fp_12 L Q) H → va_S (sgA 52 h s.heap.size) s.heap H locs → lv_has ls 4 [(0, .ref (h 4)), (1, .int 1), (2, .int y2_12), (3, .int y3_12)] → W p l e ({ frames := 39, cells := 0, slots := 0, locals := 868 }) s m ([.ref (h 4), .int 1] : List Value).toArray below meth cd H locs 0 0 Qz (F0 m 12 ls []) := by
    intro n_12
    induction n_12 with
    | zero => intro y2_12 y3_12 fp_12 H locs ls hs hm_12 hy0_12 hy1_12 hg0_12 hI hF hP hS hl; exact absurd hm_12 (by omega)
    | succ n_12 ih_12 =>
      intro y2_12 y3_12 fp_12 H locs ls hs hm_12 hy0_12 hy1_12 hg0_12 hI hF hP hS hl
      have hs : sp = sX5_sum_1_h12 (sX5_sum_1_l12 n_12) y2_12 y3_12 fp_12 L := hs
      obtain ⟨v_7, ev_7⟩ : ∃ z : Int32, z = fp_12 4 6 := ⟨_, rfl⟩
      have q_8 : 0 ≤ v_7.toInt ∧ v_7.toInt ≤ 120 := by rw [ev_7]; exact hI 4 6
      have q_9 : (fp_12 4 6).toInt = v_7.toInt := by rw [ev_7]
      obtain ⟨v_10, ev_10⟩ : ∃ z : Int32, z = fp_12 4 1 := ⟨_, rfl⟩
      replace hs := hs.trans (spl_e ev_7 (spl_e ev_10 rfl))
      have q_11 : 0 ≤ v_10.toInt ∧ v_10.toInt ≤ 120 := by rw [ev_10]; exact hI 4 1
      have q_12 : (fp_12 4 1).toInt = v_10.toInt := by rw [ev_10]
      refine lv_iload_n hx hb dX5_sum_12 rfl (lv_at hl 3 rfl) ?_
      refine lv_bipush (v := 120) hx hb dX5_sum_13 bp_120 ?_
      refine lv_icmp_ge (tgt := 61) hx hb dX5_sum_15 (by decide) (fun c => ?_) (fun c => ?_)
      · skip
        have c_13 : 120 ≤ y3_12.toInt := (by first | exact (cm_le0 ti_120 c) | (have z := bn_le c; have k1 : (120 : Int32).toInt = 120 := ti_120; omega))
        exact hret _ _ _ _ fp_12 L Q dX5_sum_61 hP hS ⟨⟨hI, hF, rfl, rfl⟩, (Eq.trans (Eq.symm (hs.trans ((if_neg (Int.not_lt.mpr c_13)).trans rfl))) hsp)⟩
      · skip
        have c_14 : y3_12.toInt < 120 := (by first | exact (cm_nle0 ti_120 c) | (have z := bn_nle c; have k1 : (120 : Int32).toInt = 120 := ti_120; omega))
        replace hs := hs.trans ((if_pos c_14).trans rfl)
        refine lv_iload_n hx hb dX5_sum_18 rfl (lv_at hl 2 rfl) ?_
        refine lv_bipush (v := 43) hx hb dX5_sum_19 bp_43 ?_
        refine lv_icmp_eq (tgt := 30) hx hb dX5_sum_21 (by decide) (fun c => ?_) (fun c => ?_)
        · skip
          have c_15 : y2_12.toInt = 43 := (by first | exact (cm_eq1 ti_43 c) | (have z := Int32.toInt_inj.mpr c; have k1 : (43 : Int32).toInt = 43 := ti_43; omega))
          refine lv_aload_n hx hb dX5_sum_30 rfl (lv_at hl 0 rfl) ?_
          refine lv_dup hx hb dX5_sum_31 rfl ?_
          refine sl_gX_4_6_5 (v := v_7) hx hb hts hown hK hP (show fp_12 4 6 = v_7 from ev_7.symm) dX5_sum_32 ?_
          refine lv_iconst (v := 1) hx hb dX5_sum_35 ic_1 ?_
          refine lv_iadd hx hb dX5_sum_36 ?_
          refine lv_topi (fun v_17 ev_17 => ?_)
          have q_18 : v_17.toInt = v_7.toInt + 1 := by rw [ev_17]; first | exact cm_add ti_1 (by omega) (by omega) | (have k1 : (1 : Int32).toInt = 1 := ti_1; exact (bn_addI (by omega) (by omega)).trans (by omega))
          refine sl_pX_4_6_5 (x := v_17) hx hb hts hown hh hA hK hP hS dX5_sum_37 (fun f_19 H locs ef_19 hP hS => ?_)
          have hI : sgI loX hiX f_19 := by rw [ef_19]; exact sgI.put hI 4 6 (show 0 ≤ (v_17 : Int32).toInt ∧ (v_17 : Int32).toInt ≤ 120 from ⟨by omega, by omega⟩)
          have hF : sgK WkX5_sum_1 f f_19 := sgK.put hF ef_19 (by rfl)
          refine lv_aload_n hx hb dX5_sum_40 rfl (lv_at hl 0 rfl) ?_
          refine lv_iload_n hx hb dX5_sum_41 rfl (lv_at hl 1 rfl) ?_
          refine sg_callv (va_runV (As := [.int 1]) (rest := []) ⟨hx, hb, hml, hown, hts⟩ (kX5_product_1 l D ca za h hh f_19 L Q hI H.size) (sl_c5_product_38_0_0_845_5 hts ⟨Nat.le_of_ble_eq_true rfl, Nat.le_of_ble_eq_true rfl⟩) (sl_vX_4 hA hK hP hS hZ) rfl rfl hl.1 rfl (lv_room (Nat.le_of_ble_eq_true rfl)) dX5_sum_42 ⟨Nat.le_refl _, Nat.le_refl _⟩) hA hS (fun f_20 L_21 Q_22 H locs hq hP hS => ?_)
          obtain ⟨⟨hI, hk_f_20, eL9, eQ9⟩, u_23⟩ := hq
          rw [eL9, eQ9] at hP; clear eL9 eQ9
          have hF : sgK WkX5_sum_1 f f_20 := sgK.tr hF hk_f_20 (by decide +kernel)
          refine lv_aload_n hx hb dX5_sum_45 rfl (lv_at hl 0 rfl) ?_
          refine lv_iload_n hx hb dX5_sum_46 rfl (lv_at hl 2 rfl) ?_
          refine sg_callv (va_runV (As := [.int y2_12]) (rest := []) ⟨hx, hb, hml, hown, hts⟩ (kX5_write l D ca za h hh f_20 L Q hI y2_12 H.size) (sl_c5_write_0_0_0_0_5 hts ⟨Nat.le_of_ble_eq_true rfl, Nat.le_of_ble_eq_true rfl⟩) (sl_vX_4 hA hK hP hS hZ) rfl rfl hl.1 rfl (lv_room (Nat.le_of_ble_eq_true rfl)) dX5_sum_47 ⟨Nat.le_refl _, Nat.le_refl _⟩) hA hS (fun f_24 L_25 Q_26 H locs hq hP hS => ?_)
          obtain ⟨⟨hI, hk_f_24, eL9, eQ9⟩, u_27⟩ := hq
          rw [eL9, eQ9] at hP; clear eL9 eQ9
          have hF : sgK WkX5_sum_1 f f_24 := sgK.tr hF hk_f_24 (by decide +kernel)
          refine lv_aload_n hx hb dX5_sum_50 rfl (lv_at hl 0 rfl) ?_
          obtain ⟨v_28, ev_28⟩ : ∃ z : Int32, z = f_24 4 6 := ⟨_, rfl⟩
          have q_29 : 0 ≤ v_28.toInt ∧ v_28.toInt ≤ 120 := by rw [ev_28]; exact hI 4 6
          have q_30 : (f_24 4 6).toInt = v_28.toInt := (congrArg Int32.toInt (show f_24 4 6 = v_28 from ev_28.symm))
          have q_31 : (f_24 4 1).toInt = v_10.toInt := (congrArg Int32.toInt (show f_24 4 1 = v_10 from ((hk_f_24 4 1 (by decide)).trans ((hk_f_20 4 1 (by decide)).trans (by rw [ef_19, sg_up_s, sgu_n (by decide)]; exact ev_10.symm)))))
          refine sg_calli (va_runV (As := []) (rest := []) ⟨hx, hb, hml, hown, hts⟩ (kX5_next l D ca za h hh f_24 L Q hI H.size) (sl_c5_next_0_0_0_0_5 hts ⟨Nat.le_of_ble_eq_true rfl, Nat.le_of_ble_eq_true rfl⟩) (sl_vX_4 hA hK hP hS hZ) rfl rfl hl.1 rfl (lv_room (Nat.le_of_ble_eq_true rfl)) dX5_sum_51 ⟨Nat.le_refl _, Nat.le_refl _⟩) hA hS (fun r_35 f_32 L_33 Q_34 H locs hq hP hS => ?_)
          obtain ⟨⟨ef9, eL9, eQ9⟩, hq, p_36, u_37⟩ := hq
          rw [ef9, eL9, eQ9] at hP; clear ef9 eL9 eQ9
          refine lv_istore_n (lv' := [(2, .int r_35), (0, .ref (h 4)), (1, .int 1), (3, .int y3_12)]) hx hb dX5_sum_54 rfl hl (by decide) rfl (fun ls hl => ?_)
          obtain ⟨v_38, ev_38⟩ : ∃ z : Int32, z = y3_12 + 1 := ⟨_, rfl⟩
          have q_39 : v_38.toInt = y3_12.toInt + 1 := by rw [ev_38]; exact (bn_addc y3_12 1 (by decide) (by omega) (by omega))
          refine lv_iinc (v := v_38) (lv' := [(3, .int v_38), (2, .int r_35), (0, .ref (h 4)), (1, .int 1)]) hx hb dX5_sum_55 hl (k := 3) rfl (by rw [ev_38]; rfl) (by decide) rfl (fun ls hl => ?_)
          refine lv_goto (tgt := 12) hx hb dX5_sum_58 (by decide) ?_
          exact ih_12 r_35 v_38 f_24 _ _ _ (hs.trans ((if_pos c_15).trans (spl_e ev_17 (spl_e ef_19 (spl_e u_23 (spl_e u_27 (spl_e ev_28 (spl_e u_37 (spl_e ev_38 rfl))))))))) (by omega) ⟨by omega, by omega⟩ ⟨by omega, by omega⟩ (by have zz4_6 : (f_24 4 6).toInt = v_28.toInt := (congrArg Int32.toInt (show f_24 4 6 = v_28 from ev_28.symm)); have zz4_1 : (f_24 4 1).toInt = v_10.toInt := (congrArg Int32.toInt (show f_24 4 1 = v_10 from ((hk_f_24 4 1 (by decide)).trans ((hk_f_20 4 1 (by decide)).trans (by rw [ef_19, sg_up_s, sgu_n (by decide)]; exact ev_10.symm))))); omega) hI hF hP hS (lv_sub hl [2, 3, 1, 0] rfl)
        · skip
          have c_16 : y2_12.toInt ≠ 43 := (by first | exact (cm_ne1 ti_43 c) | (have z := bn_ne c; have k1 : (43 : Int32).toInt = 43 := ti_43; omega))
          replace hs := hs.trans ((if_neg c_16).trans rfl)
          refine lv_iload_n hx hb dX5_sum_24 rfl (lv_at hl 2 rfl) ?_
          refine lv_bipush (v := 45) hx hb dX5_sum_25 bp_45 ?_
          refine lv_icmp_ne (tgt := 61) hx hb dX5_sum_27 (by decide) (fun c => ?_) (fun c => ?_)
          · skip
            have c_40 : y2_12.toInt ≠ 45 := (by first | exact (cm_ne1 ti_45 c) | (have z := bn_ne c; have k1 : (45 : Int32).toInt = 45 := ti_45; omega))
            exact hret _ _ _ _ fp_12 L Q dX5_sum_61 hP hS ⟨⟨hI, hF, rfl, rfl⟩, (Eq.trans (Eq.symm (hs.trans ((if_neg c_40).trans rfl))) hsp)⟩
          · skip
            have c_41 : y2_12.toInt = 45 := (by first | exact (cm_eq1 ti_45 c) | (have z := Int32.toInt_inj.mpr c; have k1 : (45 : Int32).toInt = 45 := ti_45; omega))
            refine lv_aload_n hx hb dX5_sum_30 rfl (lv_at hl 0 rfl) ?_
            refine lv_dup hx hb dX5_sum_31 rfl ?_
            refine sl_gX_4_6_5 (v := v_7) hx hb hts hown hK hP (show fp_12 4 6 = v_7 from ev_7.symm) dX5_sum_32 ?_
            refine lv_iconst (v := 1) hx hb dX5_sum_35 ic_1 ?_
            refine lv_iadd hx hb dX5_sum_36 ?_
            refine lv_topi (fun v_42 ev_42 => ?_)
            have q_43 : v_42.toInt = v_7.toInt + 1 := by rw [ev_42]; first | exact cm_add ti_1 (by omega) (by omega) | (have k1 : (1 : Int32).toInt = 1 := ti_1; exact (bn_addI (by omega) (by omega)).trans (by omega))
            refine sl_pX_4_6_5 (x := v_42) hx hb hts hown hh hA hK hP hS dX5_sum_37 (fun f_44 H locs ef_44 hP hS => ?_)
            have hI : sgI loX hiX f_44 := by rw [ef_44]; exact sgI.put hI 4 6 (show 0 ≤ (v_42 : Int32).toInt ∧ (v_42 : Int32).toInt ≤ 120 from ⟨by omega, by omega⟩)
            have hF : sgK WkX5_sum_1 f f_44 := sgK.put hF ef_44 (by rfl)
            refine lv_aload_n hx hb dX5_sum_40 rfl (lv_at hl 0 rfl) ?_
            refine lv_iload_n hx hb dX5_sum_41 rfl (lv_at hl 1 rfl) ?_
            refine sg_callv (va_runV (As := [.int 1]) (rest := []) ⟨hx, hb, hml, hown, hts⟩ (kX5_product_1 l D ca za h hh f_44 L Q hI H.size) (sl_c5_product_38_0_0_845_5 hts ⟨Nat.le_of_ble_eq_true rfl, Nat.le_of_ble_eq_true rfl⟩) (sl_vX_4 hA hK hP hS hZ) rfl rfl hl.1 rfl (lv_room (Nat.le_of_ble_eq_true rfl)) dX5_sum_42 ⟨Nat.le_refl _, Nat.le_refl _⟩) hA hS (fun f_45 L_46 Q_47 H locs hq hP hS => ?_)
            obtain ⟨⟨hI, hk_f_45, eL9, eQ9⟩, u_48⟩ := hq
            rw [eL9, eQ9] at hP; clear eL9 eQ9
            have hF : sgK WkX5_sum_1 f f_45 := sgK.tr hF hk_f_45 (by decide +kernel)
            refine lv_aload_n hx hb dX5_sum_45 rfl (lv_at hl 0 rfl) ?_
            refine lv_iload_n hx hb dX5_sum_46 rfl (lv_at hl 2 rfl) ?_
            refine sg_callv (va_runV (As := [.int y2_12]) (rest := []) ⟨hx, hb, hml, hown, hts⟩ (kX5_write l D ca za h hh f_45 L Q hI y2_12 H.size) (sl_c5_write_0_0_0_0_5 hts ⟨Nat.le_of_ble_eq_true rfl, Nat.le_of_ble_eq_true rfl⟩) (sl_vX_4 hA hK hP hS hZ) rfl rfl hl.1 rfl (lv_room (Nat.le_of_ble_eq_true rfl)) dX5_sum_47 ⟨Nat.le_refl _, Nat.le_refl _⟩) hA hS (fun f_49 L_50 Q_51 H locs hq hP hS => ?_)
            obtain ⟨⟨hI, hk_f_49, eL9, eQ9⟩, u_52⟩ := hq
            rw [eL9, eQ9] at hP; clear eL9 eQ9
            have hF : sgK WkX5_sum_1 f f_49 := sgK.tr hF hk_f_49 (by decide +kernel)
            refine lv_aload_n hx hb dX5_sum_50 rfl (lv_at hl 0 rfl) ?_
            obtain ⟨v_53, ev_53⟩ : ∃ z : Int32, z = f_49 4 6 := ⟨_, rfl⟩
            have q_54 : 0 ≤ v_53.toInt ∧ v_53.toInt ≤ 120 := by rw [ev_53]; exact hI 4 6
            have q_55 : (f_49 4 6).toInt = v_53.toInt := (congrArg Int32.toInt (show f_49 4 6 = v_53 from ev_53.symm))
            have q_56 : (f_49 4 1).toInt = v_10.toInt := (congrArg Int32.toInt (show f_49 4 1 = v_10 from ((hk_f_49 4 1 (by decide)).trans ((hk_f_45 4 1 (by decide)).trans (by rw [ef_44, sg_up_s, sgu_n (by decide)]; exact ev_10.symm)))))
            refine sg_calli (va_runV (As := []) (rest := []) ⟨hx, hb, hml, hown, hts⟩ (kX5_next l D ca za h hh f_49 L Q hI H.size) (sl_c5_next_0_0_0_0_5 hts ⟨Nat.le_of_ble_eq_true rfl, Nat.le_of_ble_eq_true rfl⟩) (sl_vX_4 hA hK hP hS hZ) rfl rfl hl.1 rfl (lv_room (Nat.le_of_ble_eq_true rfl)) dX5_sum_51 ⟨Nat.le_refl _, Nat.le_refl _⟩) hA hS (fun r_60 f_57 L_58 Q_59 H locs hq hP hS => ?_)
            obtain ⟨⟨ef9, eL9, eQ9⟩, hq, p_61, u_62⟩ := hq
            rw [ef9, eL9, eQ9] at hP; clear ef9 eL9 eQ9
            refine lv_istore_n (lv' := [(2, .int r_60), (0, .ref (h 4)), (1, .int 1), (3, .int y3_12)]) hx hb dX5_sum_54 rfl hl (by decide) rfl (fun ls hl => ?_)
            obtain ⟨v_63, ev_63⟩ : ∃ z : Int32, z = y3_12 + 1 := ⟨_, rfl⟩
            have q_64 : v_63.toInt = y3_12.toInt + 1 := by rw [ev_63]; exact (bn_addc y3_12 1 (by decide) (by omega) (by omega))
            refine lv_iinc (v := v_63) (lv' := [(3, .int v_63), (2, .int r_60), (0, .ref (h 4)), (1, .int 1)]) hx hb dX5_sum_55 hl (k := 3) rfl (by rw [ev_63]; rfl) (by decide) rfl (fun ls hl => ?_)
            refine lv_goto (tgt := 12) hx hb dX5_sum_58 (by decide) ?_
            exact ih_12 r_60 v_63 f_49 _ _ _ (hs.trans ((if_pos c_41).trans (spl_e ev_42 (spl_e ef_44 (spl_e u_48 (spl_e u_52 (spl_e ev_53 (spl_e u_62 (spl_e ev_63 rfl))))))))) (by omega) ⟨by omega, by omega⟩ ⟨by omega, by omega⟩ (by have zz4_6 : (f_49 4 6).toInt = v_53.toInt := (congrArg Int32.toInt (show f_49 4 6 = v_53 from ev_53.symm)); have zz4_1 : (f_49 4 1).toInt = v_10.toInt := (congrArg Int32.toInt (show f_49 4 1 = v_10 from ((hk_f_49 4 1 (by decide)).trans ((hk_f_45 4 1 (by decide)).trans (by rw [ef_44, sg_up_s, sgu_n (by decide)]; exact ev_10.symm))))); omega) hI hF hP hS (lv_sub hl [2, 3, 1, 0] rfl)
  refine lv_aload_n hx hb dX5_sum_0 rfl (lv_at hl 0 rfl) ?_
  refine lv_iload_n hx hb dX5_sum_1 rfl (lv_at hl 1 rfl) ?_
  refine sg_callv (va_runV (As := [.int 1]) (rest := []) ⟨hx, hb, hml, hown, hts⟩ (kX5_product_1 l D ca za h hh f L Q hI H.size) (sl_c5_product_38_0_0_845_5 hts ⟨Nat.le_of_ble_eq_true rfl, Nat.le_of_ble_eq_true rfl⟩) (sl_vX_4 hA hK hP hS hZ) rfl rfl hl.1 rfl (lv_room (Nat.le_of_ble_eq_true rfl)) dX5_sum_2 ⟨Nat.le_refl _, Nat.le_refl _⟩) hA hS (fun f_65 L_66 Q_67 H locs hq hP hS => ?_)
  obtain ⟨⟨hI, hk_f_65, eL9, eQ9⟩, u_68⟩ := hq
  rw [eL9, eQ9] at hP; clear eL9 eQ9
  have hF : sgK WkX5_sum_1 f f_65 := sgK.tr hF hk_f_65 (by decide +kernel)
  refine lv_aload_n hx hb dX5_sum_5 rfl (lv_at hl 0 rfl) ?_
  obtain ⟨v_69, ev_69⟩ : ∃ z : Int32, z = f_65 4 6 := ⟨_, rfl⟩
  have q_70 : 0 ≤ v_69.toInt ∧ v_69.toInt ≤ 120 := by rw [ev_69]; exact hI 4 6
  have q_71 : (f_65 4 6).toInt = v_69.toInt := (congrArg Int32.toInt (show f_65 4 6 = v_69 from ev_69.symm))
  have q_72 : (f_65 4 1).toInt = v_3.toInt := (congrArg Int32.toInt (show f_65 4 1 = v_3 from ((hk_f_65 4 1 (by decide)).trans ev_3.symm)))
  refine sg_calli (va_runV (As := []) (rest := []) ⟨hx, hb, hml, hown, hts⟩ (kX5_next l D ca za h hh f_65 L Q hI H.size) (sl_c5_next_0_0_0_0_5 hts ⟨Nat.le_of_ble_eq_true rfl, Nat.le_of_ble_eq_true rfl⟩) (sl_vX_4 hA hK hP hS hZ) rfl rfl hl.1 rfl (lv_room (Nat.le_of_ble_eq_true rfl)) dX5_sum_6 ⟨Nat.le_refl _, Nat.le_refl _⟩) hA hS (fun r_76 f_73 L_74 Q_75 H locs hq hP hS => ?_)
  obtain ⟨⟨ef9, eL9, eQ9⟩, hq, p_77, u_78⟩ := hq
  rw [ef9, eL9, eQ9] at hP; clear ef9 eL9 eQ9
  refine lv_istore_n (lv' := [(2, .int r_76), (0, .ref (h 4)), (1, .int 1)]) hx hb dX5_sum_9 rfl hl (by decide) rfl (fun ls hl => ?_)
  refine lv_iconst (v := 0) hx hb dX5_sum_10 ic_0 ?_
  refine lv_istore_n (lv' := [(3, .int 0), (2, .int r_76), (0, .ref (h 4)), (1, .int 1)]) hx hb dX5_sum_11 rfl hl (by decide) rfl (fun ls hl => ?_)
  exact loop_12 121 r_76 0 f_65 _ _ _ (hs.trans ((spl_e ev_1 (spl_e ev_3 (spl_e u_68 (spl_e ev_69 (spl_e u_78 rfl))))))) (by have kc1 : (0 : Int32).toInt = 0 := ti_0; omega) ⟨by omega, by omega⟩ (by decide) (by have kc1 : (0 : Int32).toInt = 0 := ti_0; have zz4_6 : (f_65 4 6).toInt = v_69.toInt := (congrArg Int32.toInt (show f_65 4 6 = v_69 from ev_69.symm)); have zz4_1 : (f_65 4 1).toInt = v_3.toInt := (congrArg Int32.toInt (show f_65 4 1 = v_3 from ((hk_f_65 4 1 (by decide)).trans ev_3.symm))); omega) hI hF hP hS (lv_sub hl [2, 3, 1, 0] rfl)

abbrev WkX5_compared_1 : List (Nat × Nat × Option Nat) := [(4, 4, some 6), (4, 4, some 7), (4, 4, some 8), (6, 6, none)]
set_option maxHeartbeats 4000000 in
set_option maxRecDepth 100000 in
theorem kX5_compared_1 (l : Launch) (D : va_G) (ca : Nat → ClassId) (za h : Nat → Nat) (hh : sgH 52 h) (f : sg_F) (L : sg_L) (Q : sg_Q) (hI : sgI loX hiX f) (sz : Nat) : Met l yX5_compared gwX5_compared { frames := 40, cells := 0, slots := 0, locals := 891 } (sgP D vwCl (tyX ca) 52 h (eX ca h) zcX za f L Q sz [.ref (h 4), .int 1]) (sgQv D vwCl 52 h (eX ca h) sz (fun f1 L1 Q1 => ((sgI loX hiX f1 ∧ sgK WkX5_compared_1 f f1 ∧ L1 = L ∧ Q1 = Q) ∧ (f1) = sX5_compared_1 f L))) 0 0 (sgA 52 h sz) := by
  refine sg_ofWv (cc := cX5_compared) (maxL := 3) RX5 (by decide) rfl rfl (Nat.le_of_ble_eq_true rfl) ?_
  intro p e s m below meth cd Qz ls hx hb hml hown hts hK hZ hP hS hl hret
  have hA := sgY.self (n := 52) (h := h) (sz := s.heap.size)
  have hl : lv_has ls 3 [(0, .ref (h 4)), (1, .int 1)] := hl
  obtain ⟨H, hH⟩ : ∃ z : Heap, z = s.heap := ⟨_, rfl⟩
  obtain ⟨locs, hlo⟩ : ∃ z : List Loc, z = [] := ⟨_, rfl⟩
  have hP : va_P D vwCl (sgw 52 h (eX ca h) f L Q) H := by rw [hH]; exact hP
  have hS : va_S (sgA 52 h s.heap.size) s.heap H locs := by rw [hH, hlo]; exact hS
  suffices hgo : W p l e ({ frames := 40, cells := 0, slots := 0, locals := 891 }) s m ([.ref (h 4), .int 1] : List Value).toArray below meth cd H locs 0 0 Qz (F0 m 0 ls []) by rw [hH, hlo] at hgo; exact hgo
  clear hH hlo
  obtain ⟨sp, hsp⟩ : ∃ z : sg_F, z = sX5_compared_1 f L := ⟨_, rfl⟩
  have hs : sp = sX5_compared_1 f L := hsp
  have hF : sgK WkX5_compared_1 f f := sgK.rf
  refine lv_aload_n hx hb dX5_compared_0 rfl (lv_at hl 0 rfl) ?_
  refine lv_iload_n hx hb dX5_compared_1 rfl (lv_at hl 1 rfl) ?_
  refine sg_callv (va_runV (As := [.int 1]) (rest := []) ⟨hx, hb, hml, hown, hts⟩ (kX5_sum_1 l D ca za h hh f L Q hI H.size) (sl_c5_sum_39_0_0_868_5 hts ⟨Nat.le_of_ble_eq_true rfl, Nat.le_of_ble_eq_true rfl⟩) (sl_vX_4 hA hK hP hS hZ) rfl rfl hl.1 rfl (lv_room (Nat.le_of_ble_eq_true rfl)) dX5_compared_2 ⟨Nat.le_refl _, Nat.le_refl _⟩) hA hS (fun f_1 L_2 Q_3 H locs hq hP hS => ?_)
  obtain ⟨⟨hI, hk_f_1, eL9, eQ9⟩, u_4⟩ := hq
  rw [eL9, eQ9] at hP; clear eL9 eQ9
  have hF : sgK WkX5_compared_1 f f_1 := sgK.tr hF hk_f_1 (by decide +kernel)
  refine lv_aload_n hx hb dX5_compared_5 rfl (lv_at hl 0 rfl) ?_
  obtain ⟨v_5, ev_5⟩ : ∃ z : Int32, z = f_1 4 6 := ⟨_, rfl⟩
  have q_6 : 0 ≤ v_5.toInt ∧ v_5.toInt ≤ 120 := by rw [ev_5]; exact hI 4 6
  have q_7 : (f_1 4 6).toInt = v_5.toInt := (congrArg Int32.toInt (show f_1 4 6 = v_5 from ev_5.symm))
  obtain ⟨v_8, ev_8⟩ : ∃ z : Int32, z = f_1 4 1 := ⟨_, rfl⟩
  have q_9 : 0 ≤ v_8.toInt ∧ v_8.toInt ≤ 120 := by rw [ev_8]; exact hI 4 1
  have q_10 : (f_1 4 1).toInt = v_8.toInt := (congrArg Int32.toInt (show f_1 4 1 = v_8 from ev_8.symm))
  refine sg_calli (va_runV (As := []) (rest := []) ⟨hx, hb, hml, hown, hts⟩ (kX5_next l D ca za h hh f_1 L Q hI H.size) (sl_c5_next_0_0_0_0_5 hts ⟨Nat.le_of_ble_eq_true rfl, Nat.le_of_ble_eq_true rfl⟩) (sl_vX_4 hA hK hP hS hZ) rfl rfl hl.1 rfl (lv_room (Nat.le_of_ble_eq_true rfl)) dX5_compared_6 ⟨Nat.le_refl _, Nat.le_refl _⟩) hA hS (fun r_14 f_11 L_12 Q_13 H locs hq hP hS => ?_)
  obtain ⟨⟨ef9, eL9, eQ9⟩, hq, p_15, u_16⟩ := hq
  replace hs := hs.trans (spl_e u_4 (spl_e ev_5 (spl_e ev_8 (spl_e u_16 rfl))))
  rw [ef9, eL9, eQ9] at hP; clear ef9 eL9 eQ9
  refine lv_istore_n (lv' := [(2, .int r_14), (0, .ref (h 4)), (1, .int 1)]) hx hb dX5_compared_9 rfl hl (by decide) rfl (fun ls hl => ?_)
  refine lv_iload_n hx hb dX5_compared_10 rfl (lv_at hl 0 rfl) ?_
  refine lv_bipush (v := 60) hx hb dX5_compared_11 bp_60 ?_
  refine lv_icmp_eq (tgt := 28) hx hb dX5_compared_13 (by decide) (fun c => ?_) (fun c => ?_)
  · skip
    have c_17 : r_14.toInt = 60 := (by first | exact (cm_eq1 ti_60 c) | (have z := Int32.toInt_inj.mpr c; have k1 : (60 : Int32).toInt = 60 := ti_60; omega))
    refine lv_aload_n hx hb dX5_compared_28 rfl (lv_at hl 1 rfl) ?_
    refine lv_dup hx hb dX5_compared_29 rfl ?_
    refine sl_gX_4_6_5 (v := v_5) hx hb hts hown hK hP (show f_1 4 6 = v_5 from ev_5.symm) dX5_compared_30 ?_
    refine lv_iconst (v := 1) hx hb dX5_compared_33 ic_1 ?_
    refine lv_iadd hx hb dX5_compared_34 ?_
    refine lv_topi (fun v_19 ev_19 => ?_)
    have q_20 : v_19.toInt = v_5.toInt + 1 := by rw [ev_19]; first | exact cm_add ti_1 (by omega) (by omega) | (have k1 : (1 : Int32).toInt = 1 := ti_1; exact (bn_addI (by omega) (by omega)).trans (by omega))
    refine sl_pX_4_6_5 (x := v_19) hx hb hts hown hh hA hK hP hS dX5_compared_35 (fun f_21 H locs ef_21 hP hS => ?_)
    have hI : sgI loX hiX f_21 := by rw [ef_21]; exact sgI.put hI 4 6 (show 0 ≤ (v_19 : Int32).toInt ∧ (v_19 : Int32).toInt ≤ 120 from ⟨by omega, by omega⟩)
    have hF : sgK WkX5_compared_1 f f_21 := sgK.put hF ef_21 (by rfl)
    refine lv_aload_n hx hb dX5_compared_38 rfl (lv_at hl 1 rfl) ?_
    refine lv_iload_n hx hb dX5_compared_39 rfl (lv_at hl 2 rfl) ?_
    refine sg_callv (va_runV (As := [.int 1]) (rest := []) ⟨hx, hb, hml, hown, hts⟩ (kX5_sum_1 l D ca za h hh f_21 L Q hI H.size) (sl_c5_sum_39_0_0_868_5 hts ⟨Nat.le_of_ble_eq_true rfl, Nat.le_of_ble_eq_true rfl⟩) (sl_vX_4 hA hK hP hS hZ) rfl rfl hl.1 rfl (lv_room (Nat.le_of_ble_eq_true rfl)) dX5_compared_40 ⟨Nat.le_refl _, Nat.le_refl _⟩) hA hS (fun f_22 L_23 Q_24 H locs hq hP hS => ?_)
    obtain ⟨⟨hI, hk_f_22, eL9, eQ9⟩, u_25⟩ := hq
    rw [eL9, eQ9] at hP; clear eL9 eQ9
    have hF : sgK WkX5_compared_1 f f_22 := sgK.tr hF hk_f_22 (by decide +kernel)
    refine lv_aload_n hx hb dX5_compared_43 rfl (lv_at hl 1 rfl) ?_
    refine lv_iload_n hx hb dX5_compared_44 rfl (lv_at hl 0 rfl) ?_
    refine sg_callv (va_runV (As := [.int r_14]) (rest := []) ⟨hx, hb, hml, hown, hts⟩ (kX5_write l D ca za h hh f_22 L Q hI r_14 H.size) (sl_c5_write_0_0_0_0_5 hts ⟨Nat.le_of_ble_eq_true rfl, Nat.le_of_ble_eq_true rfl⟩) (sl_vX_4 hA hK hP hS hZ) rfl rfl hl.1 rfl (lv_room (Nat.le_of_ble_eq_true rfl)) dX5_compared_45 ⟨Nat.le_refl _, Nat.le_refl _⟩) hA hS (fun f_26 L_27 Q_28 H locs hq hP hS => ?_)
    obtain ⟨⟨hI, hk_f_26, eL9, eQ9⟩, u_29⟩ := hq
    rw [eL9, eQ9] at hP; clear eL9 eQ9
    have hF : sgK WkX5_compared_1 f f_26 := sgK.tr hF hk_f_26 (by decide +kernel)
    exact hret _ _ _ _ f_26 L Q dX5_compared_48 hP hS ⟨⟨hI, hF, rfl, rfl⟩, (Eq.trans (Eq.symm (hs.trans ((if_pos c_17).trans (spl_e ev_19 (spl_e ef_21 (spl_e u_25 (spl_e u_29 rfl))))))) hsp)⟩
  · skip
    have c_18 : r_14.toInt ≠ 60 := (by first | exact (cm_ne1 ti_60 c) | (have z := bn_ne c; have k1 : (60 : Int32).toInt = 60 := ti_60; omega))
    replace hs := hs.trans ((if_neg c_18).trans rfl)
    refine lv_iload_n hx hb dX5_compared_16 rfl (lv_at hl 0 rfl) ?_
    refine lv_bipush (v := 61) hx hb dX5_compared_17 bp_61 ?_
    refine lv_icmp_eq (tgt := 28) hx hb dX5_compared_19 (by decide) (fun c => ?_) (fun c => ?_)
    · skip
      have c_30 : r_14.toInt = 61 := (by first | exact (cm_eq1 ti_61 c) | (have z := Int32.toInt_inj.mpr c; have k1 : (61 : Int32).toInt = 61 := ti_61; omega))
      refine lv_aload_n hx hb dX5_compared_28 rfl (lv_at hl 1 rfl) ?_
      refine lv_dup hx hb dX5_compared_29 rfl ?_
      refine sl_gX_4_6_5 (v := v_5) hx hb hts hown hK hP (show f_1 4 6 = v_5 from ev_5.symm) dX5_compared_30 ?_
      refine lv_iconst (v := 1) hx hb dX5_compared_33 ic_1 ?_
      refine lv_iadd hx hb dX5_compared_34 ?_
      refine lv_topi (fun v_32 ev_32 => ?_)
      have q_33 : v_32.toInt = v_5.toInt + 1 := by rw [ev_32]; first | exact cm_add ti_1 (by omega) (by omega) | (have k1 : (1 : Int32).toInt = 1 := ti_1; exact (bn_addI (by omega) (by omega)).trans (by omega))
      refine sl_pX_4_6_5 (x := v_32) hx hb hts hown hh hA hK hP hS dX5_compared_35 (fun f_34 H locs ef_34 hP hS => ?_)
      have hI : sgI loX hiX f_34 := by rw [ef_34]; exact sgI.put hI 4 6 (show 0 ≤ (v_32 : Int32).toInt ∧ (v_32 : Int32).toInt ≤ 120 from ⟨by omega, by omega⟩)
      have hF : sgK WkX5_compared_1 f f_34 := sgK.put hF ef_34 (by rfl)
      refine lv_aload_n hx hb dX5_compared_38 rfl (lv_at hl 1 rfl) ?_
      refine lv_iload_n hx hb dX5_compared_39 rfl (lv_at hl 2 rfl) ?_
      refine sg_callv (va_runV (As := [.int 1]) (rest := []) ⟨hx, hb, hml, hown, hts⟩ (kX5_sum_1 l D ca za h hh f_34 L Q hI H.size) (sl_c5_sum_39_0_0_868_5 hts ⟨Nat.le_of_ble_eq_true rfl, Nat.le_of_ble_eq_true rfl⟩) (sl_vX_4 hA hK hP hS hZ) rfl rfl hl.1 rfl (lv_room (Nat.le_of_ble_eq_true rfl)) dX5_compared_40 ⟨Nat.le_refl _, Nat.le_refl _⟩) hA hS (fun f_35 L_36 Q_37 H locs hq hP hS => ?_)
      obtain ⟨⟨hI, hk_f_35, eL9, eQ9⟩, u_38⟩ := hq
      rw [eL9, eQ9] at hP; clear eL9 eQ9
      have hF : sgK WkX5_compared_1 f f_35 := sgK.tr hF hk_f_35 (by decide +kernel)
      refine lv_aload_n hx hb dX5_compared_43 rfl (lv_at hl 1 rfl) ?_
      refine lv_iload_n hx hb dX5_compared_44 rfl (lv_at hl 0 rfl) ?_
      refine sg_callv (va_runV (As := [.int r_14]) (rest := []) ⟨hx, hb, hml, hown, hts⟩ (kX5_write l D ca za h hh f_35 L Q hI r_14 H.size) (sl_c5_write_0_0_0_0_5 hts ⟨Nat.le_of_ble_eq_true rfl, Nat.le_of_ble_eq_true rfl⟩) (sl_vX_4 hA hK hP hS hZ) rfl rfl hl.1 rfl (lv_room (Nat.le_of_ble_eq_true rfl)) dX5_compared_45 ⟨Nat.le_refl _, Nat.le_refl _⟩) hA hS (fun f_39 L_40 Q_41 H locs hq hP hS => ?_)
      obtain ⟨⟨hI, hk_f_39, eL9, eQ9⟩, u_42⟩ := hq
      rw [eL9, eQ9] at hP; clear eL9 eQ9
      have hF : sgK WkX5_compared_1 f f_39 := sgK.tr hF hk_f_39 (by decide +kernel)
      exact hret _ _ _ _ f_39 L Q dX5_compared_48 hP hS ⟨⟨hI, hF, rfl, rfl⟩, (Eq.trans (Eq.symm (hs.trans ((if_pos c_30).trans (spl_e ev_32 (spl_e ef_34 (spl_e u_38 (spl_e u_42 rfl))))))) hsp)⟩
    · skip
      have c_31 : r_14.toInt ≠ 61 := (by first | exact (cm_ne1 ti_61 c) | (have z := bn_ne c; have k1 : (61 : Int32).toInt = 61 := ti_61; omega))
      replace hs := hs.trans ((if_neg c_31).trans rfl)
      refine lv_iload_n hx hb dX5_compared_22 rfl (lv_at hl 0 rfl) ?_
      refine lv_bipush (v := 62) hx hb dX5_compared_23 bp_62 ?_
      refine lv_icmp_ne (tgt := 48) hx hb dX5_compared_25 (by decide) (fun c => ?_) (fun c => ?_)
      · skip
        have c_43 : r_14.toInt ≠ 62 := (by first | exact (cm_ne1 ti_62 c) | (have z := bn_ne c; have k1 : (62 : Int32).toInt = 62 := ti_62; omega))
        exact hret _ _ _ _ f_1 L Q dX5_compared_48 hP hS ⟨⟨hI, hF, rfl, rfl⟩, (Eq.trans (Eq.symm (hs.trans ((if_neg c_43).trans rfl))) hsp)⟩
      · skip
        have c_44 : r_14.toInt = 62 := (by first | exact (cm_eq1 ti_62 c) | (have z := Int32.toInt_inj.mpr c; have k1 : (62 : Int32).toInt = 62 := ti_62; omega))
        refine lv_aload_n hx hb dX5_compared_28 rfl (lv_at hl 1 rfl) ?_
        refine lv_dup hx hb dX5_compared_29 rfl ?_
        refine sl_gX_4_6_5 (v := v_5) hx hb hts hown hK hP (show f_1 4 6 = v_5 from ev_5.symm) dX5_compared_30 ?_
        refine lv_iconst (v := 1) hx hb dX5_compared_33 ic_1 ?_
        refine lv_iadd hx hb dX5_compared_34 ?_
        refine lv_topi (fun v_45 ev_45 => ?_)
        have q_46 : v_45.toInt = v_5.toInt + 1 := by rw [ev_45]; first | exact cm_add ti_1 (by omega) (by omega) | (have k1 : (1 : Int32).toInt = 1 := ti_1; exact (bn_addI (by omega) (by omega)).trans (by omega))
        refine sl_pX_4_6_5 (x := v_45) hx hb hts hown hh hA hK hP hS dX5_compared_35 (fun f_47 H locs ef_47 hP hS => ?_)
        have hI : sgI loX hiX f_47 := by rw [ef_47]; exact sgI.put hI 4 6 (show 0 ≤ (v_45 : Int32).toInt ∧ (v_45 : Int32).toInt ≤ 120 from ⟨by omega, by omega⟩)
        have hF : sgK WkX5_compared_1 f f_47 := sgK.put hF ef_47 (by rfl)
        refine lv_aload_n hx hb dX5_compared_38 rfl (lv_at hl 1 rfl) ?_
        refine lv_iload_n hx hb dX5_compared_39 rfl (lv_at hl 2 rfl) ?_
        refine sg_callv (va_runV (As := [.int 1]) (rest := []) ⟨hx, hb, hml, hown, hts⟩ (kX5_sum_1 l D ca za h hh f_47 L Q hI H.size) (sl_c5_sum_39_0_0_868_5 hts ⟨Nat.le_of_ble_eq_true rfl, Nat.le_of_ble_eq_true rfl⟩) (sl_vX_4 hA hK hP hS hZ) rfl rfl hl.1 rfl (lv_room (Nat.le_of_ble_eq_true rfl)) dX5_compared_40 ⟨Nat.le_refl _, Nat.le_refl _⟩) hA hS (fun f_48 L_49 Q_50 H locs hq hP hS => ?_)
        obtain ⟨⟨hI, hk_f_48, eL9, eQ9⟩, u_51⟩ := hq
        rw [eL9, eQ9] at hP; clear eL9 eQ9
        have hF : sgK WkX5_compared_1 f f_48 := sgK.tr hF hk_f_48 (by decide +kernel)
        refine lv_aload_n hx hb dX5_compared_43 rfl (lv_at hl 1 rfl) ?_
        refine lv_iload_n hx hb dX5_compared_44 rfl (lv_at hl 0 rfl) ?_
        refine sg_callv (va_runV (As := [.int r_14]) (rest := []) ⟨hx, hb, hml, hown, hts⟩ (kX5_write l D ca za h hh f_48 L Q hI r_14 H.size) (sl_c5_write_0_0_0_0_5 hts ⟨Nat.le_of_ble_eq_true rfl, Nat.le_of_ble_eq_true rfl⟩) (sl_vX_4 hA hK hP hS hZ) rfl rfl hl.1 rfl (lv_room (Nat.le_of_ble_eq_true rfl)) dX5_compared_45 ⟨Nat.le_refl _, Nat.le_refl _⟩) hA hS (fun f_52 L_53 Q_54 H locs hq hP hS => ?_)
        obtain ⟨⟨hI, hk_f_52, eL9, eQ9⟩, u_55⟩ := hq
        rw [eL9, eQ9] at hP; clear eL9 eQ9
        have hF : sgK WkX5_compared_1 f f_52 := sgK.tr hF hk_f_52 (by decide +kernel)
        exact hret _ _ _ _ f_52 L Q dX5_compared_48 hP hS ⟨⟨hI, hF, rfl, rfl⟩, (Eq.trans (Eq.symm (hs.trans ((if_pos c_44).trans (spl_e ev_45 (spl_e ef_47 (spl_e u_51 (spl_e u_55 rfl))))))) hsp)⟩

abbrev WkX5_both_1 : List (Nat × Nat × Option Nat) := [(4, 4, some 6), (4, 4, some 7), (4, 4, some 8), (6, 6, none)]
set_option maxHeartbeats 4000000 in
set_option maxRecDepth 100000 in
theorem kX5_both_1 (l : Launch) (D : va_G) (ca : Nat → ClassId) (za h : Nat → Nat) (hh : sgH 52 h) (f : sg_F) (L : sg_L) (Q : sg_Q) (hI : sgI loX hiX f) (sz : Nat) : Met l yX5_both gwX5_both { frames := 41, cells := 0, slots := 0, locals := 913 } (sgP D vwCl (tyX ca) 52 h (eX ca h) zcX za f L Q sz [.ref (h 4), .int 1]) (sgQv D vwCl 52 h (eX ca h) sz (fun f1 L1 Q1 => ((sgI loX hiX f1 ∧ sgK WkX5_both_1 f f1 ∧ L1 = L ∧ Q1 = Q) ∧ (f1) = sX5_both_1 f L))) 0 0 (sgA 52 h sz) := by
  refine sg_ofWv (cc := cX5_both) (maxL := 3) RX5 (by decide) rfl rfl (Nat.le_of_ble_eq_true rfl) ?_
  intro p e s m below meth cd Qz ls hx hb hml hown hts hK hZ hP hS hl hret
  have hA := sgY.self (n := 52) (h := h) (sz := s.heap.size)
  have hl : lv_has ls 3 [(0, .ref (h 4)), (1, .int 1)] := hl
  obtain ⟨H, hH⟩ : ∃ z : Heap, z = s.heap := ⟨_, rfl⟩
  obtain ⟨locs, hlo⟩ : ∃ z : List Loc, z = [] := ⟨_, rfl⟩
  have hP : va_P D vwCl (sgw 52 h (eX ca h) f L Q) H := by rw [hH]; exact hP
  have hS : va_S (sgA 52 h s.heap.size) s.heap H locs := by rw [hH, hlo]; exact hS
  suffices hgo : W p l e ({ frames := 41, cells := 0, slots := 0, locals := 913 }) s m ([.ref (h 4), .int 1] : List Value).toArray below meth cd H locs 0 0 Qz (F0 m 0 ls []) by rw [hH, hlo] at hgo; exact hgo
  clear hH hlo
  obtain ⟨sp, hsp⟩ : ∃ z : sg_F, z = sX5_both_1 f L := ⟨_, rfl⟩
  have hs : sp = sX5_both_1 f L := hsp
  have hF : sgK WkX5_both_1 f f := sgK.rf
  have loop_7 : ∀ (n_7 : Nat) (y2_7 : Int32) (fp_7 : sg_F) (H : Heap) (locs : List Loc) (ls : Array Slot), sp = sX5_both_1_l7 n_7 y2_7 fp_7 L → 120 - y2_7.toInt < (n_7 : Int) → 0 ≤ y2_7.toInt ∧ y2_7.toInt ≤ 120 → sgI loX hiX fp_7 → sgK WkX5_both_1 f fp_7 → va_P D vwCl (sgw 52 h (eX ca h) fp_7 L Q) H → va_S (sgA 52 h s.heap.size) s.heap H locs → lv_has ls 3 [(0, .ref (h 4)), (1, .int 1), (2, .int y2_7)] → W p l e ({ frames := 41, cells := 0, slots := 0, locals := 913 }) s m ([.ref (h 4), .int 1] : List Value).toArray below meth cd H locs 0 0 Qz (F0 m 7 ls []) := by
    intro n_7
    induction n_7 with
    | zero => intro y2_7 fp_7 H locs ls hs hm_7 hy0_7 hI hF hP hS hl; exact absurd hm_7 (by omega)
    | succ n_7 ih_7 =>
      intro y2_7 fp_7 H locs ls hs hm_7 hy0_7 hI hF hP hS hl
      have hs : sp = sX5_both_1_h7 (sX5_both_1_l7 n_7) y2_7 fp_7 L := hs
      refine lv_iload_n hx hb dX5_both_7 rfl (lv_at hl 2 rfl) ?_
      refine lv_bipush (v := 120) hx hb dX5_both_8 bp_120 ?_
      refine lv_icmp_ge (tgt := 49) hx hb dX5_both_10 (by decide) (fun c => ?_) (fun c => ?_)
      · skip
        have c_1 : 120 ≤ y2_7.toInt := (by first | exact (cm_le0 ti_120 c) | (have z := bn_le c; have k1 : (120 : Int32).toInt = 120 := ti_120; omega))
        exact hret _ _ _ _ fp_7 L Q dX5_both_49 hP hS ⟨⟨hI, hF, rfl, rfl⟩, (Eq.trans (Eq.symm (hs.trans (((if_neg (Int.not_lt.mpr c_1)).trans rfl)))) hsp)⟩
      · skip
        have c_2 : y2_7.toInt < 120 := (by first | exact (cm_nle0 ti_120 c) | (have z := bn_nle c; have k1 : (120 : Int32).toInt = 120 := ti_120; omega))
        refine lv_aload_n hx hb dX5_both_13 rfl (lv_at hl 0 rfl) ?_
        obtain ⟨v_3, ev_3⟩ : ∃ z : Int32, z = fp_7 4 6 := ⟨_, rfl⟩
        have q_4 : 0 ≤ v_3.toInt ∧ v_3.toInt ≤ 120 := by rw [ev_3]; exact hI 4 6
        have q_5 : (fp_7 4 6).toInt = v_3.toInt := (congrArg Int32.toInt (show fp_7 4 6 = v_3 from ev_3.symm))
        obtain ⟨v_6, ev_6⟩ : ∃ z : Int32, z = fp_7 4 1 := ⟨_, rfl⟩
        have q_7 : 0 ≤ v_6.toInt ∧ v_6.toInt ≤ 120 := by rw [ev_6]; exact hI 4 1
        have q_8 : (fp_7 4 1).toInt = v_6.toInt := (congrArg Int32.toInt (show fp_7 4 1 = v_6 from ev_6.symm))
        refine sg_calli (va_runV (As := []) (rest := []) ⟨hx, hb, hml, hown, hts⟩ (kX5_next l D ca za h hh fp_7 L Q hI H.size) (sl_c5_next_0_0_0_0_5 hts ⟨Nat.le_of_ble_eq_true rfl, Nat.le_of_ble_eq_true rfl⟩) (sl_vX_4 hA hK hP hS hZ) rfl rfl hl.1 rfl (lv_room (Nat.le_of_ble_eq_true rfl)) dX5_both_14 ⟨Nat.le_refl _, Nat.le_refl _⟩) hA hS (fun r_12 f_9 L_10 Q_11 H locs hq hP hS => ?_)
        obtain ⟨⟨ef9, eL9, eQ9⟩, hq, p_13, u_14⟩ := hq
        replace hs := hs.trans ((if_pos c_2).trans (spl_e ev_3 (spl_e ev_6 (spl_e u_14 rfl))))
        rw [ef9, eL9, eQ9] at hP; clear ef9 eL9 eQ9
        refine lv_bipush (v := 38) hx hb dX5_both_17 bp_38 ?_
        refine lv_icmp_ne (tgt := 49) hx hb dX5_both_19 (by decide) (fun c => ?_) (fun c => ?_)
        · skip
          have c_15 : r_12.toInt ≠ 38 := (by first | exact (cm_ne1 ti_38 c) | (have z := bn_ne c; have k1 : (38 : Int32).toInt = 38 := ti_38; omega))
          exact hret _ _ _ _ fp_7 L Q dX5_both_49 hP hS ⟨⟨hI, hF, rfl, rfl⟩, (Eq.trans (Eq.symm (hs.trans ((if_neg c_15).trans rfl))) hsp)⟩
        · skip
          have c_16 : r_12.toInt = 38 := (by first | exact (cm_eq1 ti_38 c) | (have z := Int32.toInt_inj.mpr c; have k1 : (38 : Int32).toInt = 38 := ti_38; omega))
          refine lv_aload_n hx hb dX5_both_22 rfl (lv_at hl 0 rfl) ?_
          refine lv_dup hx hb dX5_both_23 rfl ?_
          refine sl_gX_4_6_5 (v := v_3) hx hb hts hown hK hP (show fp_7 4 6 = v_3 from ev_3.symm) dX5_both_24 ?_
          refine lv_iconst (v := 1) hx hb dX5_both_27 ic_1 ?_
          refine lv_iadd hx hb dX5_both_28 ?_
          refine lv_topi (fun v_17 ev_17 => ?_)
          have q_18 : v_17.toInt = v_3.toInt + 1 := by rw [ev_17]; first | exact cm_add ti_1 (by omega) (by omega) | (have k1 : (1 : Int32).toInt = 1 := ti_1; exact (bn_addI (by omega) (by omega)).trans (by omega))
          refine sl_pX_4_6_5 (x := v_17) hx hb hts hown hh hA hK hP hS dX5_both_29 (fun f_19 H locs ef_19 hP hS => ?_)
          have hI : sgI loX hiX f_19 := by rw [ef_19]; exact sgI.put hI 4 6 (show 0 ≤ (v_17 : Int32).toInt ∧ (v_17 : Int32).toInt ≤ 120 from ⟨by omega, by omega⟩)
          have hF : sgK WkX5_both_1 f f_19 := sgK.put hF ef_19 (by rfl)
          refine lv_aload_n hx hb dX5_both_32 rfl (lv_at hl 0 rfl) ?_
          refine lv_iload_n hx hb dX5_both_33 rfl (lv_at hl 1 rfl) ?_
          refine sg_callv (va_runV (As := [.int 1]) (rest := []) ⟨hx, hb, hml, hown, hts⟩ (kX5_compared_1 l D ca za h hh f_19 L Q hI H.size) (sl_c5_compared_40_0_0_891_5 hts ⟨Nat.le_of_ble_eq_true rfl, Nat.le_of_ble_eq_true rfl⟩) (sl_vX_4 hA hK hP hS hZ) rfl rfl hl.1 rfl (lv_room (Nat.le_of_ble_eq_true rfl)) dX5_both_34 ⟨Nat.le_refl _, Nat.le_refl _⟩) hA hS (fun f_20 L_21 Q_22 H locs hq hP hS => ?_)
          obtain ⟨⟨hI, hk_f_20, eL9, eQ9⟩, u_23⟩ := hq
          rw [eL9, eQ9] at hP; clear eL9 eQ9
          have hF : sgK WkX5_both_1 f f_20 := sgK.tr hF hk_f_20 (by decide +kernel)
          refine lv_aload_n hx hb dX5_both_37 rfl (lv_at hl 0 rfl) ?_
          refine lv_bipush (v := 38) hx hb dX5_both_38 bp_38 ?_
          refine sg_callv (va_runV (As := [.int 38]) (rest := []) ⟨hx, hb, hml, hown, hts⟩ (kX5_write l D ca za h hh f_20 L Q hI 38 H.size) (sl_c5_write_0_0_0_0_5 hts ⟨Nat.le_of_ble_eq_true rfl, Nat.le_of_ble_eq_true rfl⟩) (sl_vX_4 hA hK hP hS hZ) rfl rfl hl.1 rfl (lv_room (Nat.le_of_ble_eq_true rfl)) dX5_both_40 ⟨Nat.le_refl _, Nat.le_refl _⟩) hA hS (fun f_24 L_25 Q_26 H locs hq hP hS => ?_)
          obtain ⟨⟨hI, hk_f_24, eL9, eQ9⟩, u_27⟩ := hq
          rw [eL9, eQ9] at hP; clear eL9 eQ9
          have hF : sgK WkX5_both_1 f f_24 := sgK.tr hF hk_f_24 (by decide +kernel)
          obtain ⟨v_28, ev_28⟩ : ∃ z : Int32, z = y2_7 + 1 := ⟨_, rfl⟩
          have q_29 : v_28.toInt = y2_7.toInt + 1 := by rw [ev_28]; exact (bn_addc y2_7 1 (by decide) (by omega) (by omega))
          refine lv_iinc (v := v_28) (lv' := [(2, .int v_28), (0, .ref (h 4)), (1, .int 1)]) hx hb dX5_both_43 hl (k := 2) rfl (by rw [ev_28]; rfl) (by decide) rfl (fun ls hl => ?_)
          refine lv_goto (tgt := 7) hx hb dX5_both_46 (by decide) ?_
          exact ih_7 v_28 f_24 _ _ _ (hs.trans ((if_pos c_16).trans (spl_e ev_17 (spl_e ef_19 (spl_e u_23 (spl_e u_27 (spl_e ev_28 rfl))))))) (by omega) ⟨by omega, by omega⟩ hI hF hP hS (lv_sub hl [1, 2, 0] rfl)
  refine lv_aload_n hx hb dX5_both_0 rfl (lv_at hl 0 rfl) ?_
  refine lv_iload_n hx hb dX5_both_1 rfl (lv_at hl 1 rfl) ?_
  refine sg_callv (va_runV (As := [.int 1]) (rest := []) ⟨hx, hb, hml, hown, hts⟩ (kX5_compared_1 l D ca za h hh f L Q hI H.size) (sl_c5_compared_40_0_0_891_5 hts ⟨Nat.le_of_ble_eq_true rfl, Nat.le_of_ble_eq_true rfl⟩) (sl_vX_4 hA hK hP hS hZ) rfl rfl hl.1 rfl (lv_room (Nat.le_of_ble_eq_true rfl)) dX5_both_2 ⟨Nat.le_refl _, Nat.le_refl _⟩) hA hS (fun f_30 L_31 Q_32 H locs hq hP hS => ?_)
  obtain ⟨⟨hI, hk_f_30, eL9, eQ9⟩, u_33⟩ := hq
  rw [eL9, eQ9] at hP; clear eL9 eQ9
  have hF : sgK WkX5_both_1 f f_30 := sgK.tr hF hk_f_30 (by decide +kernel)
  refine lv_iconst (v := 0) hx hb dX5_both_5 ic_0 ?_
  refine lv_istore_n (lv' := [(2, .int 0), (0, .ref (h 4)), (1, .int 1)]) hx hb dX5_both_6 rfl hl (by decide) rfl (fun ls hl => ?_)
  exact loop_7 121 0 f_30 _ _ _ (hs.trans ((spl_e u_33 rfl))) (by have kc0 : (0 : Int32).toInt = 0 := ti_0; omega) (by decide) hI hF hP hS (lv_sub hl [1, 2, 0] rfl)

abbrev WkX5_either_1 : List (Nat × Nat × Option Nat) := [(4, 4, some 6), (4, 4, some 7), (4, 4, some 8), (6, 6, none)]
set_option maxHeartbeats 4000000 in
set_option maxRecDepth 100000 in
theorem kX5_either_1 (l : Launch) (D : va_G) (ca : Nat → ClassId) (za h : Nat → Nat) (hh : sgH 52 h) (f : sg_F) (L : sg_L) (Q : sg_Q) (hI : sgI loX hiX f) (sz : Nat) : Met l yX5_either gwX5_either { frames := 42, cells := 0, slots := 0, locals := 935 } (sgP D vwCl (tyX ca) 52 h (eX ca h) zcX za f L Q sz [.ref (h 4), .int 1]) (sgQv D vwCl 52 h (eX ca h) sz (fun f1 L1 Q1 => ((sgI loX hiX f1 ∧ sgK WkX5_either_1 f f1 ∧ L1 = L ∧ Q1 = Q) ∧ (f1) = sX5_either_1 f L))) 0 0 (sgA 52 h sz) := by
  refine sg_ofWv (cc := cX5_either) (maxL := 3) RX5 (by decide) rfl rfl (Nat.le_of_ble_eq_true rfl) ?_
  intro p e s m below meth cd Qz ls hx hb hml hown hts hK hZ hP hS hl hret
  have hA := sgY.self (n := 52) (h := h) (sz := s.heap.size)
  have hl : lv_has ls 3 [(0, .ref (h 4)), (1, .int 1)] := hl
  obtain ⟨H, hH⟩ : ∃ z : Heap, z = s.heap := ⟨_, rfl⟩
  obtain ⟨locs, hlo⟩ : ∃ z : List Loc, z = [] := ⟨_, rfl⟩
  have hP : va_P D vwCl (sgw 52 h (eX ca h) f L Q) H := by rw [hH]; exact hP
  have hS : va_S (sgA 52 h s.heap.size) s.heap H locs := by rw [hH, hlo]; exact hS
  suffices hgo : W p l e ({ frames := 42, cells := 0, slots := 0, locals := 935 }) s m ([.ref (h 4), .int 1] : List Value).toArray below meth cd H locs 0 0 Qz (F0 m 0 ls []) by rw [hH, hlo] at hgo; exact hgo
  clear hH hlo
  obtain ⟨sp, hsp⟩ : ∃ z : sg_F, z = sX5_either_1 f L := ⟨_, rfl⟩
  have hs : sp = sX5_either_1 f L := hsp
  have hF : sgK WkX5_either_1 f f := sgK.rf
  have loop_7 : ∀ (n_7 : Nat) (y2_7 : Int32) (fp_7 : sg_F) (H : Heap) (locs : List Loc) (ls : Array Slot), sp = sX5_either_1_l7 n_7 y2_7 fp_7 L → 120 - y2_7.toInt < (n_7 : Int) → 0 ≤ y2_7.toInt ∧ y2_7.toInt ≤ 120 → sgI loX hiX fp_7 → sgK WkX5_either_1 f fp_7 → va_P D vwCl (sgw 52 h (eX ca h) fp_7 L Q) H → va_S (sgA 52 h s.heap.size) s.heap H locs → lv_has ls 3 [(0, .ref (h 4)), (1, .int 1), (2, .int y2_7)] → W p l e ({ frames := 42, cells := 0, slots := 0, locals := 935 }) s m ([.ref (h 4), .int 1] : List Value).toArray below meth cd H locs 0 0 Qz (F0 m 7 ls []) := by
    intro n_7
    induction n_7 with
    | zero => intro y2_7 fp_7 H locs ls hs hm_7 hy0_7 hI hF hP hS hl; exact absurd hm_7 (by omega)
    | succ n_7 ih_7 =>
      intro y2_7 fp_7 H locs ls hs hm_7 hy0_7 hI hF hP hS hl
      have hs : sp = sX5_either_1_h7 (sX5_either_1_l7 n_7) y2_7 fp_7 L := hs
      refine lv_iload_n hx hb dX5_either_7 rfl (lv_at hl 2 rfl) ?_
      refine lv_bipush (v := 120) hx hb dX5_either_8 bp_120 ?_
      refine lv_icmp_ge (tgt := 49) hx hb dX5_either_10 (by decide) (fun c => ?_) (fun c => ?_)
      · skip
        have c_1 : 120 ≤ y2_7.toInt := (by first | exact (cm_le0 ti_120 c) | (have z := bn_le c; have k1 : (120 : Int32).toInt = 120 := ti_120; omega))
        exact hret _ _ _ _ fp_7 L Q dX5_either_49 hP hS ⟨⟨hI, hF, rfl, rfl⟩, (Eq.trans (Eq.symm (hs.trans (((if_neg (Int.not_lt.mpr c_1)).trans rfl)))) hsp)⟩
      · skip
        have c_2 : y2_7.toInt < 120 := (by first | exact (cm_nle0 ti_120 c) | (have z := bn_nle c; have k1 : (120 : Int32).toInt = 120 := ti_120; omega))
        refine lv_aload_n hx hb dX5_either_13 rfl (lv_at hl 0 rfl) ?_
        obtain ⟨v_3, ev_3⟩ : ∃ z : Int32, z = fp_7 4 6 := ⟨_, rfl⟩
        have q_4 : 0 ≤ v_3.toInt ∧ v_3.toInt ≤ 120 := by rw [ev_3]; exact hI 4 6
        have q_5 : (fp_7 4 6).toInt = v_3.toInt := (congrArg Int32.toInt (show fp_7 4 6 = v_3 from ev_3.symm))
        obtain ⟨v_6, ev_6⟩ : ∃ z : Int32, z = fp_7 4 1 := ⟨_, rfl⟩
        have q_7 : 0 ≤ v_6.toInt ∧ v_6.toInt ≤ 120 := by rw [ev_6]; exact hI 4 1
        have q_8 : (fp_7 4 1).toInt = v_6.toInt := (congrArg Int32.toInt (show fp_7 4 1 = v_6 from ev_6.symm))
        refine sg_calli (va_runV (As := []) (rest := []) ⟨hx, hb, hml, hown, hts⟩ (kX5_next l D ca za h hh fp_7 L Q hI H.size) (sl_c5_next_0_0_0_0_5 hts ⟨Nat.le_of_ble_eq_true rfl, Nat.le_of_ble_eq_true rfl⟩) (sl_vX_4 hA hK hP hS hZ) rfl rfl hl.1 rfl (lv_room (Nat.le_of_ble_eq_true rfl)) dX5_either_14 ⟨Nat.le_refl _, Nat.le_refl _⟩) hA hS (fun r_12 f_9 L_10 Q_11 H locs hq hP hS => ?_)
        obtain ⟨⟨ef9, eL9, eQ9⟩, hq, p_13, u_14⟩ := hq
        replace hs := hs.trans ((if_pos c_2).trans (spl_e ev_3 (spl_e ev_6 (spl_e u_14 rfl))))
        rw [ef9, eL9, eQ9] at hP; clear ef9 eL9 eQ9
        refine lv_bipush (v := 124) hx hb dX5_either_17 bp_124 ?_
        refine lv_icmp_ne (tgt := 49) hx hb dX5_either_19 (by decide) (fun c => ?_) (fun c => ?_)
        · skip
          have c_15 : r_12.toInt ≠ 124 := (by first | exact (cm_ne1 ti_124 c) | (have z := bn_ne c; have k1 : (124 : Int32).toInt = 124 := ti_124; omega))
          exact hret _ _ _ _ fp_7 L Q dX5_either_49 hP hS ⟨⟨hI, hF, rfl, rfl⟩, (Eq.trans (Eq.symm (hs.trans ((if_neg c_15).trans rfl))) hsp)⟩
        · skip
          have c_16 : r_12.toInt = 124 := (by first | exact (cm_eq1 ti_124 c) | (have z := Int32.toInt_inj.mpr c; have k1 : (124 : Int32).toInt = 124 := ti_124; omega))
          refine lv_aload_n hx hb dX5_either_22 rfl (lv_at hl 0 rfl) ?_
          refine lv_dup hx hb dX5_either_23 rfl ?_
          refine sl_gX_4_6_5 (v := v_3) hx hb hts hown hK hP (show fp_7 4 6 = v_3 from ev_3.symm) dX5_either_24 ?_
          refine lv_iconst (v := 1) hx hb dX5_either_27 ic_1 ?_
          refine lv_iadd hx hb dX5_either_28 ?_
          refine lv_topi (fun v_17 ev_17 => ?_)
          have q_18 : v_17.toInt = v_3.toInt + 1 := by rw [ev_17]; first | exact cm_add ti_1 (by omega) (by omega) | (have k1 : (1 : Int32).toInt = 1 := ti_1; exact (bn_addI (by omega) (by omega)).trans (by omega))
          refine sl_pX_4_6_5 (x := v_17) hx hb hts hown hh hA hK hP hS dX5_either_29 (fun f_19 H locs ef_19 hP hS => ?_)
          have hI : sgI loX hiX f_19 := by rw [ef_19]; exact sgI.put hI 4 6 (show 0 ≤ (v_17 : Int32).toInt ∧ (v_17 : Int32).toInt ≤ 120 from ⟨by omega, by omega⟩)
          have hF : sgK WkX5_either_1 f f_19 := sgK.put hF ef_19 (by rfl)
          refine lv_aload_n hx hb dX5_either_32 rfl (lv_at hl 0 rfl) ?_
          refine lv_iload_n hx hb dX5_either_33 rfl (lv_at hl 1 rfl) ?_
          refine sg_callv (va_runV (As := [.int 1]) (rest := []) ⟨hx, hb, hml, hown, hts⟩ (kX5_both_1 l D ca za h hh f_19 L Q hI H.size) (sl_c5_both_41_0_0_913_5 hts ⟨Nat.le_of_ble_eq_true rfl, Nat.le_of_ble_eq_true rfl⟩) (sl_vX_4 hA hK hP hS hZ) rfl rfl hl.1 rfl (lv_room (Nat.le_of_ble_eq_true rfl)) dX5_either_34 ⟨Nat.le_refl _, Nat.le_refl _⟩) hA hS (fun f_20 L_21 Q_22 H locs hq hP hS => ?_)
          obtain ⟨⟨hI, hk_f_20, eL9, eQ9⟩, u_23⟩ := hq
          rw [eL9, eQ9] at hP; clear eL9 eQ9
          have hF : sgK WkX5_either_1 f f_20 := sgK.tr hF hk_f_20 (by decide +kernel)
          refine lv_aload_n hx hb dX5_either_37 rfl (lv_at hl 0 rfl) ?_
          refine lv_bipush (v := 124) hx hb dX5_either_38 bp_124 ?_
          refine sg_callv (va_runV (As := [.int 124]) (rest := []) ⟨hx, hb, hml, hown, hts⟩ (kX5_write l D ca za h hh f_20 L Q hI 124 H.size) (sl_c5_write_0_0_0_0_5 hts ⟨Nat.le_of_ble_eq_true rfl, Nat.le_of_ble_eq_true rfl⟩) (sl_vX_4 hA hK hP hS hZ) rfl rfl hl.1 rfl (lv_room (Nat.le_of_ble_eq_true rfl)) dX5_either_40 ⟨Nat.le_refl _, Nat.le_refl _⟩) hA hS (fun f_24 L_25 Q_26 H locs hq hP hS => ?_)
          obtain ⟨⟨hI, hk_f_24, eL9, eQ9⟩, u_27⟩ := hq
          rw [eL9, eQ9] at hP; clear eL9 eQ9
          have hF : sgK WkX5_either_1 f f_24 := sgK.tr hF hk_f_24 (by decide +kernel)
          obtain ⟨v_28, ev_28⟩ : ∃ z : Int32, z = y2_7 + 1 := ⟨_, rfl⟩
          have q_29 : v_28.toInt = y2_7.toInt + 1 := by rw [ev_28]; exact (bn_addc y2_7 1 (by decide) (by omega) (by omega))
          refine lv_iinc (v := v_28) (lv' := [(2, .int v_28), (0, .ref (h 4)), (1, .int 1)]) hx hb dX5_either_43 hl (k := 2) rfl (by rw [ev_28]; rfl) (by decide) rfl (fun ls hl => ?_)
          refine lv_goto (tgt := 7) hx hb dX5_either_46 (by decide) ?_
          exact ih_7 v_28 f_24 _ _ _ (hs.trans ((if_pos c_16).trans (spl_e ev_17 (spl_e ef_19 (spl_e u_23 (spl_e u_27 (spl_e ev_28 rfl))))))) (by omega) ⟨by omega, by omega⟩ hI hF hP hS (lv_sub hl [1, 2, 0] rfl)
  refine lv_aload_n hx hb dX5_either_0 rfl (lv_at hl 0 rfl) ?_
  refine lv_iload_n hx hb dX5_either_1 rfl (lv_at hl 1 rfl) ?_
  refine sg_callv (va_runV (As := [.int 1]) (rest := []) ⟨hx, hb, hml, hown, hts⟩ (kX5_both_1 l D ca za h hh f L Q hI H.size) (sl_c5_both_41_0_0_913_5 hts ⟨Nat.le_of_ble_eq_true rfl, Nat.le_of_ble_eq_true rfl⟩) (sl_vX_4 hA hK hP hS hZ) rfl rfl hl.1 rfl (lv_room (Nat.le_of_ble_eq_true rfl)) dX5_either_2 ⟨Nat.le_refl _, Nat.le_refl _⟩) hA hS (fun f_30 L_31 Q_32 H locs hq hP hS => ?_)
  obtain ⟨⟨hI, hk_f_30, eL9, eQ9⟩, u_33⟩ := hq
  rw [eL9, eQ9] at hP; clear eL9 eQ9
  have hF : sgK WkX5_either_1 f f_30 := sgK.tr hF hk_f_30 (by decide +kernel)
  refine lv_iconst (v := 0) hx hb dX5_either_5 ic_0 ?_
  refine lv_istore_n (lv' := [(2, .int 0), (0, .ref (h 4)), (1, .int 1)]) hx hb dX5_either_6 rfl hl (by decide) rfl (fun ls hl => ?_)
  exact loop_7 121 0 f_30 _ _ _ (hs.trans ((spl_e u_33 rfl))) (by have kc0 : (0 : Int32).toInt = 0 := ti_0; omega) (by decide) hI hF hP hS (lv_sub hl [1, 2, 0] rfl)

abbrev WkX5_opened_1 : List (Nat × Nat × Option Nat) := [(4, 4, some 6), (4, 4, some 7), (4, 4, some 8), (6, 6, none)]
set_option maxHeartbeats 4000000 in
set_option maxRecDepth 100000 in
theorem kX5_opened_1 (l : Launch) (D : va_G) (ca : Nat → ClassId) (za h : Nat → Nat) (hh : sgH 52 h) (f : sg_F) (L : sg_L) (Q : sg_Q) (hI : sgI loX hiX f) (x0 : Int32) (b0 : 33 ≤ x0.toInt ∧ x0.toInt ≤ 49) (sz : Nat) : Met l yX5_opened gwX5_opened { frames := 43, cells := 0, slots := 0, locals := 957 } (sgP D vwCl (tyX ca) 52 h (eX ca h) zcX za f L Q sz [.ref (h 4), .int x0, .int 1]) (sgQv D vwCl 52 h (eX ca h) sz (fun f1 L1 Q1 => ((sgI loX hiX f1 ∧ sgK WkX5_opened_1 f f1 ∧ L1 = L ∧ Q1 = Q) ∧ (f1) = sX5_opened_1 x0 f L))) 0 0 (sgA 52 h sz) := by
  refine sg_ofWv (cc := cX5_opened) (maxL := 3) RX5 (by decide) rfl rfl (Nat.le_of_ble_eq_true rfl) ?_
  intro p e s m below meth cd Qz ls hx hb hml hown hts hK hZ hP hS hl hret
  have hA := sgY.self (n := 52) (h := h) (sz := s.heap.size)
  have hl : lv_has ls 3 [(0, .ref (h 4)), (1, .int x0), (2, .int 1)] := hl
  obtain ⟨H, hH⟩ : ∃ z : Heap, z = s.heap := ⟨_, rfl⟩
  obtain ⟨locs, hlo⟩ : ∃ z : List Loc, z = [] := ⟨_, rfl⟩
  have hP : va_P D vwCl (sgw 52 h (eX ca h) f L Q) H := by rw [hH]; exact hP
  have hS : va_S (sgA 52 h s.heap.size) s.heap H locs := by rw [hH, hlo]; exact hS
  suffices hgo : W p l e ({ frames := 43, cells := 0, slots := 0, locals := 957 }) s m ([.ref (h 4), .int x0, .int 1] : List Value).toArray below meth cd H locs 0 0 Qz (F0 m 0 ls []) by rw [hH, hlo] at hgo; exact hgo
  clear hH hlo
  obtain ⟨sp, hsp⟩ : ∃ z : sg_F, z = sX5_opened_1 x0 f L := ⟨_, rfl⟩
  have hs : sp = sX5_opened_1 x0 f L := hsp
  have hF : sgK WkX5_opened_1 f f := sgK.rf
  refine lv_iload_n hx hb dX5_opened_0 rfl (lv_at hl 1 rfl) ?_
  refine lv_bipush (v := 40) hx hb dX5_opened_1 bp_40 ?_
  refine lv_icmp_eq (tgt := 29) hx hb dX5_opened_3 (by decide) (fun c => ?_) (fun c => ?_)
  · skip
    have c_1 : x0.toInt = 40 := (by first | exact (cm_eq1 ti_40 c) | (have z := Int32.toInt_inj.mpr c; have k1 : (40 : Int32).toInt = 40 := ti_40; omega))
    refine lv_aload_n hx hb dX5_opened_29 rfl (lv_at hl 0 rfl) ?_
    refine lv_iload_n hx hb dX5_opened_30 rfl (lv_at hl 2 rfl) ?_
    refine sg_callv (va_runV (As := [.int 1]) (rest := []) ⟨hx, hb, hml, hown, hts⟩ (kX5_either_1 l D ca za h hh f L Q hI H.size) (sl_c5_either_42_0_0_935_5 hts ⟨Nat.le_of_ble_eq_true rfl, Nat.le_of_ble_eq_true rfl⟩) (sl_vX_4 hA hK hP hS hZ) rfl rfl hl.1 rfl (lv_room (Nat.le_of_ble_eq_true rfl)) dX5_opened_31 ⟨Nat.le_refl _, Nat.le_refl _⟩) hA hS (fun f_3 L_4 Q_5 H locs hq hP hS => ?_)
    obtain ⟨⟨hI, hk_f_3, eL9, eQ9⟩, u_6⟩ := hq
    rw [eL9, eQ9] at hP; clear eL9 eQ9
    have hF : sgK WkX5_opened_1 f f_3 := sgK.tr hF hk_f_3 (by decide +kernel)
    refine lv_aload_n hx hb dX5_opened_34 rfl (lv_at hl 0 rfl) ?_
    obtain ⟨v_7, ev_7⟩ : ∃ z : Int32, z = f_3 4 6 := ⟨_, rfl⟩
    have q_8 : 0 ≤ v_7.toInt ∧ v_7.toInt ≤ 120 := by rw [ev_7]; exact hI 4 6
    have q_9 : (f_3 4 6).toInt = v_7.toInt := (congrArg Int32.toInt (show f_3 4 6 = v_7 from ev_7.symm))
    obtain ⟨v_10, ev_10⟩ : ∃ z : Int32, z = f_3 4 1 := ⟨_, rfl⟩
    have q_11 : 0 ≤ v_10.toInt ∧ v_10.toInt ≤ 120 := by rw [ev_10]; exact hI 4 1
    have q_12 : (f_3 4 1).toInt = v_10.toInt := (congrArg Int32.toInt (show f_3 4 1 = v_10 from ev_10.symm))
    refine sg_calli (va_runV (As := []) (rest := []) ⟨hx, hb, hml, hown, hts⟩ (kX5_next l D ca za h hh f_3 L Q hI H.size) (sl_c5_next_0_0_0_0_5 hts ⟨Nat.le_of_ble_eq_true rfl, Nat.le_of_ble_eq_true rfl⟩) (sl_vX_4 hA hK hP hS hZ) rfl rfl hl.1 rfl (lv_room (Nat.le_of_ble_eq_true rfl)) dX5_opened_35 ⟨Nat.le_refl _, Nat.le_refl _⟩) hA hS (fun r_16 f_13 L_14 Q_15 H locs hq hP hS => ?_)
    obtain ⟨⟨ef9, eL9, eQ9⟩, hq, p_17, u_18⟩ := hq
    replace hs := hs.trans ((if_pos c_1).trans (spl_e u_6 (spl_e ev_7 (spl_e ev_10 (spl_e u_18 rfl)))))
    rw [ef9, eL9, eQ9] at hP; clear ef9 eL9 eQ9
    refine lv_bipush (v := 41) hx hb dX5_opened_38 bp_41 ?_
    refine lv_icmp_ne (tgt := 56) hx hb dX5_opened_40 (by decide) (fun c => ?_) (fun c => ?_)
    · skip
      have c_19 : r_16.toInt ≠ 41 := (by first | exact (cm_ne1 ti_41 c) | (have z := bn_ne c; have k1 : (41 : Int32).toInt = 41 := ti_41; omega))
      refine lv_aload_n hx hb dX5_opened_56 rfl (lv_at hl 0 rfl) ?_
      refine sg_callv (va_runV (As := []) (rest := []) ⟨hx, hb, hml, hown, hts⟩ (kX5_fail l D ca za h hh f_3 L Q hI H.size) (sl_c5_fail_0_0_0_0_5 hts ⟨Nat.le_of_ble_eq_true rfl, Nat.le_of_ble_eq_true rfl⟩) (sl_vX_4 hA hK hP hS hZ) rfl rfl hl.1 rfl (lv_room (Nat.le_of_ble_eq_true rfl)) dX5_opened_57 ⟨Nat.le_refl _, Nat.le_refl _⟩) hA hS (fun f_21 L_22 Q_23 H locs hq hP hS => ?_)
      obtain ⟨⟨hI, hk_f_21, eL9, eQ9⟩, u_24⟩ := hq
      rw [eL9, eQ9] at hP; clear eL9 eQ9
      have hF : sgK WkX5_opened_1 f f_21 := sgK.tr hF hk_f_21 (by decide +kernel)
      exact hret _ _ _ _ f_21 L Q dX5_opened_60 hP hS ⟨⟨hI, hF, rfl, rfl⟩, (Eq.trans (Eq.symm (hs.trans ((if_neg c_19).trans (spl_e u_24 rfl)))) hsp)⟩
    · skip
      have c_20 : r_16.toInt = 41 := (by first | exact (cm_eq1 ti_41 c) | (have z := Int32.toInt_inj.mpr c; have k1 : (41 : Int32).toInt = 41 := ti_41; omega))
      refine lv_aload_n hx hb dX5_opened_43 rfl (lv_at hl 0 rfl) ?_
      refine lv_dup hx hb dX5_opened_44 rfl ?_
      refine sl_gX_4_6_5 (v := v_7) hx hb hts hown hK hP (show f_3 4 6 = v_7 from ev_7.symm) dX5_opened_45 ?_
      refine lv_iconst (v := 1) hx hb dX5_opened_48 ic_1 ?_
      refine lv_iadd hx hb dX5_opened_49 ?_
      refine lv_topi (fun v_25 ev_25 => ?_)
      have q_26 : v_25.toInt = v_7.toInt + 1 := by rw [ev_25]; first | exact cm_add ti_1 (by omega) (by omega) | (have k1 : (1 : Int32).toInt = 1 := ti_1; exact (bn_addI (by omega) (by omega)).trans (by omega))
      refine sl_pX_4_6_5 (x := v_25) hx hb hts hown hh hA hK hP hS dX5_opened_50 (fun f_27 H locs ef_27 hP hS => ?_)
      have hI : sgI loX hiX f_27 := by rw [ef_27]; exact sgI.put hI 4 6 (show 0 ≤ (v_25 : Int32).toInt ∧ (v_25 : Int32).toInt ≤ 120 from ⟨by omega, by omega⟩)
      have hF : sgK WkX5_opened_1 f f_27 := sgK.put hF ef_27 (by rfl)
      refine lv_goto (tgt := 60) hx hb dX5_opened_53 (by decide) ?_
      exact hret _ _ _ _ f_27 L Q dX5_opened_60 hP hS ⟨⟨hI, hF, rfl, rfl⟩, (Eq.trans (Eq.symm (hs.trans ((if_pos c_20).trans (spl_e ev_25 (spl_e ef_27 rfl))))) hsp)⟩
  · skip
    have c_2 : x0.toInt ≠ 40 := (by first | exact (cm_ne1 ti_40 c) | (have z := bn_ne c; have k1 : (40 : Int32).toInt = 40 := ti_40; omega))
    refine lv_aload_n hx hb dX5_opened_6 rfl (lv_at hl 0 rfl) ?_
    refine lv_iload_n hx hb dX5_opened_7 rfl (lv_at hl 2 rfl) ?_
    refine sg_callv (va_runV (As := [.int 1]) (rest := []) ⟨hx, hb, hml, hown, hts⟩ (kX5_operand_1 l D ca za h hh f L Q hI H.size) (sl_c5_operand_37_0_0_823_5 hts ⟨Nat.le_of_ble_eq_true rfl, Nat.le_of_ble_eq_true rfl⟩) (sl_vX_4 hA hK hP hS hZ) rfl rfl hl.1 rfl (lv_room (Nat.le_of_ble_eq_true rfl)) dX5_opened_8 ⟨Nat.le_refl _, Nat.le_refl _⟩) hA hS (fun f_28 L_29 Q_30 H locs hq hP hS => ?_)
    obtain ⟨⟨hI, hk_f_28, eL9, eQ9⟩, u_31⟩ := hq
    replace hs := hs.trans ((if_neg c_2).trans (spl_e u_31 rfl))
    rw [eL9, eQ9] at hP; clear eL9 eQ9
    have hF : sgK WkX5_opened_1 f f_28 := sgK.tr hF hk_f_28 (by decide +kernel)
    refine lv_aload_n hx hb dX5_opened_11 rfl (lv_at hl 0 rfl) ?_
    refine lv_iload_n hx hb dX5_opened_12 rfl (lv_at hl 1 rfl) ?_
    refine lv_bipush (v := 33) hx hb dX5_opened_13 bp_33 ?_
    refine lv_icmp_ne (tgt := 23) hx hb dX5_opened_15 (by decide) (fun c => ?_) (fun c => ?_)
    · skip
      have c_32 : x0.toInt ≠ 33 := (by first | exact (cm_ne1 ti_33 c) | (have z := bn_ne c; have k1 : (33 : Int32).toInt = 33 := ti_33; omega))
      refine lv_bipush (v := 126) hx hb dX5_opened_23 bp_126 ?_
      refine sg_callv (va_runV (As := [.int 126]) (rest := []) ⟨hx, hb, hml, hown, hts⟩ (kX5_write l D ca za h hh f_28 L Q hI 126 H.size) (sl_c5_write_0_0_0_0_5 hts ⟨Nat.le_of_ble_eq_true rfl, Nat.le_of_ble_eq_true rfl⟩) (sl_vX_4 hA hK hP hS hZ) rfl rfl hl.1 rfl (lv_room (Nat.le_of_ble_eq_true rfl)) dX5_opened_25 ⟨Nat.le_refl _, Nat.le_refl _⟩) hA hS (fun f_34 L_35 Q_36 H locs hq hP hS => ?_)
      obtain ⟨⟨hI, hk_f_34, eL9, eQ9⟩, u_37⟩ := hq
      rw [eL9, eQ9] at hP; clear eL9 eQ9
      have hF : sgK WkX5_opened_1 f f_34 := sgK.tr hF hk_f_34 (by decide +kernel)
      exact hret _ _ _ _ f_34 L Q dX5_opened_28 hP hS ⟨⟨hI, hF, rfl, rfl⟩, (Eq.trans (Eq.symm (hs.trans ((if_neg c_32).trans (spl_e u_37 rfl)))) hsp)⟩
    · skip
      have c_33 : x0.toInt = 33 := (by first | exact (cm_eq1 ti_33 c) | (have z := Int32.toInt_inj.mpr c; have k1 : (33 : Int32).toInt = 33 := ti_33; omega))
      refine lv_bipush (v := 33) hx hb dX5_opened_18 bp_33 ?_
      refine lv_goto (tgt := 25) hx hb dX5_opened_20 (by decide) ?_
      refine sg_callv (va_runV (As := [.int 33]) (rest := []) ⟨hx, hb, hml, hown, hts⟩ (kX5_write l D ca za h hh f_28 L Q hI 33 H.size) (sl_c5_write_0_0_0_0_5 hts ⟨Nat.le_of_ble_eq_true rfl, Nat.le_of_ble_eq_true rfl⟩) (sl_vX_4 hA hK hP hS hZ) rfl rfl hl.1 rfl (lv_room (Nat.le_of_ble_eq_true rfl)) dX5_opened_25 ⟨Nat.le_refl _, Nat.le_refl _⟩) hA hS (fun f_38 L_39 Q_40 H locs hq hP hS => ?_)
      obtain ⟨⟨hI, hk_f_38, eL9, eQ9⟩, u_41⟩ := hq
      rw [eL9, eQ9] at hP; clear eL9 eQ9
      have hF : sgK WkX5_opened_1 f f_38 := sgK.tr hF hk_f_38 (by decide +kernel)
      exact hret _ _ _ _ f_38 L Q dX5_opened_28 hP hS ⟨⟨hI, hF, rfl, rfl⟩, (Eq.trans (Eq.symm (hs.trans ((if_pos c_33).trans (spl_e u_41 rfl)))) hsp)⟩

abbrev WkX5_operand_0 : List (Nat × Nat × Option Nat) := [(4, 4, some 6), (4, 4, some 7), (4, 4, some 8), (6, 6, none)]
set_option maxHeartbeats 4000000 in
set_option maxRecDepth 100000 in
theorem kX5_operand_0 (l : Launch) (D : va_G) (ca : Nat → ClassId) (za h : Nat → Nat) (hh : sgH 52 h) (f : sg_F) (L : sg_L) (Q : sg_Q) (hI : sgI loX hiX f) (sz : Nat) : Met l yX5_operand gwX5_operand { frames := 44, cells := 0, slots := 0, locals := 979 } (sgP D vwCl (tyX ca) 52 h (eX ca h) zcX za f L Q sz [.ref (h 4), .int 0]) (sgQv D vwCl 52 h (eX ca h) sz (fun f1 L1 Q1 => ((sgI loX hiX f1 ∧ sgK WkX5_operand_0 f f1 ∧ L1 = L ∧ Q1 = Q) ∧ (f1) = sX5_operand_0 f L))) 0 0 (sgA 52 h sz) := by
  refine sg_ofWv (cc := cX5_operand) (maxL := 3) RX5 (by decide) rfl rfl (Nat.le_of_ble_eq_true rfl) ?_
  intro p e s m below meth cd Qz ls hx hb hml hown hts hK hZ hP hS hl hret
  have hA := sgY.self (n := 52) (h := h) (sz := s.heap.size)
  have hl : lv_has ls 3 [(0, .ref (h 4)), (1, .int 0)] := hl
  obtain ⟨H, hH⟩ : ∃ z : Heap, z = s.heap := ⟨_, rfl⟩
  obtain ⟨locs, hlo⟩ : ∃ z : List Loc, z = [] := ⟨_, rfl⟩
  have hP : va_P D vwCl (sgw 52 h (eX ca h) f L Q) H := by rw [hH]; exact hP
  have hS : va_S (sgA 52 h s.heap.size) s.heap H locs := by rw [hH, hlo]; exact hS
  suffices hgo : W p l e ({ frames := 44, cells := 0, slots := 0, locals := 979 }) s m ([.ref (h 4), .int 0] : List Value).toArray below meth cd H locs 0 0 Qz (F0 m 0 ls []) by rw [hH, hlo] at hgo; exact hgo
  clear hH hlo
  obtain ⟨sp, hsp⟩ : ∃ z : sg_F, z = sX5_operand_0 f L := ⟨_, rfl⟩
  have hs : sp = sX5_operand_0 f L := hsp
  have hF : sgK WkX5_operand_0 f f := sgK.rf
  refine lv_aload_n hx hb dX5_operand_0 rfl (lv_at hl 0 rfl) ?_
  obtain ⟨v_1, ev_1⟩ : ∃ z : Int32, z = f 4 6 := ⟨_, rfl⟩
  have q_2 : 0 ≤ v_1.toInt ∧ v_1.toInt ≤ 120 := by rw [ev_1]; exact hI 4 6
  have q_3 : (f 4 6).toInt = v_1.toInt := (congrArg Int32.toInt (show f 4 6 = v_1 from ev_1.symm))
  obtain ⟨v_4, ev_4⟩ : ∃ z : Int32, z = f 4 1 := ⟨_, rfl⟩
  have q_5 : 0 ≤ v_4.toInt ∧ v_4.toInt ≤ 120 := by rw [ev_4]; exact hI 4 1
  have q_6 : (f 4 1).toInt = v_4.toInt := (congrArg Int32.toInt (show f 4 1 = v_4 from ev_4.symm))
  refine sg_calli (va_runV (As := []) (rest := []) ⟨hx, hb, hml, hown, hts⟩ (kX5_next l D ca za h hh f L Q hI H.size) (sl_c5_next_0_0_0_0_5 hts ⟨Nat.le_of_ble_eq_true rfl, Nat.le_of_ble_eq_true rfl⟩) (sl_vX_4 hA hK hP hS hZ) rfl rfl hl.1 rfl (lv_room (Nat.le_of_ble_eq_true rfl)) dX5_operand_1 ⟨Nat.le_refl _, Nat.le_refl _⟩) hA hS (fun r_10 f_7 L_8 Q_9 H locs hq hP hS => ?_)
  obtain ⟨⟨ef9, eL9, eQ9⟩, hq, p_11, u_12⟩ := hq
  rw [ef9, eL9, eQ9] at hP; clear ef9 eL9 eQ9
  refine lv_istore_n (lv' := [(2, .int r_10), (0, .ref (h 4)), (1, .int 0)]) hx hb dX5_operand_4 rfl hl (by decide) rfl (fun ls hl => ?_)
  refine lv_iload_n hx hb dX5_operand_5 rfl (lv_at hl 0 rfl) ?_
  refine sg_calli (va_runS (As := [.int r_10]) (rest := []) ⟨hx, hb, hml, hown, hts⟩ (kX5_isDigit l D ca za h hh f L Q hI r_10 ⟨by omega, by omega⟩ H.size) (va_cwS 1 hts (gw_S (fun _ h => List.mem_cons_of_mem _ h) mw_505 mw_506 mw_73 mw_504) rfl rfl rfl hd_yX5_isDigit.2 ⟨Nat.le_of_ble_eq_true rfl, Nat.le_of_ble_eq_true rfl⟩) (sg_preS hA hK hP hS hZ) rfl rfl hl.1 rfl (lv_room (Nat.le_of_ble_eq_true rfl)) dX5_operand_6 ⟨Nat.le_refl _, Nat.le_refl _⟩) hA hS (fun r_16 f_13 L_14 Q_15 H locs hq hP hS => ?_)
  obtain ⟨⟨ef9, eL9, eQ9⟩, hq, u_17⟩ := hq
  replace hs := hs.trans (spl_e ev_1 (spl_e ev_4 (spl_e u_12 (spl_e u_17 rfl))))
  rw [ef9, eL9, eQ9] at hP; clear ef9 eL9 eQ9
  rcases hq with ⟨rfl, hq⟩ | ⟨rfl, hq⟩
  · skip
    have hc_18 := hq
    refine lv_if_eq (tgt := 19) hx hb dX5_operand_9 (by decide) (fun c => absurd c (by decide)) (fun c => ?_)
    refine lv_aload_n hx hb dX5_operand_12 rfl (lv_at hl 1 rfl) ?_
    refine sg_callv (va_runV (As := []) (rest := []) ⟨hx, hb, hml, hown, hts⟩ (kX5_number l D ca za h hh f L Q hI H.size) (sl_c5_number_1_0_0_21_5 hts ⟨Nat.le_of_ble_eq_true rfl, Nat.le_of_ble_eq_true rfl⟩) (sl_vX_4 hA hK hP hS hZ) rfl rfl hl.1 rfl (lv_room (Nat.le_of_ble_eq_true rfl)) dX5_operand_13 ⟨Nat.le_refl _, Nat.le_refl _⟩) hA hS (fun f_19 L_20 Q_21 H locs hq hP hS => ?_)
    obtain ⟨⟨hI, hk_f_19, eL9, eQ9⟩, u_22⟩ := hq
    rw [eL9, eQ9] at hP; clear eL9 eQ9
    have hF : sgK WkX5_operand_0 f f_19 := sgK.tr hF hk_f_19 (by decide +kernel)
    refine lv_goto (tgt := 93) hx hb dX5_operand_16 (by decide) ?_
    exact hret _ _ _ _ f_19 L Q dX5_operand_93 hP hS ⟨⟨hI, hF, rfl, rfl⟩, (Eq.trans (Eq.symm (hs.trans ((if_pos rfl).trans (spl_e u_22 rfl)))) hsp)⟩
  · skip
    have hc_18 := hq
    refine lv_if_eq (tgt := 19) hx hb dX5_operand_9 (by decide) (fun c => ?_) (fun c => absurd c (by decide))
    refine lv_iload_n hx hb dX5_operand_19 rfl (lv_at hl 0 rfl) ?_
    refine sg_calli (va_runS (As := [.int r_10]) (rest := []) ⟨hx, hb, hml, hown, hts⟩ (kX5_isName l D ca za h hh f L Q hI r_10 ⟨by omega, by omega⟩ H.size) (va_cwS 1 hts (gw_S (fun _ h => List.mem_cons_of_mem _ h) mw_525 mw_526 mw_73 mw_524) rfl rfl rfl hd_yX5_isName.2 ⟨Nat.le_of_ble_eq_true rfl, Nat.le_of_ble_eq_true rfl⟩) (sg_preS hA hK hP hS hZ) rfl rfl hl.1 rfl (lv_room (Nat.le_of_ble_eq_true rfl)) dX5_operand_20 ⟨Nat.le_refl _, Nat.le_refl _⟩) hA hS (fun r_26 f_23 L_24 Q_25 H locs hq hP hS => ?_)
    obtain ⟨⟨ef9, eL9, eQ9⟩, hq, u_27⟩ := hq
    replace hs := hs.trans ((if_neg (by decide)).trans (spl_e u_27 rfl))
    rw [ef9, eL9, eQ9] at hP; clear ef9 eL9 eQ9
    rcases hq with ⟨rfl, hq⟩ | ⟨rfl, hq⟩
    · skip
      have hc_28 := hq
      refine lv_if_eq (tgt := 44) hx hb dX5_operand_23 (by decide) (fun c => absurd c (by decide)) (fun c => ?_)
      refine lv_aload_n hx hb dX5_operand_26 rfl (lv_at hl 1 rfl) ?_
      refine lv_dup hx hb dX5_operand_27 rfl ?_
      refine sl_gX_4_6_5 (v := v_1) hx hb hts hown hK hP (show f 4 6 = v_1 from ev_1.symm) dX5_operand_28 ?_
      refine lv_iconst (v := 1) hx hb dX5_operand_31 ic_1 ?_
      refine lv_iadd hx hb dX5_operand_32 ?_
      refine lv_topi (fun v_29 ev_29 => ?_)
      have q_30 : v_29.toInt = v_1.toInt + 1 := by rw [ev_29]; first | exact cm_add ti_1 (by omega) (by omega) | (have k1 : (1 : Int32).toInt = 1 := ti_1; exact (bn_addI (by omega) (by omega)).trans (by omega))
      refine sl_pX_4_6_5 (x := v_29) hx hb hts hown hh hA hK hP hS dX5_operand_33 (fun f_31 H locs ef_31 hP hS => ?_)
      have hI : sgI loX hiX f_31 := by rw [ef_31]; exact sgI.put hI 4 6 (show 0 ≤ (v_29 : Int32).toInt ∧ (v_29 : Int32).toInt ≤ 120 from ⟨by omega, by omega⟩)
      have hF : sgK WkX5_operand_0 f f_31 := sgK.put hF ef_31 (by rfl)
      refine lv_aload_n hx hb dX5_operand_36 rfl (lv_at hl 1 rfl) ?_
      refine lv_iload_n hx hb dX5_operand_37 rfl (lv_at hl 0 rfl) ?_
      refine sg_callv (va_runV (As := [.int r_10]) (rest := []) ⟨hx, hb, hml, hown, hts⟩ (kX5_write l D ca za h hh f_31 L Q hI r_10 H.size) (sl_c5_write_0_0_0_0_5 hts ⟨Nat.le_of_ble_eq_true rfl, Nat.le_of_ble_eq_true rfl⟩) (sl_vX_4 hA hK hP hS hZ) rfl rfl hl.1 rfl (lv_room (Nat.le_of_ble_eq_true rfl)) dX5_operand_38 ⟨Nat.le_refl _, Nat.le_refl _⟩) hA hS (fun f_32 L_33 Q_34 H locs hq hP hS => ?_)
      obtain ⟨⟨hI, hk_f_32, eL9, eQ9⟩, u_35⟩ := hq
      rw [eL9, eQ9] at hP; clear eL9 eQ9
      have hF : sgK WkX5_operand_0 f f_32 := sgK.tr hF hk_f_32 (by decide +kernel)
      refine lv_goto (tgt := 93) hx hb dX5_operand_41 (by decide) ?_
      exact hret _ _ _ _ f_32 L Q dX5_operand_93 hP hS ⟨⟨hI, hF, rfl, rfl⟩, (Eq.trans (Eq.symm (hs.trans ((if_pos rfl).trans (spl_e ev_29 (spl_e ef_31 (spl_e u_35 rfl)))))) hsp)⟩
    · skip
      have hc_28 := hq
      refine lv_if_eq (tgt := 44) hx hb dX5_operand_23 (by decide) (fun c => ?_) (fun c => absurd c (by decide))
      refine lv_iload_n hx hb dX5_operand_44 rfl (lv_at hl 0 rfl) ?_
      refine lv_bipush (v := 40) hx hb dX5_operand_45 bp_40 ?_
      refine lv_icmp_eq (tgt := 62) hx hb dX5_operand_47 (by decide) (fun c => ?_) (fun c => ?_)
      · skip
        have c_36 : r_10.toInt = 40 := (by first | exact (cm_eq1 ti_40 c) | (have z := Int32.toInt_inj.mpr c; have k1 : (40 : Int32).toInt = 40 := ti_40; omega))
        refine lv_iload_n hx hb dX5_operand_62 rfl (lv_at hl 2 rfl) ?_
        refine lv_bipush (v := 6) hx hb dX5_operand_63 bp_6 ?_
        refine lv_icmp_lt (tgt := 75) hx hb dX5_operand_65 (by decide) (fun c => ?_) (fun c => absurd c (by decide))
        refine lv_aload_n hx hb dX5_operand_75 rfl (lv_at hl 1 rfl) ?_
        refine lv_dup hx hb dX5_operand_76 rfl ?_
        refine sl_gX_4_6_5 (v := v_1) hx hb hts hown hK hP (show f 4 6 = v_1 from ev_1.symm) dX5_operand_77 ?_
        refine lv_iconst (v := 1) hx hb dX5_operand_80 ic_1 ?_
        refine lv_iadd hx hb dX5_operand_81 ?_
        refine lv_topi (fun v_38 ev_38 => ?_)
        have q_39 : v_38.toInt = v_1.toInt + 1 := by rw [ev_38]; first | exact cm_add ti_1 (by omega) (by omega) | (have k1 : (1 : Int32).toInt = 1 := ti_1; exact (bn_addI (by omega) (by omega)).trans (by omega))
        refine sl_pX_4_6_5 (x := v_38) hx hb hts hown hh hA hK hP hS dX5_operand_82 (fun f_40 H locs ef_40 hP hS => ?_)
        have hI : sgI loX hiX f_40 := by rw [ef_40]; exact sgI.put hI 4 6 (show 0 ≤ (v_38 : Int32).toInt ∧ (v_38 : Int32).toInt ≤ 120 from ⟨by omega, by omega⟩)
        have hF : sgK WkX5_operand_0 f f_40 := sgK.put hF ef_40 (by rfl)
        refine lv_aload_n hx hb dX5_operand_85 rfl (lv_at hl 1 rfl) ?_
        refine lv_iload_n hx hb dX5_operand_86 rfl (lv_at hl 0 rfl) ?_
        refine lv_iload_n hx hb dX5_operand_87 rfl (lv_at hl 2 rfl) ?_
        refine lv_iconst (v := 1) hx hb dX5_operand_88 ic_1 ?_
        refine lv_iadd hx hb dX5_operand_89 ?_
        refine W.eq (g2 := F0 m 90 ls [.int 1, .int r_10, .ref (h 4)]) (by rw [show (0 + 1 : Int32) = 1 from by decide]) ?_
        refine sg_callv (va_runV (As := [.int r_10, .int 1]) (rest := []) ⟨hx, hb, hml, hown, hts⟩ (kX5_opened_1 l D ca za h hh f_40 L Q hI r_10 ⟨by omega, by omega⟩ H.size) (sl_c5_opened_43_0_0_957_5 hts ⟨Nat.le_of_ble_eq_true rfl, Nat.le_of_ble_eq_true rfl⟩) (sl_vX_4 hA hK hP hS hZ) rfl rfl hl.1 rfl (lv_room (Nat.le_of_ble_eq_true rfl)) dX5_operand_90 ⟨Nat.le_refl _, Nat.le_refl _⟩) hA hS (fun f_41 L_42 Q_43 H locs hq hP hS => ?_)
        obtain ⟨⟨hI, hk_f_41, eL9, eQ9⟩, u_44⟩ := hq
        rw [eL9, eQ9] at hP; clear eL9 eQ9
        have hF : sgK WkX5_operand_0 f f_41 := sgK.tr hF hk_f_41 (by decide +kernel)
        exact hret _ _ _ _ f_41 L Q dX5_operand_93 hP hS ⟨⟨hI, hF, rfl, rfl⟩, (Eq.trans (Eq.symm (hs.trans ((if_neg (by decide)).trans ((if_pos c_36).trans (spl_e ev_38 (spl_e ef_40 (spl_e u_44 rfl))))))) hsp)⟩
      · skip
        have c_37 : r_10.toInt ≠ 40 := (by first | exact (cm_ne1 ti_40 c) | (have z := bn_ne c; have k1 : (40 : Int32).toInt = 40 := ti_40; omega))
        replace hs := hs.trans ((if_neg (by decide)).trans ((if_neg c_37).trans rfl))
        refine lv_iload_n hx hb dX5_operand_50 rfl (lv_at hl 0 rfl) ?_
        refine lv_bipush (v := 33) hx hb dX5_operand_51 bp_33 ?_
        refine lv_icmp_eq (tgt := 62) hx hb dX5_operand_53 (by decide) (fun c => ?_) (fun c => ?_)
        · skip
          have c_45 : r_10.toInt = 33 := (by first | exact (cm_eq1 ti_33 c) | (have z := Int32.toInt_inj.mpr c; have k1 : (33 : Int32).toInt = 33 := ti_33; omega))
          refine lv_iload_n hx hb dX5_operand_62 rfl (lv_at hl 2 rfl) ?_
          refine lv_bipush (v := 6) hx hb dX5_operand_63 bp_6 ?_
          refine lv_icmp_lt (tgt := 75) hx hb dX5_operand_65 (by decide) (fun c => ?_) (fun c => absurd c (by decide))
          refine lv_aload_n hx hb dX5_operand_75 rfl (lv_at hl 1 rfl) ?_
          refine lv_dup hx hb dX5_operand_76 rfl ?_
          refine sl_gX_4_6_5 (v := v_1) hx hb hts hown hK hP (show f 4 6 = v_1 from ev_1.symm) dX5_operand_77 ?_
          refine lv_iconst (v := 1) hx hb dX5_operand_80 ic_1 ?_
          refine lv_iadd hx hb dX5_operand_81 ?_
          refine lv_topi (fun v_47 ev_47 => ?_)
          have q_48 : v_47.toInt = v_1.toInt + 1 := by rw [ev_47]; first | exact cm_add ti_1 (by omega) (by omega) | (have k1 : (1 : Int32).toInt = 1 := ti_1; exact (bn_addI (by omega) (by omega)).trans (by omega))
          refine sl_pX_4_6_5 (x := v_47) hx hb hts hown hh hA hK hP hS dX5_operand_82 (fun f_49 H locs ef_49 hP hS => ?_)
          have hI : sgI loX hiX f_49 := by rw [ef_49]; exact sgI.put hI 4 6 (show 0 ≤ (v_47 : Int32).toInt ∧ (v_47 : Int32).toInt ≤ 120 from ⟨by omega, by omega⟩)
          have hF : sgK WkX5_operand_0 f f_49 := sgK.put hF ef_49 (by rfl)
          refine lv_aload_n hx hb dX5_operand_85 rfl (lv_at hl 1 rfl) ?_
          refine lv_iload_n hx hb dX5_operand_86 rfl (lv_at hl 0 rfl) ?_
          refine lv_iload_n hx hb dX5_operand_87 rfl (lv_at hl 2 rfl) ?_
          refine lv_iconst (v := 1) hx hb dX5_operand_88 ic_1 ?_
          refine lv_iadd hx hb dX5_operand_89 ?_
          refine W.eq (g2 := F0 m 90 ls [.int 1, .int r_10, .ref (h 4)]) (by rw [show (0 + 1 : Int32) = 1 from by decide]) ?_
          refine sg_callv (va_runV (As := [.int r_10, .int 1]) (rest := []) ⟨hx, hb, hml, hown, hts⟩ (kX5_opened_1 l D ca za h hh f_49 L Q hI r_10 ⟨by omega, by omega⟩ H.size) (sl_c5_opened_43_0_0_957_5 hts ⟨Nat.le_of_ble_eq_true rfl, Nat.le_of_ble_eq_true rfl⟩) (sl_vX_4 hA hK hP hS hZ) rfl rfl hl.1 rfl (lv_room (Nat.le_of_ble_eq_true rfl)) dX5_operand_90 ⟨Nat.le_refl _, Nat.le_refl _⟩) hA hS (fun f_50 L_51 Q_52 H locs hq hP hS => ?_)
          obtain ⟨⟨hI, hk_f_50, eL9, eQ9⟩, u_53⟩ := hq
          rw [eL9, eQ9] at hP; clear eL9 eQ9
          have hF : sgK WkX5_operand_0 f f_50 := sgK.tr hF hk_f_50 (by decide +kernel)
          exact hret _ _ _ _ f_50 L Q dX5_operand_93 hP hS ⟨⟨hI, hF, rfl, rfl⟩, (Eq.trans (Eq.symm (hs.trans ((if_pos c_45).trans (spl_e ev_47 (spl_e ef_49 (spl_e u_53 rfl)))))) hsp)⟩
        · skip
          have c_46 : r_10.toInt ≠ 33 := (by first | exact (cm_ne1 ti_33 c) | (have z := bn_ne c; have k1 : (33 : Int32).toInt = 33 := ti_33; omega))
          replace hs := hs.trans ((if_neg c_46).trans rfl)
          refine lv_iload_n hx hb dX5_operand_56 rfl (lv_at hl 0 rfl) ?_
          refine lv_bipush (v := 45) hx hb dX5_operand_57 bp_45 ?_
          refine lv_icmp_ne (tgt := 68) hx hb dX5_operand_59 (by decide) (fun c => ?_) (fun c => ?_)
          · skip
            have c_54 : r_10.toInt ≠ 45 := (by first | exact (cm_ne1 ti_45 c) | (have z := bn_ne c; have k1 : (45 : Int32).toInt = 45 := ti_45; omega))
            refine lv_aload_n hx hb dX5_operand_68 rfl (lv_at hl 1 rfl) ?_
            refine sg_callv (va_runV (As := []) (rest := []) ⟨hx, hb, hml, hown, hts⟩ (kX5_fail l D ca za h hh f L Q hI H.size) (sl_c5_fail_0_0_0_0_5 hts ⟨Nat.le_of_ble_eq_true rfl, Nat.le_of_ble_eq_true rfl⟩) (sl_vX_4 hA hK hP hS hZ) rfl rfl hl.1 rfl (lv_room (Nat.le_of_ble_eq_true rfl)) dX5_operand_69 ⟨Nat.le_refl _, Nat.le_refl _⟩) hA hS (fun f_56 L_57 Q_58 H locs hq hP hS => ?_)
            obtain ⟨⟨hI, hk_f_56, eL9, eQ9⟩, u_59⟩ := hq
            rw [eL9, eQ9] at hP; clear eL9 eQ9
            have hF : sgK WkX5_operand_0 f f_56 := sgK.tr hF hk_f_56 (by decide +kernel)
            refine lv_goto (tgt := 93) hx hb dX5_operand_72 (by decide) ?_
            exact hret _ _ _ _ f_56 L Q dX5_operand_93 hP hS ⟨⟨hI, hF, rfl, rfl⟩, (Eq.trans (Eq.symm (hs.trans ((if_neg c_54).trans (spl_e u_59 rfl)))) hsp)⟩
          · skip
            have c_55 : r_10.toInt = 45 := (by first | exact (cm_eq1 ti_45 c) | (have z := Int32.toInt_inj.mpr c; have k1 : (45 : Int32).toInt = 45 := ti_45; omega))
            refine lv_iload_n hx hb dX5_operand_62 rfl (lv_at hl 2 rfl) ?_
            refine lv_bipush (v := 6) hx hb dX5_operand_63 bp_6 ?_
            refine lv_icmp_lt (tgt := 75) hx hb dX5_operand_65 (by decide) (fun c => ?_) (fun c => absurd c (by decide))
            refine lv_aload_n hx hb dX5_operand_75 rfl (lv_at hl 1 rfl) ?_
            refine lv_dup hx hb dX5_operand_76 rfl ?_
            refine sl_gX_4_6_5 (v := v_1) hx hb hts hown hK hP (show f 4 6 = v_1 from ev_1.symm) dX5_operand_77 ?_
            refine lv_iconst (v := 1) hx hb dX5_operand_80 ic_1 ?_
            refine lv_iadd hx hb dX5_operand_81 ?_
            refine lv_topi (fun v_60 ev_60 => ?_)
            have q_61 : v_60.toInt = v_1.toInt + 1 := by rw [ev_60]; first | exact cm_add ti_1 (by omega) (by omega) | (have k1 : (1 : Int32).toInt = 1 := ti_1; exact (bn_addI (by omega) (by omega)).trans (by omega))
            refine sl_pX_4_6_5 (x := v_60) hx hb hts hown hh hA hK hP hS dX5_operand_82 (fun f_62 H locs ef_62 hP hS => ?_)
            have hI : sgI loX hiX f_62 := by rw [ef_62]; exact sgI.put hI 4 6 (show 0 ≤ (v_60 : Int32).toInt ∧ (v_60 : Int32).toInt ≤ 120 from ⟨by omega, by omega⟩)
            have hF : sgK WkX5_operand_0 f f_62 := sgK.put hF ef_62 (by rfl)
            refine lv_aload_n hx hb dX5_operand_85 rfl (lv_at hl 1 rfl) ?_
            refine lv_iload_n hx hb dX5_operand_86 rfl (lv_at hl 0 rfl) ?_
            refine lv_iload_n hx hb dX5_operand_87 rfl (lv_at hl 2 rfl) ?_
            refine lv_iconst (v := 1) hx hb dX5_operand_88 ic_1 ?_
            refine lv_iadd hx hb dX5_operand_89 ?_
            refine W.eq (g2 := F0 m 90 ls [.int 1, .int r_10, .ref (h 4)]) (by rw [show (0 + 1 : Int32) = 1 from by decide]) ?_
            refine sg_callv (va_runV (As := [.int r_10, .int 1]) (rest := []) ⟨hx, hb, hml, hown, hts⟩ (kX5_opened_1 l D ca za h hh f_62 L Q hI r_10 ⟨by omega, by omega⟩ H.size) (sl_c5_opened_43_0_0_957_5 hts ⟨Nat.le_of_ble_eq_true rfl, Nat.le_of_ble_eq_true rfl⟩) (sl_vX_4 hA hK hP hS hZ) rfl rfl hl.1 rfl (lv_room (Nat.le_of_ble_eq_true rfl)) dX5_operand_90 ⟨Nat.le_refl _, Nat.le_refl _⟩) hA hS (fun f_63 L_64 Q_65 H locs hq hP hS => ?_)
            obtain ⟨⟨hI, hk_f_63, eL9, eQ9⟩, u_66⟩ := hq
            rw [eL9, eQ9] at hP; clear eL9 eQ9
            have hF : sgK WkX5_operand_0 f f_63 := sgK.tr hF hk_f_63 (by decide +kernel)
            exact hret _ _ _ _ f_63 L Q dX5_operand_93 hP hS ⟨⟨hI, hF, rfl, rfl⟩, (Eq.trans (Eq.symm (hs.trans ((if_pos c_55).trans (spl_e ev_60 (spl_e ef_62 (spl_e u_66 rfl)))))) hsp)⟩

abbrev WkX5_product_0 : List (Nat × Nat × Option Nat) := [(4, 4, some 6), (4, 4, some 7), (4, 4, some 8), (6, 6, none)]
set_option maxHeartbeats 4000000 in
set_option maxRecDepth 100000 in
theorem kX5_product_0 (l : Launch) (D : va_G) (ca : Nat → ClassId) (za h : Nat → Nat) (hh : sgH 52 h) (f : sg_F) (L : sg_L) (Q : sg_Q) (hI : sgI loX hiX f) (sz : Nat) : Met l yX5_product gwX5_product { frames := 45, cells := 0, slots := 0, locals := 1001 } (sgP D vwCl (tyX ca) 52 h (eX ca h) zcX za f L Q sz [.ref (h 4), .int 0]) (sgQv D vwCl 52 h (eX ca h) sz (fun f1 L1 Q1 => ((sgI loX hiX f1 ∧ sgK WkX5_product_0 f f1 ∧ L1 = L ∧ Q1 = Q) ∧ (f1) = sX5_product_0 f L))) 0 0 (sgA 52 h sz) := by
  refine sg_ofWv (cc := cX5_product) (maxL := 4) RX5 (by decide) rfl rfl (Nat.le_of_ble_eq_true rfl) ?_
  intro p e s m below meth cd Qz ls hx hb hml hown hts hK hZ hP hS hl hret
  have hA := sgY.self (n := 52) (h := h) (sz := s.heap.size)
  have hl : lv_has ls 4 [(0, .ref (h 4)), (1, .int 0)] := hl
  obtain ⟨H, hH⟩ : ∃ z : Heap, z = s.heap := ⟨_, rfl⟩
  obtain ⟨locs, hlo⟩ : ∃ z : List Loc, z = [] := ⟨_, rfl⟩
  have hP : va_P D vwCl (sgw 52 h (eX ca h) f L Q) H := by rw [hH]; exact hP
  have hS : va_S (sgA 52 h s.heap.size) s.heap H locs := by rw [hH, hlo]; exact hS
  suffices hgo : W p l e ({ frames := 45, cells := 0, slots := 0, locals := 1001 }) s m ([.ref (h 4), .int 0] : List Value).toArray below meth cd H locs 0 0 Qz (F0 m 0 ls []) by rw [hH, hlo] at hgo; exact hgo
  clear hH hlo
  obtain ⟨sp, hsp⟩ : ∃ z : sg_F, z = sX5_product_0 f L := ⟨_, rfl⟩
  have hs : sp = sX5_product_0 f L := hsp
  obtain ⟨v_1, ev_1⟩ : ∃ z : Int32, z = f 4 6 := ⟨_, rfl⟩
  have q_2 : 0 ≤ v_1.toInt ∧ v_1.toInt ≤ 120 := by rw [ev_1]; exact hI 4 6
  obtain ⟨v_3, ev_3⟩ : ∃ z : Int32, z = f 4 1 := ⟨_, rfl⟩
  have q_4 : 0 ≤ v_3.toInt ∧ v_3.toInt ≤ 120 := by rw [ev_3]; exact hI 4 1
  have o_5 : (f 4 6).toInt = v_1.toInt := (congrArg Int32.toInt (show f 4 6 = v_1 from ev_1.symm))
  have o_6 : (f 4 1).toInt = v_3.toInt := (congrArg Int32.toInt (show f 4 1 = v_3 from ev_3.symm))
  have hF : sgK WkX5_product_0 f f := sgK.rf
  have loop_12 : ∀ (n_12 : Nat) (y2_12 : Int32) (y3_12 : Int32) (fp_12 : sg_F) (H : Heap) (locs : List Loc) (ls : Array Slot), sp = sX5_product_0_l12 n_12 y2_12 y3_12 fp_12 L → 120 - y3_12.toInt < (n_12 : Int) → (-1) ≤ y2_12.toInt ∧ y2_12.toInt ≤ 255 → 0 ≤ y3_12.toInt ∧ y3_12.toInt ≤ 120 → y2_12.toInt < 0 ∨ (fp_12 4 6).toInt < (fp_12 4 1).toInt → sgI loX hiX fp_12 → sgK WkX5_product_0 f fp_12 → va_P D vwCl (sgw 52 h (eX ca h) fp_12 L Q) H → va_S (sgA 52 h s.heap.size) s.heap H locs → lv_has ls 4 [(0, .ref (h 4)), (1, .int 0), (2, .int y2_12), (3, .int y3_12)] → W p l e ({ frames := 45, cells := 0, slots := 0, locals := 1001 }) s m ([.ref (h 4), .int 0] : List Value).toArray below meth cd H locs 0 0 Qz (F0 m 12 ls []) := by
    intro n_12
    induction n_12 with
    | zero => intro y2_12 y3_12 fp_12 H locs ls hs hm_12 hy0_12 hy1_12 hg0_12 hI hF hP hS hl; exact absurd hm_12 (by omega)
    | succ n_12 ih_12 =>
      intro y2_12 y3_12 fp_12 H locs ls hs hm_12 hy0_12 hy1_12 hg0_12 hI hF hP hS hl
      have hs : sp = sX5_product_0_h12 (sX5_product_0_l12 n_12) y2_12 y3_12 fp_12 L := hs
      obtain ⟨v_7, ev_7⟩ : ∃ z : Int32, z = fp_12 4 6 := ⟨_, rfl⟩
      have q_8 : 0 ≤ v_7.toInt ∧ v_7.toInt ≤ 120 := by rw [ev_7]; exact hI 4 6
      have q_9 : (fp_12 4 6).toInt = v_7.toInt := by rw [ev_7]
      obtain ⟨v_10, ev_10⟩ : ∃ z : Int32, z = fp_12 4 1 := ⟨_, rfl⟩
      replace hs := hs.trans (spl_e ev_7 (spl_e ev_10 rfl))
      have q_11 : 0 ≤ v_10.toInt ∧ v_10.toInt ≤ 120 := by rw [ev_10]; exact hI 4 1
      have q_12 : (fp_12 4 1).toInt = v_10.toInt := by rw [ev_10]
      refine lv_iload_n hx hb dX5_product_12 rfl (lv_at hl 3 rfl) ?_
      refine lv_bipush (v := 120) hx hb dX5_product_13 bp_120 ?_
      refine lv_icmp_ge (tgt := 67) hx hb dX5_product_15 (by decide) (fun c => ?_) (fun c => ?_)
      · skip
        have c_13 : 120 ≤ y3_12.toInt := (by first | exact (cm_le0 ti_120 c) | (have z := bn_le c; have k1 : (120 : Int32).toInt = 120 := ti_120; omega))
        exact hret _ _ _ _ fp_12 L Q dX5_product_67 hP hS ⟨⟨hI, hF, rfl, rfl⟩, (Eq.trans (Eq.symm (hs.trans ((if_neg (Int.not_lt.mpr c_13)).trans rfl))) hsp)⟩
      · skip
        have c_14 : y3_12.toInt < 120 := (by first | exact (cm_nle0 ti_120 c) | (have z := bn_nle c; have k1 : (120 : Int32).toInt = 120 := ti_120; omega))
        replace hs := hs.trans ((if_pos c_14).trans rfl)
        refine lv_iload_n hx hb dX5_product_18 rfl (lv_at hl 2 rfl) ?_
        refine lv_bipush (v := 42) hx hb dX5_product_19 bp_42 ?_
        refine lv_icmp_eq (tgt := 36) hx hb dX5_product_21 (by decide) (fun c => ?_) (fun c => ?_)
        · skip
          have c_15 : y2_12.toInt = 42 := (by first | exact (cm_eq1 ti_42 c) | (have z := Int32.toInt_inj.mpr c; have k1 : (42 : Int32).toInt = 42 := ti_42; omega))
          refine lv_aload_n hx hb dX5_product_36 rfl (lv_at hl 0 rfl) ?_
          refine lv_dup hx hb dX5_product_37 rfl ?_
          refine sl_gX_4_6_5 (v := v_7) hx hb hts hown hK hP (show fp_12 4 6 = v_7 from ev_7.symm) dX5_product_38 ?_
          refine lv_iconst (v := 1) hx hb dX5_product_41 ic_1 ?_
          refine lv_iadd hx hb dX5_product_42 ?_
          refine lv_topi (fun v_17 ev_17 => ?_)
          have q_18 : v_17.toInt = v_7.toInt + 1 := by rw [ev_17]; first | exact cm_add ti_1 (by omega) (by omega) | (have k1 : (1 : Int32).toInt = 1 := ti_1; exact (bn_addI (by omega) (by omega)).trans (by omega))
          refine sl_pX_4_6_5 (x := v_17) hx hb hts hown hh hA hK hP hS dX5_product_43 (fun f_19 H locs ef_19 hP hS => ?_)
          have hI : sgI loX hiX f_19 := by rw [ef_19]; exact sgI.put hI 4 6 (show 0 ≤ (v_17 : Int32).toInt ∧ (v_17 : Int32).toInt ≤ 120 from ⟨by omega, by omega⟩)
          have hF : sgK WkX5_product_0 f f_19 := sgK.put hF ef_19 (by rfl)
          refine lv_aload_n hx hb dX5_product_46 rfl (lv_at hl 0 rfl) ?_
          refine lv_iload_n hx hb dX5_product_47 rfl (lv_at hl 1 rfl) ?_
          refine sg_callv (va_runV (As := [.int 0]) (rest := []) ⟨hx, hb, hml, hown, hts⟩ (kX5_operand_0 l D ca za h hh f_19 L Q hI H.size) (sl_c5_operand_44_0_0_979_5 hts ⟨Nat.le_of_ble_eq_true rfl, Nat.le_of_ble_eq_true rfl⟩) (sl_vX_4 hA hK hP hS hZ) rfl rfl hl.1 rfl (lv_room (Nat.le_of_ble_eq_true rfl)) dX5_product_48 ⟨Nat.le_refl _, Nat.le_refl _⟩) hA hS (fun f_20 L_21 Q_22 H locs hq hP hS => ?_)
          obtain ⟨⟨hI, hk_f_20, eL9, eQ9⟩, u_23⟩ := hq
          rw [eL9, eQ9] at hP; clear eL9 eQ9
          have hF : sgK WkX5_product_0 f f_20 := sgK.tr hF hk_f_20 (by decide +kernel)
          refine lv_aload_n hx hb dX5_product_51 rfl (lv_at hl 0 rfl) ?_
          refine lv_iload_n hx hb dX5_product_52 rfl (lv_at hl 2 rfl) ?_
          refine sg_callv (va_runV (As := [.int y2_12]) (rest := []) ⟨hx, hb, hml, hown, hts⟩ (kX5_write l D ca za h hh f_20 L Q hI y2_12 H.size) (sl_c5_write_0_0_0_0_5 hts ⟨Nat.le_of_ble_eq_true rfl, Nat.le_of_ble_eq_true rfl⟩) (sl_vX_4 hA hK hP hS hZ) rfl rfl hl.1 rfl (lv_room (Nat.le_of_ble_eq_true rfl)) dX5_product_53 ⟨Nat.le_refl _, Nat.le_refl _⟩) hA hS (fun f_24 L_25 Q_26 H locs hq hP hS => ?_)
          obtain ⟨⟨hI, hk_f_24, eL9, eQ9⟩, u_27⟩ := hq
          rw [eL9, eQ9] at hP; clear eL9 eQ9
          have hF : sgK WkX5_product_0 f f_24 := sgK.tr hF hk_f_24 (by decide +kernel)
          refine lv_aload_n hx hb dX5_product_56 rfl (lv_at hl 0 rfl) ?_
          obtain ⟨v_28, ev_28⟩ : ∃ z : Int32, z = f_24 4 6 := ⟨_, rfl⟩
          have q_29 : 0 ≤ v_28.toInt ∧ v_28.toInt ≤ 120 := by rw [ev_28]; exact hI 4 6
          have q_30 : (f_24 4 6).toInt = v_28.toInt := (congrArg Int32.toInt (show f_24 4 6 = v_28 from ev_28.symm))
          have q_31 : (f_24 4 1).toInt = v_10.toInt := (congrArg Int32.toInt (show f_24 4 1 = v_10 from ((hk_f_24 4 1 (by decide)).trans ((hk_f_20 4 1 (by decide)).trans (by rw [ef_19, sg_up_s, sgu_n (by decide)]; exact ev_10.symm)))))
          refine sg_calli (va_runV (As := []) (rest := []) ⟨hx, hb, hml, hown, hts⟩ (kX5_next l D ca za h hh f_24 L Q hI H.size) (sl_c5_next_0_0_0_0_5 hts ⟨Nat.le_of_ble_eq_true rfl, Nat.le_of_ble_eq_true rfl⟩) (sl_vX_4 hA hK hP hS hZ) rfl rfl hl.1 rfl (lv_room (Nat.le_of_ble_eq_true rfl)) dX5_product_57 ⟨Nat.le_refl _, Nat.le_refl _⟩) hA hS (fun r_35 f_32 L_33 Q_34 H locs hq hP hS => ?_)
          obtain ⟨⟨ef9, eL9, eQ9⟩, hq, p_36, u_37⟩ := hq
          rw [ef9, eL9, eQ9] at hP; clear ef9 eL9 eQ9
          refine lv_istore_n (lv' := [(2, .int r_35), (0, .ref (h 4)), (1, .int 0), (3, .int y3_12)]) hx hb dX5_product_60 rfl hl (by decide) rfl (fun ls hl => ?_)
          obtain ⟨v_38, ev_38⟩ : ∃ z : Int32, z = y3_12 + 1 := ⟨_, rfl⟩
          have q_39 : v_38.toInt = y3_12.toInt + 1 := by rw [ev_38]; exact (bn_addc y3_12 1 (by decide) (by omega) (by omega))
          refine lv_iinc (v := v_38) (lv' := [(3, .int v_38), (2, .int r_35), (0, .ref (h 4)), (1, .int 0)]) hx hb dX5_product_61 hl (k := 3) rfl (by rw [ev_38]; rfl) (by decide) rfl (fun ls hl => ?_)
          refine lv_goto (tgt := 12) hx hb dX5_product_64 (by decide) ?_
          exact ih_12 r_35 v_38 f_24 _ _ _ (hs.trans ((if_pos c_15).trans (spl_e ev_17 (spl_e ef_19 (spl_e u_23 (spl_e u_27 (spl_e ev_28 (spl_e u_37 (spl_e ev_38 rfl))))))))) (by omega) ⟨by omega, by omega⟩ ⟨by omega, by omega⟩ (by have zz4_6 : (f_24 4 6).toInt = v_28.toInt := (congrArg Int32.toInt (show f_24 4 6 = v_28 from ev_28.symm)); have zz4_1 : (f_24 4 1).toInt = v_10.toInt := (congrArg Int32.toInt (show f_24 4 1 = v_10 from ((hk_f_24 4 1 (by decide)).trans ((hk_f_20 4 1 (by decide)).trans (by rw [ef_19, sg_up_s, sgu_n (by decide)]; exact ev_10.symm))))); omega) hI hF hP hS (lv_sub hl [2, 3, 1, 0] rfl)
        · skip
          have c_16 : y2_12.toInt ≠ 42 := (by first | exact (cm_ne1 ti_42 c) | (have z := bn_ne c; have k1 : (42 : Int32).toInt = 42 := ti_42; omega))
          replace hs := hs.trans ((if_neg c_16).trans rfl)
          refine lv_iload_n hx hb dX5_product_24 rfl (lv_at hl 2 rfl) ?_
          refine lv_bipush (v := 47) hx hb dX5_product_25 bp_47 ?_
          refine lv_icmp_eq (tgt := 36) hx hb dX5_product_27 (by decide) (fun c => ?_) (fun c => ?_)
          · skip
            have c_40 : y2_12.toInt = 47 := (by first | exact (cm_eq1 ti_47 c) | (have z := Int32.toInt_inj.mpr c; have k1 : (47 : Int32).toInt = 47 := ti_47; omega))
            refine lv_aload_n hx hb dX5_product_36 rfl (lv_at hl 0 rfl) ?_
            refine lv_dup hx hb dX5_product_37 rfl ?_
            refine sl_gX_4_6_5 (v := v_7) hx hb hts hown hK hP (show fp_12 4 6 = v_7 from ev_7.symm) dX5_product_38 ?_
            refine lv_iconst (v := 1) hx hb dX5_product_41 ic_1 ?_
            refine lv_iadd hx hb dX5_product_42 ?_
            refine lv_topi (fun v_42 ev_42 => ?_)
            have q_43 : v_42.toInt = v_7.toInt + 1 := by rw [ev_42]; first | exact cm_add ti_1 (by omega) (by omega) | (have k1 : (1 : Int32).toInt = 1 := ti_1; exact (bn_addI (by omega) (by omega)).trans (by omega))
            refine sl_pX_4_6_5 (x := v_42) hx hb hts hown hh hA hK hP hS dX5_product_43 (fun f_44 H locs ef_44 hP hS => ?_)
            have hI : sgI loX hiX f_44 := by rw [ef_44]; exact sgI.put hI 4 6 (show 0 ≤ (v_42 : Int32).toInt ∧ (v_42 : Int32).toInt ≤ 120 from ⟨by omega, by omega⟩)
            have hF : sgK WkX5_product_0 f f_44 := sgK.put hF ef_44 (by rfl)
            refine lv_aload_n hx hb dX5_product_46 rfl (lv_at hl 0 rfl) ?_
            refine lv_iload_n hx hb dX5_product_47 rfl (lv_at hl 1 rfl) ?_
            refine sg_callv (va_runV (As := [.int 0]) (rest := []) ⟨hx, hb, hml, hown, hts⟩ (kX5_operand_0 l D ca za h hh f_44 L Q hI H.size) (sl_c5_operand_44_0_0_979_5 hts ⟨Nat.le_of_ble_eq_true rfl, Nat.le_of_ble_eq_true rfl⟩) (sl_vX_4 hA hK hP hS hZ) rfl rfl hl.1 rfl (lv_room (Nat.le_of_ble_eq_true rfl)) dX5_product_48 ⟨Nat.le_refl _, Nat.le_refl _⟩) hA hS (fun f_45 L_46 Q_47 H locs hq hP hS => ?_)
            obtain ⟨⟨hI, hk_f_45, eL9, eQ9⟩, u_48⟩ := hq
            rw [eL9, eQ9] at hP; clear eL9 eQ9
            have hF : sgK WkX5_product_0 f f_45 := sgK.tr hF hk_f_45 (by decide +kernel)
            refine lv_aload_n hx hb dX5_product_51 rfl (lv_at hl 0 rfl) ?_
            refine lv_iload_n hx hb dX5_product_52 rfl (lv_at hl 2 rfl) ?_
            refine sg_callv (va_runV (As := [.int y2_12]) (rest := []) ⟨hx, hb, hml, hown, hts⟩ (kX5_write l D ca za h hh f_45 L Q hI y2_12 H.size) (sl_c5_write_0_0_0_0_5 hts ⟨Nat.le_of_ble_eq_true rfl, Nat.le_of_ble_eq_true rfl⟩) (sl_vX_4 hA hK hP hS hZ) rfl rfl hl.1 rfl (lv_room (Nat.le_of_ble_eq_true rfl)) dX5_product_53 ⟨Nat.le_refl _, Nat.le_refl _⟩) hA hS (fun f_49 L_50 Q_51 H locs hq hP hS => ?_)
            obtain ⟨⟨hI, hk_f_49, eL9, eQ9⟩, u_52⟩ := hq
            rw [eL9, eQ9] at hP; clear eL9 eQ9
            have hF : sgK WkX5_product_0 f f_49 := sgK.tr hF hk_f_49 (by decide +kernel)
            refine lv_aload_n hx hb dX5_product_56 rfl (lv_at hl 0 rfl) ?_
            obtain ⟨v_53, ev_53⟩ : ∃ z : Int32, z = f_49 4 6 := ⟨_, rfl⟩
            have q_54 : 0 ≤ v_53.toInt ∧ v_53.toInt ≤ 120 := by rw [ev_53]; exact hI 4 6
            have q_55 : (f_49 4 6).toInt = v_53.toInt := (congrArg Int32.toInt (show f_49 4 6 = v_53 from ev_53.symm))
            have q_56 : (f_49 4 1).toInt = v_10.toInt := (congrArg Int32.toInt (show f_49 4 1 = v_10 from ((hk_f_49 4 1 (by decide)).trans ((hk_f_45 4 1 (by decide)).trans (by rw [ef_44, sg_up_s, sgu_n (by decide)]; exact ev_10.symm)))))
            refine sg_calli (va_runV (As := []) (rest := []) ⟨hx, hb, hml, hown, hts⟩ (kX5_next l D ca za h hh f_49 L Q hI H.size) (sl_c5_next_0_0_0_0_5 hts ⟨Nat.le_of_ble_eq_true rfl, Nat.le_of_ble_eq_true rfl⟩) (sl_vX_4 hA hK hP hS hZ) rfl rfl hl.1 rfl (lv_room (Nat.le_of_ble_eq_true rfl)) dX5_product_57 ⟨Nat.le_refl _, Nat.le_refl _⟩) hA hS (fun r_60 f_57 L_58 Q_59 H locs hq hP hS => ?_)
            obtain ⟨⟨ef9, eL9, eQ9⟩, hq, p_61, u_62⟩ := hq
            rw [ef9, eL9, eQ9] at hP; clear ef9 eL9 eQ9
            refine lv_istore_n (lv' := [(2, .int r_60), (0, .ref (h 4)), (1, .int 0), (3, .int y3_12)]) hx hb dX5_product_60 rfl hl (by decide) rfl (fun ls hl => ?_)
            obtain ⟨v_63, ev_63⟩ : ∃ z : Int32, z = y3_12 + 1 := ⟨_, rfl⟩
            have q_64 : v_63.toInt = y3_12.toInt + 1 := by rw [ev_63]; exact (bn_addc y3_12 1 (by decide) (by omega) (by omega))
            refine lv_iinc (v := v_63) (lv' := [(3, .int v_63), (2, .int r_60), (0, .ref (h 4)), (1, .int 0)]) hx hb dX5_product_61 hl (k := 3) rfl (by rw [ev_63]; rfl) (by decide) rfl (fun ls hl => ?_)
            refine lv_goto (tgt := 12) hx hb dX5_product_64 (by decide) ?_
            exact ih_12 r_60 v_63 f_49 _ _ _ (hs.trans ((if_pos c_40).trans (spl_e ev_42 (spl_e ef_44 (spl_e u_48 (spl_e u_52 (spl_e ev_53 (spl_e u_62 (spl_e ev_63 rfl))))))))) (by omega) ⟨by omega, by omega⟩ ⟨by omega, by omega⟩ (by have zz4_6 : (f_49 4 6).toInt = v_53.toInt := (congrArg Int32.toInt (show f_49 4 6 = v_53 from ev_53.symm)); have zz4_1 : (f_49 4 1).toInt = v_10.toInt := (congrArg Int32.toInt (show f_49 4 1 = v_10 from ((hk_f_49 4 1 (by decide)).trans ((hk_f_45 4 1 (by decide)).trans (by rw [ef_44, sg_up_s, sgu_n (by decide)]; exact ev_10.symm))))); omega) hI hF hP hS (lv_sub hl [2, 3, 1, 0] rfl)
          · skip
            have c_41 : y2_12.toInt ≠ 47 := (by first | exact (cm_ne1 ti_47 c) | (have z := bn_ne c; have k1 : (47 : Int32).toInt = 47 := ti_47; omega))
            replace hs := hs.trans ((if_neg c_41).trans rfl)
            refine lv_iload_n hx hb dX5_product_30 rfl (lv_at hl 2 rfl) ?_
            refine lv_bipush (v := 37) hx hb dX5_product_31 bp_37 ?_
            refine lv_icmp_ne (tgt := 67) hx hb dX5_product_33 (by decide) (fun c => ?_) (fun c => ?_)
            · skip
              have c_65 : y2_12.toInt ≠ 37 := (by first | exact (cm_ne1 ti_37 c) | (have z := bn_ne c; have k1 : (37 : Int32).toInt = 37 := ti_37; omega))
              exact hret _ _ _ _ fp_12 L Q dX5_product_67 hP hS ⟨⟨hI, hF, rfl, rfl⟩, (Eq.trans (Eq.symm (hs.trans ((if_neg c_65).trans rfl))) hsp)⟩
            · skip
              have c_66 : y2_12.toInt = 37 := (by first | exact (cm_eq1 ti_37 c) | (have z := Int32.toInt_inj.mpr c; have k1 : (37 : Int32).toInt = 37 := ti_37; omega))
              refine lv_aload_n hx hb dX5_product_36 rfl (lv_at hl 0 rfl) ?_
              refine lv_dup hx hb dX5_product_37 rfl ?_
              refine sl_gX_4_6_5 (v := v_7) hx hb hts hown hK hP (show fp_12 4 6 = v_7 from ev_7.symm) dX5_product_38 ?_
              refine lv_iconst (v := 1) hx hb dX5_product_41 ic_1 ?_
              refine lv_iadd hx hb dX5_product_42 ?_
              refine lv_topi (fun v_67 ev_67 => ?_)
              have q_68 : v_67.toInt = v_7.toInt + 1 := by rw [ev_67]; first | exact cm_add ti_1 (by omega) (by omega) | (have k1 : (1 : Int32).toInt = 1 := ti_1; exact (bn_addI (by omega) (by omega)).trans (by omega))
              refine sl_pX_4_6_5 (x := v_67) hx hb hts hown hh hA hK hP hS dX5_product_43 (fun f_69 H locs ef_69 hP hS => ?_)
              have hI : sgI loX hiX f_69 := by rw [ef_69]; exact sgI.put hI 4 6 (show 0 ≤ (v_67 : Int32).toInt ∧ (v_67 : Int32).toInt ≤ 120 from ⟨by omega, by omega⟩)
              have hF : sgK WkX5_product_0 f f_69 := sgK.put hF ef_69 (by rfl)
              refine lv_aload_n hx hb dX5_product_46 rfl (lv_at hl 0 rfl) ?_
              refine lv_iload_n hx hb dX5_product_47 rfl (lv_at hl 1 rfl) ?_
              refine sg_callv (va_runV (As := [.int 0]) (rest := []) ⟨hx, hb, hml, hown, hts⟩ (kX5_operand_0 l D ca za h hh f_69 L Q hI H.size) (sl_c5_operand_44_0_0_979_5 hts ⟨Nat.le_of_ble_eq_true rfl, Nat.le_of_ble_eq_true rfl⟩) (sl_vX_4 hA hK hP hS hZ) rfl rfl hl.1 rfl (lv_room (Nat.le_of_ble_eq_true rfl)) dX5_product_48 ⟨Nat.le_refl _, Nat.le_refl _⟩) hA hS (fun f_70 L_71 Q_72 H locs hq hP hS => ?_)
              obtain ⟨⟨hI, hk_f_70, eL9, eQ9⟩, u_73⟩ := hq
              rw [eL9, eQ9] at hP; clear eL9 eQ9
              have hF : sgK WkX5_product_0 f f_70 := sgK.tr hF hk_f_70 (by decide +kernel)
              refine lv_aload_n hx hb dX5_product_51 rfl (lv_at hl 0 rfl) ?_
              refine lv_iload_n hx hb dX5_product_52 rfl (lv_at hl 2 rfl) ?_
              refine sg_callv (va_runV (As := [.int y2_12]) (rest := []) ⟨hx, hb, hml, hown, hts⟩ (kX5_write l D ca za h hh f_70 L Q hI y2_12 H.size) (sl_c5_write_0_0_0_0_5 hts ⟨Nat.le_of_ble_eq_true rfl, Nat.le_of_ble_eq_true rfl⟩) (sl_vX_4 hA hK hP hS hZ) rfl rfl hl.1 rfl (lv_room (Nat.le_of_ble_eq_true rfl)) dX5_product_53 ⟨Nat.le_refl _, Nat.le_refl _⟩) hA hS (fun f_74 L_75 Q_76 H locs hq hP hS => ?_)
              obtain ⟨⟨hI, hk_f_74, eL9, eQ9⟩, u_77⟩ := hq
              rw [eL9, eQ9] at hP; clear eL9 eQ9
              have hF : sgK WkX5_product_0 f f_74 := sgK.tr hF hk_f_74 (by decide +kernel)
              refine lv_aload_n hx hb dX5_product_56 rfl (lv_at hl 0 rfl) ?_
              obtain ⟨v_78, ev_78⟩ : ∃ z : Int32, z = f_74 4 6 := ⟨_, rfl⟩
              have q_79 : 0 ≤ v_78.toInt ∧ v_78.toInt ≤ 120 := by rw [ev_78]; exact hI 4 6
              have q_80 : (f_74 4 6).toInt = v_78.toInt := (congrArg Int32.toInt (show f_74 4 6 = v_78 from ev_78.symm))
              have q_81 : (f_74 4 1).toInt = v_10.toInt := (congrArg Int32.toInt (show f_74 4 1 = v_10 from ((hk_f_74 4 1 (by decide)).trans ((hk_f_70 4 1 (by decide)).trans (by rw [ef_69, sg_up_s, sgu_n (by decide)]; exact ev_10.symm)))))
              refine sg_calli (va_runV (As := []) (rest := []) ⟨hx, hb, hml, hown, hts⟩ (kX5_next l D ca za h hh f_74 L Q hI H.size) (sl_c5_next_0_0_0_0_5 hts ⟨Nat.le_of_ble_eq_true rfl, Nat.le_of_ble_eq_true rfl⟩) (sl_vX_4 hA hK hP hS hZ) rfl rfl hl.1 rfl (lv_room (Nat.le_of_ble_eq_true rfl)) dX5_product_57 ⟨Nat.le_refl _, Nat.le_refl _⟩) hA hS (fun r_85 f_82 L_83 Q_84 H locs hq hP hS => ?_)
              obtain ⟨⟨ef9, eL9, eQ9⟩, hq, p_86, u_87⟩ := hq
              rw [ef9, eL9, eQ9] at hP; clear ef9 eL9 eQ9
              refine lv_istore_n (lv' := [(2, .int r_85), (0, .ref (h 4)), (1, .int 0), (3, .int y3_12)]) hx hb dX5_product_60 rfl hl (by decide) rfl (fun ls hl => ?_)
              obtain ⟨v_88, ev_88⟩ : ∃ z : Int32, z = y3_12 + 1 := ⟨_, rfl⟩
              have q_89 : v_88.toInt = y3_12.toInt + 1 := by rw [ev_88]; exact (bn_addc y3_12 1 (by decide) (by omega) (by omega))
              refine lv_iinc (v := v_88) (lv' := [(3, .int v_88), (2, .int r_85), (0, .ref (h 4)), (1, .int 0)]) hx hb dX5_product_61 hl (k := 3) rfl (by rw [ev_88]; rfl) (by decide) rfl (fun ls hl => ?_)
              refine lv_goto (tgt := 12) hx hb dX5_product_64 (by decide) ?_
              exact ih_12 r_85 v_88 f_74 _ _ _ (hs.trans ((if_pos c_66).trans (spl_e ev_67 (spl_e ef_69 (spl_e u_73 (spl_e u_77 (spl_e ev_78 (spl_e u_87 (spl_e ev_88 rfl))))))))) (by omega) ⟨by omega, by omega⟩ ⟨by omega, by omega⟩ (by have zz4_6 : (f_74 4 6).toInt = v_78.toInt := (congrArg Int32.toInt (show f_74 4 6 = v_78 from ev_78.symm)); have zz4_1 : (f_74 4 1).toInt = v_10.toInt := (congrArg Int32.toInt (show f_74 4 1 = v_10 from ((hk_f_74 4 1 (by decide)).trans ((hk_f_70 4 1 (by decide)).trans (by rw [ef_69, sg_up_s, sgu_n (by decide)]; exact ev_10.symm))))); omega) hI hF hP hS (lv_sub hl [2, 3, 1, 0] rfl)
  refine lv_aload_n hx hb dX5_product_0 rfl (lv_at hl 0 rfl) ?_
  refine lv_iload_n hx hb dX5_product_1 rfl (lv_at hl 1 rfl) ?_
  refine sg_callv (va_runV (As := [.int 0]) (rest := []) ⟨hx, hb, hml, hown, hts⟩ (kX5_operand_0 l D ca za h hh f L Q hI H.size) (sl_c5_operand_44_0_0_979_5 hts ⟨Nat.le_of_ble_eq_true rfl, Nat.le_of_ble_eq_true rfl⟩) (sl_vX_4 hA hK hP hS hZ) rfl rfl hl.1 rfl (lv_room (Nat.le_of_ble_eq_true rfl)) dX5_product_2 ⟨Nat.le_refl _, Nat.le_refl _⟩) hA hS (fun f_90 L_91 Q_92 H locs hq hP hS => ?_)
  obtain ⟨⟨hI, hk_f_90, eL9, eQ9⟩, u_93⟩ := hq
  rw [eL9, eQ9] at hP; clear eL9 eQ9
  have hF : sgK WkX5_product_0 f f_90 := sgK.tr hF hk_f_90 (by decide +kernel)
  refine lv_aload_n hx hb dX5_product_5 rfl (lv_at hl 0 rfl) ?_
  obtain ⟨v_94, ev_94⟩ : ∃ z : Int32, z = f_90 4 6 := ⟨_, rfl⟩
  have q_95 : 0 ≤ v_94.toInt ∧ v_94.toInt ≤ 120 := by rw [ev_94]; exact hI 4 6
  have q_96 : (f_90 4 6).toInt = v_94.toInt := (congrArg Int32.toInt (show f_90 4 6 = v_94 from ev_94.symm))
  have q_97 : (f_90 4 1).toInt = v_3.toInt := (congrArg Int32.toInt (show f_90 4 1 = v_3 from ((hk_f_90 4 1 (by decide)).trans ev_3.symm)))
  refine sg_calli (va_runV (As := []) (rest := []) ⟨hx, hb, hml, hown, hts⟩ (kX5_next l D ca za h hh f_90 L Q hI H.size) (sl_c5_next_0_0_0_0_5 hts ⟨Nat.le_of_ble_eq_true rfl, Nat.le_of_ble_eq_true rfl⟩) (sl_vX_4 hA hK hP hS hZ) rfl rfl hl.1 rfl (lv_room (Nat.le_of_ble_eq_true rfl)) dX5_product_6 ⟨Nat.le_refl _, Nat.le_refl _⟩) hA hS (fun r_101 f_98 L_99 Q_100 H locs hq hP hS => ?_)
  obtain ⟨⟨ef9, eL9, eQ9⟩, hq, p_102, u_103⟩ := hq
  rw [ef9, eL9, eQ9] at hP; clear ef9 eL9 eQ9
  refine lv_istore_n (lv' := [(2, .int r_101), (0, .ref (h 4)), (1, .int 0)]) hx hb dX5_product_9 rfl hl (by decide) rfl (fun ls hl => ?_)
  refine lv_iconst (v := 0) hx hb dX5_product_10 ic_0 ?_
  refine lv_istore_n (lv' := [(3, .int 0), (2, .int r_101), (0, .ref (h 4)), (1, .int 0)]) hx hb dX5_product_11 rfl hl (by decide) rfl (fun ls hl => ?_)
  exact loop_12 121 r_101 0 f_90 _ _ _ (hs.trans ((spl_e ev_1 (spl_e ev_3 (spl_e u_93 (spl_e ev_94 (spl_e u_103 rfl))))))) (by have kc1 : (0 : Int32).toInt = 0 := ti_0; omega) ⟨by omega, by omega⟩ (by decide) (by have kc1 : (0 : Int32).toInt = 0 := ti_0; have zz4_6 : (f_90 4 6).toInt = v_94.toInt := (congrArg Int32.toInt (show f_90 4 6 = v_94 from ev_94.symm)); have zz4_1 : (f_90 4 1).toInt = v_3.toInt := (congrArg Int32.toInt (show f_90 4 1 = v_3 from ((hk_f_90 4 1 (by decide)).trans ev_3.symm))); omega) hI hF hP hS (lv_sub hl [2, 3, 1, 0] rfl)

abbrev WkX5_sum_0 : List (Nat × Nat × Option Nat) := [(4, 4, some 6), (4, 4, some 7), (4, 4, some 8), (6, 6, none)]
set_option maxHeartbeats 4000000 in
set_option maxRecDepth 100000 in
theorem kX5_sum_0 (l : Launch) (D : va_G) (ca : Nat → ClassId) (za h : Nat → Nat) (hh : sgH 52 h) (f : sg_F) (L : sg_L) (Q : sg_Q) (hI : sgI loX hiX f) (sz : Nat) : Met l yX5_sum gwX5_sum { frames := 46, cells := 0, slots := 0, locals := 1024 } (sgP D vwCl (tyX ca) 52 h (eX ca h) zcX za f L Q sz [.ref (h 4), .int 0]) (sgQv D vwCl 52 h (eX ca h) sz (fun f1 L1 Q1 => ((sgI loX hiX f1 ∧ sgK WkX5_sum_0 f f1 ∧ L1 = L ∧ Q1 = Q) ∧ (f1) = sX5_sum_0 f L))) 0 0 (sgA 52 h sz) := by
  refine sg_ofWv (cc := cX5_sum) (maxL := 4) RX5 (by decide) rfl rfl (Nat.le_of_ble_eq_true rfl) ?_
  intro p e s m below meth cd Qz ls hx hb hml hown hts hK hZ hP hS hl hret
  have hA := sgY.self (n := 52) (h := h) (sz := s.heap.size)
  have hl : lv_has ls 4 [(0, .ref (h 4)), (1, .int 0)] := hl
  obtain ⟨H, hH⟩ : ∃ z : Heap, z = s.heap := ⟨_, rfl⟩
  obtain ⟨locs, hlo⟩ : ∃ z : List Loc, z = [] := ⟨_, rfl⟩
  have hP : va_P D vwCl (sgw 52 h (eX ca h) f L Q) H := by rw [hH]; exact hP
  have hS : va_S (sgA 52 h s.heap.size) s.heap H locs := by rw [hH, hlo]; exact hS
  suffices hgo : W p l e ({ frames := 46, cells := 0, slots := 0, locals := 1024 }) s m ([.ref (h 4), .int 0] : List Value).toArray below meth cd H locs 0 0 Qz (F0 m 0 ls []) by rw [hH, hlo] at hgo; exact hgo
  clear hH hlo
  obtain ⟨sp, hsp⟩ : ∃ z : sg_F, z = sX5_sum_0 f L := ⟨_, rfl⟩
  have hs : sp = sX5_sum_0 f L := hsp
  obtain ⟨v_1, ev_1⟩ : ∃ z : Int32, z = f 4 6 := ⟨_, rfl⟩
  have q_2 : 0 ≤ v_1.toInt ∧ v_1.toInt ≤ 120 := by rw [ev_1]; exact hI 4 6
  obtain ⟨v_3, ev_3⟩ : ∃ z : Int32, z = f 4 1 := ⟨_, rfl⟩
  have q_4 : 0 ≤ v_3.toInt ∧ v_3.toInt ≤ 120 := by rw [ev_3]; exact hI 4 1
  have o_5 : (f 4 6).toInt = v_1.toInt := (congrArg Int32.toInt (show f 4 6 = v_1 from ev_1.symm))
  have o_6 : (f 4 1).toInt = v_3.toInt := (congrArg Int32.toInt (show f 4 1 = v_3 from ev_3.symm))
  have hF : sgK WkX5_sum_0 f f := sgK.rf
  have loop_12 : ∀ (n_12 : Nat) (y2_12 : Int32) (y3_12 : Int32) (fp_12 : sg_F) (H : Heap) (locs : List Loc) (ls : Array Slot), sp = sX5_sum_0_l12 n_12 y2_12 y3_12 fp_12 L → 120 - y3_12.toInt < (n_12 : Int) → (-1) ≤ y2_12.toInt ∧ y2_12.toInt ≤ 255 → 0 ≤ y3_12.toInt ∧ y3_12.toInt ≤ 120 → y2_12.toInt < 0 ∨ (fp_12 4 6).toInt < (fp_12 4 1).toInt → sgI loX hiX fp_12 → sgK WkX5_sum_0 f fp_12 → va_P D vwCl (sgw 52 h (eX ca h) fp_12 L Q) H → va_S (sgA 52 h s.heap.size) s.heap H locs → lv_has ls 4 [(0, .ref (h 4)), (1, .int 0), (2, .int y2_12), (3, .int y3_12)] → W p l e ({ frames := 46, cells := 0, slots := 0, locals := 1024 }) s m ([.ref (h 4), .int 0] : List Value).toArray below meth cd H locs 0 0 Qz (F0 m 12 ls []) := by
    intro n_12
    induction n_12 with
    | zero => intro y2_12 y3_12 fp_12 H locs ls hs hm_12 hy0_12 hy1_12 hg0_12 hI hF hP hS hl; exact absurd hm_12 (by omega)
    | succ n_12 ih_12 =>
      intro y2_12 y3_12 fp_12 H locs ls hs hm_12 hy0_12 hy1_12 hg0_12 hI hF hP hS hl
      have hs : sp = sX5_sum_0_h12 (sX5_sum_0_l12 n_12) y2_12 y3_12 fp_12 L := hs
      obtain ⟨v_7, ev_7⟩ : ∃ z : Int32, z = fp_12 4 6 := ⟨_, rfl⟩
      have q_8 : 0 ≤ v_7.toInt ∧ v_7.toInt ≤ 120 := by rw [ev_7]; exact hI 4 6
      have q_9 : (fp_12 4 6).toInt = v_7.toInt := by rw [ev_7]
      obtain ⟨v_10, ev_10⟩ : ∃ z : Int32, z = fp_12 4 1 := ⟨_, rfl⟩
      replace hs := hs.trans (spl_e ev_7 (spl_e ev_10 rfl))
      have q_11 : 0 ≤ v_10.toInt ∧ v_10.toInt ≤ 120 := by rw [ev_10]; exact hI 4 1
      have q_12 : (fp_12 4 1).toInt = v_10.toInt := by rw [ev_10]
      refine lv_iload_n hx hb dX5_sum_12 rfl (lv_at hl 3 rfl) ?_
      refine lv_bipush (v := 120) hx hb dX5_sum_13 bp_120 ?_
      refine lv_icmp_ge (tgt := 61) hx hb dX5_sum_15 (by decide) (fun c => ?_) (fun c => ?_)
      · skip
        have c_13 : 120 ≤ y3_12.toInt := (by first | exact (cm_le0 ti_120 c) | (have z := bn_le c; have k1 : (120 : Int32).toInt = 120 := ti_120; omega))
        exact hret _ _ _ _ fp_12 L Q dX5_sum_61 hP hS ⟨⟨hI, hF, rfl, rfl⟩, (Eq.trans (Eq.symm (hs.trans ((if_neg (Int.not_lt.mpr c_13)).trans rfl))) hsp)⟩
      · skip
        have c_14 : y3_12.toInt < 120 := (by first | exact (cm_nle0 ti_120 c) | (have z := bn_nle c; have k1 : (120 : Int32).toInt = 120 := ti_120; omega))
        replace hs := hs.trans ((if_pos c_14).trans rfl)
        refine lv_iload_n hx hb dX5_sum_18 rfl (lv_at hl 2 rfl) ?_
        refine lv_bipush (v := 43) hx hb dX5_sum_19 bp_43 ?_
        refine lv_icmp_eq (tgt := 30) hx hb dX5_sum_21 (by decide) (fun c => ?_) (fun c => ?_)
        · skip
          have c_15 : y2_12.toInt = 43 := (by first | exact (cm_eq1 ti_43 c) | (have z := Int32.toInt_inj.mpr c; have k1 : (43 : Int32).toInt = 43 := ti_43; omega))
          refine lv_aload_n hx hb dX5_sum_30 rfl (lv_at hl 0 rfl) ?_
          refine lv_dup hx hb dX5_sum_31 rfl ?_
          refine sl_gX_4_6_5 (v := v_7) hx hb hts hown hK hP (show fp_12 4 6 = v_7 from ev_7.symm) dX5_sum_32 ?_
          refine lv_iconst (v := 1) hx hb dX5_sum_35 ic_1 ?_
          refine lv_iadd hx hb dX5_sum_36 ?_
          refine lv_topi (fun v_17 ev_17 => ?_)
          have q_18 : v_17.toInt = v_7.toInt + 1 := by rw [ev_17]; first | exact cm_add ti_1 (by omega) (by omega) | (have k1 : (1 : Int32).toInt = 1 := ti_1; exact (bn_addI (by omega) (by omega)).trans (by omega))
          refine sl_pX_4_6_5 (x := v_17) hx hb hts hown hh hA hK hP hS dX5_sum_37 (fun f_19 H locs ef_19 hP hS => ?_)
          have hI : sgI loX hiX f_19 := by rw [ef_19]; exact sgI.put hI 4 6 (show 0 ≤ (v_17 : Int32).toInt ∧ (v_17 : Int32).toInt ≤ 120 from ⟨by omega, by omega⟩)
          have hF : sgK WkX5_sum_0 f f_19 := sgK.put hF ef_19 (by rfl)
          refine lv_aload_n hx hb dX5_sum_40 rfl (lv_at hl 0 rfl) ?_
          refine lv_iload_n hx hb dX5_sum_41 rfl (lv_at hl 1 rfl) ?_
          refine sg_callv (va_runV (As := [.int 0]) (rest := []) ⟨hx, hb, hml, hown, hts⟩ (kX5_product_0 l D ca za h hh f_19 L Q hI H.size) (sl_c5_product_45_0_0_1001_5 hts ⟨Nat.le_of_ble_eq_true rfl, Nat.le_of_ble_eq_true rfl⟩) (sl_vX_4 hA hK hP hS hZ) rfl rfl hl.1 rfl (lv_room (Nat.le_of_ble_eq_true rfl)) dX5_sum_42 ⟨Nat.le_refl _, Nat.le_refl _⟩) hA hS (fun f_20 L_21 Q_22 H locs hq hP hS => ?_)
          obtain ⟨⟨hI, hk_f_20, eL9, eQ9⟩, u_23⟩ := hq
          rw [eL9, eQ9] at hP; clear eL9 eQ9
          have hF : sgK WkX5_sum_0 f f_20 := sgK.tr hF hk_f_20 (by decide +kernel)
          refine lv_aload_n hx hb dX5_sum_45 rfl (lv_at hl 0 rfl) ?_
          refine lv_iload_n hx hb dX5_sum_46 rfl (lv_at hl 2 rfl) ?_
          refine sg_callv (va_runV (As := [.int y2_12]) (rest := []) ⟨hx, hb, hml, hown, hts⟩ (kX5_write l D ca za h hh f_20 L Q hI y2_12 H.size) (sl_c5_write_0_0_0_0_5 hts ⟨Nat.le_of_ble_eq_true rfl, Nat.le_of_ble_eq_true rfl⟩) (sl_vX_4 hA hK hP hS hZ) rfl rfl hl.1 rfl (lv_room (Nat.le_of_ble_eq_true rfl)) dX5_sum_47 ⟨Nat.le_refl _, Nat.le_refl _⟩) hA hS (fun f_24 L_25 Q_26 H locs hq hP hS => ?_)
          obtain ⟨⟨hI, hk_f_24, eL9, eQ9⟩, u_27⟩ := hq
          rw [eL9, eQ9] at hP; clear eL9 eQ9
          have hF : sgK WkX5_sum_0 f f_24 := sgK.tr hF hk_f_24 (by decide +kernel)
          refine lv_aload_n hx hb dX5_sum_50 rfl (lv_at hl 0 rfl) ?_
          obtain ⟨v_28, ev_28⟩ : ∃ z : Int32, z = f_24 4 6 := ⟨_, rfl⟩
          have q_29 : 0 ≤ v_28.toInt ∧ v_28.toInt ≤ 120 := by rw [ev_28]; exact hI 4 6
          have q_30 : (f_24 4 6).toInt = v_28.toInt := (congrArg Int32.toInt (show f_24 4 6 = v_28 from ev_28.symm))
          have q_31 : (f_24 4 1).toInt = v_10.toInt := (congrArg Int32.toInt (show f_24 4 1 = v_10 from ((hk_f_24 4 1 (by decide)).trans ((hk_f_20 4 1 (by decide)).trans (by rw [ef_19, sg_up_s, sgu_n (by decide)]; exact ev_10.symm)))))
          refine sg_calli (va_runV (As := []) (rest := []) ⟨hx, hb, hml, hown, hts⟩ (kX5_next l D ca za h hh f_24 L Q hI H.size) (sl_c5_next_0_0_0_0_5 hts ⟨Nat.le_of_ble_eq_true rfl, Nat.le_of_ble_eq_true rfl⟩) (sl_vX_4 hA hK hP hS hZ) rfl rfl hl.1 rfl (lv_room (Nat.le_of_ble_eq_true rfl)) dX5_sum_51 ⟨Nat.le_refl _, Nat.le_refl _⟩) hA hS (fun r_35 f_32 L_33 Q_34 H locs hq hP hS => ?_)
          obtain ⟨⟨ef9, eL9, eQ9⟩, hq, p_36, u_37⟩ := hq
          rw [ef9, eL9, eQ9] at hP; clear ef9 eL9 eQ9
          refine lv_istore_n (lv' := [(2, .int r_35), (0, .ref (h 4)), (1, .int 0), (3, .int y3_12)]) hx hb dX5_sum_54 rfl hl (by decide) rfl (fun ls hl => ?_)
          obtain ⟨v_38, ev_38⟩ : ∃ z : Int32, z = y3_12 + 1 := ⟨_, rfl⟩
          have q_39 : v_38.toInt = y3_12.toInt + 1 := by rw [ev_38]; exact (bn_addc y3_12 1 (by decide) (by omega) (by omega))
          refine lv_iinc (v := v_38) (lv' := [(3, .int v_38), (2, .int r_35), (0, .ref (h 4)), (1, .int 0)]) hx hb dX5_sum_55 hl (k := 3) rfl (by rw [ev_38]; rfl) (by decide) rfl (fun ls hl => ?_)
          refine lv_goto (tgt := 12) hx hb dX5_sum_58 (by decide) ?_
          exact ih_12 r_35 v_38 f_24 _ _ _ (hs.trans ((if_pos c_15).trans (spl_e ev_17 (spl_e ef_19 (spl_e u_23 (spl_e u_27 (spl_e ev_28 (spl_e u_37 (spl_e ev_38 rfl))))))))) (by omega) ⟨by omega, by omega⟩ ⟨by omega, by omega⟩ (by have zz4_6 : (f_24 4 6).toInt = v_28.toInt := (congrArg Int32.toInt (show f_24 4 6 = v_28 from ev_28.symm)); have zz4_1 : (f_24 4 1).toInt = v_10.toInt := (congrArg Int32.toInt (show f_24 4 1 = v_10 from ((hk_f_24 4 1 (by decide)).trans ((hk_f_20 4 1 (by decide)).trans (by rw [ef_19, sg_up_s, sgu_n (by decide)]; exact ev_10.symm))))); omega) hI hF hP hS (lv_sub hl [2, 3, 1, 0] rfl)
        · skip
          have c_16 : y2_12.toInt ≠ 43 := (by first | exact (cm_ne1 ti_43 c) | (have z := bn_ne c; have k1 : (43 : Int32).toInt = 43 := ti_43; omega))
          replace hs := hs.trans ((if_neg c_16).trans rfl)
          refine lv_iload_n hx hb dX5_sum_24 rfl (lv_at hl 2 rfl) ?_
          refine lv_bipush (v := 45) hx hb dX5_sum_25 bp_45 ?_
          refine lv_icmp_ne (tgt := 61) hx hb dX5_sum_27 (by decide) (fun c => ?_) (fun c => ?_)
          · skip
            have c_40 : y2_12.toInt ≠ 45 := (by first | exact (cm_ne1 ti_45 c) | (have z := bn_ne c; have k1 : (45 : Int32).toInt = 45 := ti_45; omega))
            exact hret _ _ _ _ fp_12 L Q dX5_sum_61 hP hS ⟨⟨hI, hF, rfl, rfl⟩, (Eq.trans (Eq.symm (hs.trans ((if_neg c_40).trans rfl))) hsp)⟩
          · skip
            have c_41 : y2_12.toInt = 45 := (by first | exact (cm_eq1 ti_45 c) | (have z := Int32.toInt_inj.mpr c; have k1 : (45 : Int32).toInt = 45 := ti_45; omega))
            refine lv_aload_n hx hb dX5_sum_30 rfl (lv_at hl 0 rfl) ?_
            refine lv_dup hx hb dX5_sum_31 rfl ?_
            refine sl_gX_4_6_5 (v := v_7) hx hb hts hown hK hP (show fp_12 4 6 = v_7 from ev_7.symm) dX5_sum_32 ?_
            refine lv_iconst (v := 1) hx hb dX5_sum_35 ic_1 ?_
            refine lv_iadd hx hb dX5_sum_36 ?_
            refine lv_topi (fun v_42 ev_42 => ?_)
            have q_43 : v_42.toInt = v_7.toInt + 1 := by rw [ev_42]; first | exact cm_add ti_1 (by omega) (by omega) | (have k1 : (1 : Int32).toInt = 1 := ti_1; exact (bn_addI (by omega) (by omega)).trans (by omega))
            refine sl_pX_4_6_5 (x := v_42) hx hb hts hown hh hA hK hP hS dX5_sum_37 (fun f_44 H locs ef_44 hP hS => ?_)
            have hI : sgI loX hiX f_44 := by rw [ef_44]; exact sgI.put hI 4 6 (show 0 ≤ (v_42 : Int32).toInt ∧ (v_42 : Int32).toInt ≤ 120 from ⟨by omega, by omega⟩)
            have hF : sgK WkX5_sum_0 f f_44 := sgK.put hF ef_44 (by rfl)
            refine lv_aload_n hx hb dX5_sum_40 rfl (lv_at hl 0 rfl) ?_
            refine lv_iload_n hx hb dX5_sum_41 rfl (lv_at hl 1 rfl) ?_
            refine sg_callv (va_runV (As := [.int 0]) (rest := []) ⟨hx, hb, hml, hown, hts⟩ (kX5_product_0 l D ca za h hh f_44 L Q hI H.size) (sl_c5_product_45_0_0_1001_5 hts ⟨Nat.le_of_ble_eq_true rfl, Nat.le_of_ble_eq_true rfl⟩) (sl_vX_4 hA hK hP hS hZ) rfl rfl hl.1 rfl (lv_room (Nat.le_of_ble_eq_true rfl)) dX5_sum_42 ⟨Nat.le_refl _, Nat.le_refl _⟩) hA hS (fun f_45 L_46 Q_47 H locs hq hP hS => ?_)
            obtain ⟨⟨hI, hk_f_45, eL9, eQ9⟩, u_48⟩ := hq
            rw [eL9, eQ9] at hP; clear eL9 eQ9
            have hF : sgK WkX5_sum_0 f f_45 := sgK.tr hF hk_f_45 (by decide +kernel)
            refine lv_aload_n hx hb dX5_sum_45 rfl (lv_at hl 0 rfl) ?_
            refine lv_iload_n hx hb dX5_sum_46 rfl (lv_at hl 2 rfl) ?_
            refine sg_callv (va_runV (As := [.int y2_12]) (rest := []) ⟨hx, hb, hml, hown, hts⟩ (kX5_write l D ca za h hh f_45 L Q hI y2_12 H.size) (sl_c5_write_0_0_0_0_5 hts ⟨Nat.le_of_ble_eq_true rfl, Nat.le_of_ble_eq_true rfl⟩) (sl_vX_4 hA hK hP hS hZ) rfl rfl hl.1 rfl (lv_room (Nat.le_of_ble_eq_true rfl)) dX5_sum_47 ⟨Nat.le_refl _, Nat.le_refl _⟩) hA hS (fun f_49 L_50 Q_51 H locs hq hP hS => ?_)
            obtain ⟨⟨hI, hk_f_49, eL9, eQ9⟩, u_52⟩ := hq
            rw [eL9, eQ9] at hP; clear eL9 eQ9
            have hF : sgK WkX5_sum_0 f f_49 := sgK.tr hF hk_f_49 (by decide +kernel)
            refine lv_aload_n hx hb dX5_sum_50 rfl (lv_at hl 0 rfl) ?_
            obtain ⟨v_53, ev_53⟩ : ∃ z : Int32, z = f_49 4 6 := ⟨_, rfl⟩
            have q_54 : 0 ≤ v_53.toInt ∧ v_53.toInt ≤ 120 := by rw [ev_53]; exact hI 4 6
            have q_55 : (f_49 4 6).toInt = v_53.toInt := (congrArg Int32.toInt (show f_49 4 6 = v_53 from ev_53.symm))
            have q_56 : (f_49 4 1).toInt = v_10.toInt := (congrArg Int32.toInt (show f_49 4 1 = v_10 from ((hk_f_49 4 1 (by decide)).trans ((hk_f_45 4 1 (by decide)).trans (by rw [ef_44, sg_up_s, sgu_n (by decide)]; exact ev_10.symm)))))
            refine sg_calli (va_runV (As := []) (rest := []) ⟨hx, hb, hml, hown, hts⟩ (kX5_next l D ca za h hh f_49 L Q hI H.size) (sl_c5_next_0_0_0_0_5 hts ⟨Nat.le_of_ble_eq_true rfl, Nat.le_of_ble_eq_true rfl⟩) (sl_vX_4 hA hK hP hS hZ) rfl rfl hl.1 rfl (lv_room (Nat.le_of_ble_eq_true rfl)) dX5_sum_51 ⟨Nat.le_refl _, Nat.le_refl _⟩) hA hS (fun r_60 f_57 L_58 Q_59 H locs hq hP hS => ?_)
            obtain ⟨⟨ef9, eL9, eQ9⟩, hq, p_61, u_62⟩ := hq
            rw [ef9, eL9, eQ9] at hP; clear ef9 eL9 eQ9
            refine lv_istore_n (lv' := [(2, .int r_60), (0, .ref (h 4)), (1, .int 0), (3, .int y3_12)]) hx hb dX5_sum_54 rfl hl (by decide) rfl (fun ls hl => ?_)
            obtain ⟨v_63, ev_63⟩ : ∃ z : Int32, z = y3_12 + 1 := ⟨_, rfl⟩
            have q_64 : v_63.toInt = y3_12.toInt + 1 := by rw [ev_63]; exact (bn_addc y3_12 1 (by decide) (by omega) (by omega))
            refine lv_iinc (v := v_63) (lv' := [(3, .int v_63), (2, .int r_60), (0, .ref (h 4)), (1, .int 0)]) hx hb dX5_sum_55 hl (k := 3) rfl (by rw [ev_63]; rfl) (by decide) rfl (fun ls hl => ?_)
            refine lv_goto (tgt := 12) hx hb dX5_sum_58 (by decide) ?_
            exact ih_12 r_60 v_63 f_49 _ _ _ (hs.trans ((if_pos c_41).trans (spl_e ev_42 (spl_e ef_44 (spl_e u_48 (spl_e u_52 (spl_e ev_53 (spl_e u_62 (spl_e ev_63 rfl))))))))) (by omega) ⟨by omega, by omega⟩ ⟨by omega, by omega⟩ (by have zz4_6 : (f_49 4 6).toInt = v_53.toInt := (congrArg Int32.toInt (show f_49 4 6 = v_53 from ev_53.symm)); have zz4_1 : (f_49 4 1).toInt = v_10.toInt := (congrArg Int32.toInt (show f_49 4 1 = v_10 from ((hk_f_49 4 1 (by decide)).trans ((hk_f_45 4 1 (by decide)).trans (by rw [ef_44, sg_up_s, sgu_n (by decide)]; exact ev_10.symm))))); omega) hI hF hP hS (lv_sub hl [2, 3, 1, 0] rfl)
  refine lv_aload_n hx hb dX5_sum_0 rfl (lv_at hl 0 rfl) ?_
  refine lv_iload_n hx hb dX5_sum_1 rfl (lv_at hl 1 rfl) ?_
  refine sg_callv (va_runV (As := [.int 0]) (rest := []) ⟨hx, hb, hml, hown, hts⟩ (kX5_product_0 l D ca za h hh f L Q hI H.size) (sl_c5_product_45_0_0_1001_5 hts ⟨Nat.le_of_ble_eq_true rfl, Nat.le_of_ble_eq_true rfl⟩) (sl_vX_4 hA hK hP hS hZ) rfl rfl hl.1 rfl (lv_room (Nat.le_of_ble_eq_true rfl)) dX5_sum_2 ⟨Nat.le_refl _, Nat.le_refl _⟩) hA hS (fun f_65 L_66 Q_67 H locs hq hP hS => ?_)
  obtain ⟨⟨hI, hk_f_65, eL9, eQ9⟩, u_68⟩ := hq
  rw [eL9, eQ9] at hP; clear eL9 eQ9
  have hF : sgK WkX5_sum_0 f f_65 := sgK.tr hF hk_f_65 (by decide +kernel)
  refine lv_aload_n hx hb dX5_sum_5 rfl (lv_at hl 0 rfl) ?_
  obtain ⟨v_69, ev_69⟩ : ∃ z : Int32, z = f_65 4 6 := ⟨_, rfl⟩
  have q_70 : 0 ≤ v_69.toInt ∧ v_69.toInt ≤ 120 := by rw [ev_69]; exact hI 4 6
  have q_71 : (f_65 4 6).toInt = v_69.toInt := (congrArg Int32.toInt (show f_65 4 6 = v_69 from ev_69.symm))
  have q_72 : (f_65 4 1).toInt = v_3.toInt := (congrArg Int32.toInt (show f_65 4 1 = v_3 from ((hk_f_65 4 1 (by decide)).trans ev_3.symm)))
  refine sg_calli (va_runV (As := []) (rest := []) ⟨hx, hb, hml, hown, hts⟩ (kX5_next l D ca za h hh f_65 L Q hI H.size) (sl_c5_next_0_0_0_0_5 hts ⟨Nat.le_of_ble_eq_true rfl, Nat.le_of_ble_eq_true rfl⟩) (sl_vX_4 hA hK hP hS hZ) rfl rfl hl.1 rfl (lv_room (Nat.le_of_ble_eq_true rfl)) dX5_sum_6 ⟨Nat.le_refl _, Nat.le_refl _⟩) hA hS (fun r_76 f_73 L_74 Q_75 H locs hq hP hS => ?_)
  obtain ⟨⟨ef9, eL9, eQ9⟩, hq, p_77, u_78⟩ := hq
  rw [ef9, eL9, eQ9] at hP; clear ef9 eL9 eQ9
  refine lv_istore_n (lv' := [(2, .int r_76), (0, .ref (h 4)), (1, .int 0)]) hx hb dX5_sum_9 rfl hl (by decide) rfl (fun ls hl => ?_)
  refine lv_iconst (v := 0) hx hb dX5_sum_10 ic_0 ?_
  refine lv_istore_n (lv' := [(3, .int 0), (2, .int r_76), (0, .ref (h 4)), (1, .int 0)]) hx hb dX5_sum_11 rfl hl (by decide) rfl (fun ls hl => ?_)
  exact loop_12 121 r_76 0 f_65 _ _ _ (hs.trans ((spl_e ev_1 (spl_e ev_3 (spl_e u_68 (spl_e ev_69 (spl_e u_78 rfl))))))) (by have kc1 : (0 : Int32).toInt = 0 := ti_0; omega) ⟨by omega, by omega⟩ (by decide) (by have kc1 : (0 : Int32).toInt = 0 := ti_0; have zz4_6 : (f_65 4 6).toInt = v_69.toInt := (congrArg Int32.toInt (show f_65 4 6 = v_69 from ev_69.symm)); have zz4_1 : (f_65 4 1).toInt = v_3.toInt := (congrArg Int32.toInt (show f_65 4 1 = v_3 from ((hk_f_65 4 1 (by decide)).trans ev_3.symm))); omega) hI hF hP hS (lv_sub hl [2, 3, 1, 0] rfl)

abbrev WkX5_compared_0 : List (Nat × Nat × Option Nat) := [(4, 4, some 6), (4, 4, some 7), (4, 4, some 8), (6, 6, none)]
set_option maxHeartbeats 4000000 in
set_option maxRecDepth 100000 in
theorem kX5_compared_0 (l : Launch) (D : va_G) (ca : Nat → ClassId) (za h : Nat → Nat) (hh : sgH 52 h) (f : sg_F) (L : sg_L) (Q : sg_Q) (hI : sgI loX hiX f) (sz : Nat) : Met l yX5_compared gwX5_compared { frames := 47, cells := 0, slots := 0, locals := 1047 } (sgP D vwCl (tyX ca) 52 h (eX ca h) zcX za f L Q sz [.ref (h 4), .int 0]) (sgQv D vwCl 52 h (eX ca h) sz (fun f1 L1 Q1 => ((sgI loX hiX f1 ∧ sgK WkX5_compared_0 f f1 ∧ L1 = L ∧ Q1 = Q) ∧ (f1) = sX5_compared_0 f L))) 0 0 (sgA 52 h sz) := by
  refine sg_ofWv (cc := cX5_compared) (maxL := 3) RX5 (by decide) rfl rfl (Nat.le_of_ble_eq_true rfl) ?_
  intro p e s m below meth cd Qz ls hx hb hml hown hts hK hZ hP hS hl hret
  have hA := sgY.self (n := 52) (h := h) (sz := s.heap.size)
  have hl : lv_has ls 3 [(0, .ref (h 4)), (1, .int 0)] := hl
  obtain ⟨H, hH⟩ : ∃ z : Heap, z = s.heap := ⟨_, rfl⟩
  obtain ⟨locs, hlo⟩ : ∃ z : List Loc, z = [] := ⟨_, rfl⟩
  have hP : va_P D vwCl (sgw 52 h (eX ca h) f L Q) H := by rw [hH]; exact hP
  have hS : va_S (sgA 52 h s.heap.size) s.heap H locs := by rw [hH, hlo]; exact hS
  suffices hgo : W p l e ({ frames := 47, cells := 0, slots := 0, locals := 1047 }) s m ([.ref (h 4), .int 0] : List Value).toArray below meth cd H locs 0 0 Qz (F0 m 0 ls []) by rw [hH, hlo] at hgo; exact hgo
  clear hH hlo
  obtain ⟨sp, hsp⟩ : ∃ z : sg_F, z = sX5_compared_0 f L := ⟨_, rfl⟩
  have hs : sp = sX5_compared_0 f L := hsp
  have hF : sgK WkX5_compared_0 f f := sgK.rf
  refine lv_aload_n hx hb dX5_compared_0 rfl (lv_at hl 0 rfl) ?_
  refine lv_iload_n hx hb dX5_compared_1 rfl (lv_at hl 1 rfl) ?_
  refine sg_callv (va_runV (As := [.int 0]) (rest := []) ⟨hx, hb, hml, hown, hts⟩ (kX5_sum_0 l D ca za h hh f L Q hI H.size) (sl_c5_sum_46_0_0_1024_5 hts ⟨Nat.le_of_ble_eq_true rfl, Nat.le_of_ble_eq_true rfl⟩) (sl_vX_4 hA hK hP hS hZ) rfl rfl hl.1 rfl (lv_room (Nat.le_of_ble_eq_true rfl)) dX5_compared_2 ⟨Nat.le_refl _, Nat.le_refl _⟩) hA hS (fun f_1 L_2 Q_3 H locs hq hP hS => ?_)
  obtain ⟨⟨hI, hk_f_1, eL9, eQ9⟩, u_4⟩ := hq
  rw [eL9, eQ9] at hP; clear eL9 eQ9
  have hF : sgK WkX5_compared_0 f f_1 := sgK.tr hF hk_f_1 (by decide +kernel)
  refine lv_aload_n hx hb dX5_compared_5 rfl (lv_at hl 0 rfl) ?_
  obtain ⟨v_5, ev_5⟩ : ∃ z : Int32, z = f_1 4 6 := ⟨_, rfl⟩
  have q_6 : 0 ≤ v_5.toInt ∧ v_5.toInt ≤ 120 := by rw [ev_5]; exact hI 4 6
  have q_7 : (f_1 4 6).toInt = v_5.toInt := (congrArg Int32.toInt (show f_1 4 6 = v_5 from ev_5.symm))
  obtain ⟨v_8, ev_8⟩ : ∃ z : Int32, z = f_1 4 1 := ⟨_, rfl⟩
  have q_9 : 0 ≤ v_8.toInt ∧ v_8.toInt ≤ 120 := by rw [ev_8]; exact hI 4 1
  have q_10 : (f_1 4 1).toInt = v_8.toInt := (congrArg Int32.toInt (show f_1 4 1 = v_8 from ev_8.symm))
  refine sg_calli (va_runV (As := []) (rest := []) ⟨hx, hb, hml, hown, hts⟩ (kX5_next l D ca za h hh f_1 L Q hI H.size) (sl_c5_next_0_0_0_0_5 hts ⟨Nat.le_of_ble_eq_true rfl, Nat.le_of_ble_eq_true rfl⟩) (sl_vX_4 hA hK hP hS hZ) rfl rfl hl.1 rfl (lv_room (Nat.le_of_ble_eq_true rfl)) dX5_compared_6 ⟨Nat.le_refl _, Nat.le_refl _⟩) hA hS (fun r_14 f_11 L_12 Q_13 H locs hq hP hS => ?_)
  obtain ⟨⟨ef9, eL9, eQ9⟩, hq, p_15, u_16⟩ := hq
  replace hs := hs.trans (spl_e u_4 (spl_e ev_5 (spl_e ev_8 (spl_e u_16 rfl))))
  rw [ef9, eL9, eQ9] at hP; clear ef9 eL9 eQ9
  refine lv_istore_n (lv' := [(2, .int r_14), (0, .ref (h 4)), (1, .int 0)]) hx hb dX5_compared_9 rfl hl (by decide) rfl (fun ls hl => ?_)
  refine lv_iload_n hx hb dX5_compared_10 rfl (lv_at hl 0 rfl) ?_
  refine lv_bipush (v := 60) hx hb dX5_compared_11 bp_60 ?_
  refine lv_icmp_eq (tgt := 28) hx hb dX5_compared_13 (by decide) (fun c => ?_) (fun c => ?_)
  · skip
    have c_17 : r_14.toInt = 60 := (by first | exact (cm_eq1 ti_60 c) | (have z := Int32.toInt_inj.mpr c; have k1 : (60 : Int32).toInt = 60 := ti_60; omega))
    refine lv_aload_n hx hb dX5_compared_28 rfl (lv_at hl 1 rfl) ?_
    refine lv_dup hx hb dX5_compared_29 rfl ?_
    refine sl_gX_4_6_5 (v := v_5) hx hb hts hown hK hP (show f_1 4 6 = v_5 from ev_5.symm) dX5_compared_30 ?_
    refine lv_iconst (v := 1) hx hb dX5_compared_33 ic_1 ?_
    refine lv_iadd hx hb dX5_compared_34 ?_
    refine lv_topi (fun v_19 ev_19 => ?_)
    have q_20 : v_19.toInt = v_5.toInt + 1 := by rw [ev_19]; first | exact cm_add ti_1 (by omega) (by omega) | (have k1 : (1 : Int32).toInt = 1 := ti_1; exact (bn_addI (by omega) (by omega)).trans (by omega))
    refine sl_pX_4_6_5 (x := v_19) hx hb hts hown hh hA hK hP hS dX5_compared_35 (fun f_21 H locs ef_21 hP hS => ?_)
    have hI : sgI loX hiX f_21 := by rw [ef_21]; exact sgI.put hI 4 6 (show 0 ≤ (v_19 : Int32).toInt ∧ (v_19 : Int32).toInt ≤ 120 from ⟨by omega, by omega⟩)
    have hF : sgK WkX5_compared_0 f f_21 := sgK.put hF ef_21 (by rfl)
    refine lv_aload_n hx hb dX5_compared_38 rfl (lv_at hl 1 rfl) ?_
    refine lv_iload_n hx hb dX5_compared_39 rfl (lv_at hl 2 rfl) ?_
    refine sg_callv (va_runV (As := [.int 0]) (rest := []) ⟨hx, hb, hml, hown, hts⟩ (kX5_sum_0 l D ca za h hh f_21 L Q hI H.size) (sl_c5_sum_46_0_0_1024_5 hts ⟨Nat.le_of_ble_eq_true rfl, Nat.le_of_ble_eq_true rfl⟩) (sl_vX_4 hA hK hP hS hZ) rfl rfl hl.1 rfl (lv_room (Nat.le_of_ble_eq_true rfl)) dX5_compared_40 ⟨Nat.le_refl _, Nat.le_refl _⟩) hA hS (fun f_22 L_23 Q_24 H locs hq hP hS => ?_)
    obtain ⟨⟨hI, hk_f_22, eL9, eQ9⟩, u_25⟩ := hq
    rw [eL9, eQ9] at hP; clear eL9 eQ9
    have hF : sgK WkX5_compared_0 f f_22 := sgK.tr hF hk_f_22 (by decide +kernel)
    refine lv_aload_n hx hb dX5_compared_43 rfl (lv_at hl 1 rfl) ?_
    refine lv_iload_n hx hb dX5_compared_44 rfl (lv_at hl 0 rfl) ?_
    refine sg_callv (va_runV (As := [.int r_14]) (rest := []) ⟨hx, hb, hml, hown, hts⟩ (kX5_write l D ca za h hh f_22 L Q hI r_14 H.size) (sl_c5_write_0_0_0_0_5 hts ⟨Nat.le_of_ble_eq_true rfl, Nat.le_of_ble_eq_true rfl⟩) (sl_vX_4 hA hK hP hS hZ) rfl rfl hl.1 rfl (lv_room (Nat.le_of_ble_eq_true rfl)) dX5_compared_45 ⟨Nat.le_refl _, Nat.le_refl _⟩) hA hS (fun f_26 L_27 Q_28 H locs hq hP hS => ?_)
    obtain ⟨⟨hI, hk_f_26, eL9, eQ9⟩, u_29⟩ := hq
    rw [eL9, eQ9] at hP; clear eL9 eQ9
    have hF : sgK WkX5_compared_0 f f_26 := sgK.tr hF hk_f_26 (by decide +kernel)
    exact hret _ _ _ _ f_26 L Q dX5_compared_48 hP hS ⟨⟨hI, hF, rfl, rfl⟩, (Eq.trans (Eq.symm (hs.trans ((if_pos c_17).trans (spl_e ev_19 (spl_e ef_21 (spl_e u_25 (spl_e u_29 rfl))))))) hsp)⟩
  · skip
    have c_18 : r_14.toInt ≠ 60 := (by first | exact (cm_ne1 ti_60 c) | (have z := bn_ne c; have k1 : (60 : Int32).toInt = 60 := ti_60; omega))
    replace hs := hs.trans ((if_neg c_18).trans rfl)
    refine lv_iload_n hx hb dX5_compared_16 rfl (lv_at hl 0 rfl) ?_
    refine lv_bipush (v := 61) hx hb dX5_compared_17 bp_61 ?_
    refine lv_icmp_eq (tgt := 28) hx hb dX5_compared_19 (by decide) (fun c => ?_) (fun c => ?_)
    · skip
      have c_30 : r_14.toInt = 61 := (by first | exact (cm_eq1 ti_61 c) | (have z := Int32.toInt_inj.mpr c; have k1 : (61 : Int32).toInt = 61 := ti_61; omega))
      refine lv_aload_n hx hb dX5_compared_28 rfl (lv_at hl 1 rfl) ?_
      refine lv_dup hx hb dX5_compared_29 rfl ?_
      refine sl_gX_4_6_5 (v := v_5) hx hb hts hown hK hP (show f_1 4 6 = v_5 from ev_5.symm) dX5_compared_30 ?_
      refine lv_iconst (v := 1) hx hb dX5_compared_33 ic_1 ?_
      refine lv_iadd hx hb dX5_compared_34 ?_
      refine lv_topi (fun v_32 ev_32 => ?_)
      have q_33 : v_32.toInt = v_5.toInt + 1 := by rw [ev_32]; first | exact cm_add ti_1 (by omega) (by omega) | (have k1 : (1 : Int32).toInt = 1 := ti_1; exact (bn_addI (by omega) (by omega)).trans (by omega))
      refine sl_pX_4_6_5 (x := v_32) hx hb hts hown hh hA hK hP hS dX5_compared_35 (fun f_34 H locs ef_34 hP hS => ?_)
      have hI : sgI loX hiX f_34 := by rw [ef_34]; exact sgI.put hI 4 6 (show 0 ≤ (v_32 : Int32).toInt ∧ (v_32 : Int32).toInt ≤ 120 from ⟨by omega, by omega⟩)
      have hF : sgK WkX5_compared_0 f f_34 := sgK.put hF ef_34 (by rfl)
      refine lv_aload_n hx hb dX5_compared_38 rfl (lv_at hl 1 rfl) ?_
      refine lv_iload_n hx hb dX5_compared_39 rfl (lv_at hl 2 rfl) ?_
      refine sg_callv (va_runV (As := [.int 0]) (rest := []) ⟨hx, hb, hml, hown, hts⟩ (kX5_sum_0 l D ca za h hh f_34 L Q hI H.size) (sl_c5_sum_46_0_0_1024_5 hts ⟨Nat.le_of_ble_eq_true rfl, Nat.le_of_ble_eq_true rfl⟩) (sl_vX_4 hA hK hP hS hZ) rfl rfl hl.1 rfl (lv_room (Nat.le_of_ble_eq_true rfl)) dX5_compared_40 ⟨Nat.le_refl _, Nat.le_refl _⟩) hA hS (fun f_35 L_36 Q_37 H locs hq hP hS => ?_)
      obtain ⟨⟨hI, hk_f_35, eL9, eQ9⟩, u_38⟩ := hq
      rw [eL9, eQ9] at hP; clear eL9 eQ9
      have hF : sgK WkX5_compared_0 f f_35 := sgK.tr hF hk_f_35 (by decide +kernel)
      refine lv_aload_n hx hb dX5_compared_43 rfl (lv_at hl 1 rfl) ?_
      refine lv_iload_n hx hb dX5_compared_44 rfl (lv_at hl 0 rfl) ?_
      refine sg_callv (va_runV (As := [.int r_14]) (rest := []) ⟨hx, hb, hml, hown, hts⟩ (kX5_write l D ca za h hh f_35 L Q hI r_14 H.size) (sl_c5_write_0_0_0_0_5 hts ⟨Nat.le_of_ble_eq_true rfl, Nat.le_of_ble_eq_true rfl⟩) (sl_vX_4 hA hK hP hS hZ) rfl rfl hl.1 rfl (lv_room (Nat.le_of_ble_eq_true rfl)) dX5_compared_45 ⟨Nat.le_refl _, Nat.le_refl _⟩) hA hS (fun f_39 L_40 Q_41 H locs hq hP hS => ?_)
      obtain ⟨⟨hI, hk_f_39, eL9, eQ9⟩, u_42⟩ := hq
      rw [eL9, eQ9] at hP; clear eL9 eQ9
      have hF : sgK WkX5_compared_0 f f_39 := sgK.tr hF hk_f_39 (by decide +kernel)
      exact hret _ _ _ _ f_39 L Q dX5_compared_48 hP hS ⟨⟨hI, hF, rfl, rfl⟩, (Eq.trans (Eq.symm (hs.trans ((if_pos c_30).trans (spl_e ev_32 (spl_e ef_34 (spl_e u_38 (spl_e u_42 rfl))))))) hsp)⟩
    · skip
      have c_31 : r_14.toInt ≠ 61 := (by first | exact (cm_ne1 ti_61 c) | (have z := bn_ne c; have k1 : (61 : Int32).toInt = 61 := ti_61; omega))
      replace hs := hs.trans ((if_neg c_31).trans rfl)
      refine lv_iload_n hx hb dX5_compared_22 rfl (lv_at hl 0 rfl) ?_
      refine lv_bipush (v := 62) hx hb dX5_compared_23 bp_62 ?_
      refine lv_icmp_ne (tgt := 48) hx hb dX5_compared_25 (by decide) (fun c => ?_) (fun c => ?_)
      · skip
        have c_43 : r_14.toInt ≠ 62 := (by first | exact (cm_ne1 ti_62 c) | (have z := bn_ne c; have k1 : (62 : Int32).toInt = 62 := ti_62; omega))
        exact hret _ _ _ _ f_1 L Q dX5_compared_48 hP hS ⟨⟨hI, hF, rfl, rfl⟩, (Eq.trans (Eq.symm (hs.trans ((if_neg c_43).trans rfl))) hsp)⟩
      · skip
        have c_44 : r_14.toInt = 62 := (by first | exact (cm_eq1 ti_62 c) | (have z := Int32.toInt_inj.mpr c; have k1 : (62 : Int32).toInt = 62 := ti_62; omega))
        refine lv_aload_n hx hb dX5_compared_28 rfl (lv_at hl 1 rfl) ?_
        refine lv_dup hx hb dX5_compared_29 rfl ?_
        refine sl_gX_4_6_5 (v := v_5) hx hb hts hown hK hP (show f_1 4 6 = v_5 from ev_5.symm) dX5_compared_30 ?_
        refine lv_iconst (v := 1) hx hb dX5_compared_33 ic_1 ?_
        refine lv_iadd hx hb dX5_compared_34 ?_
        refine lv_topi (fun v_45 ev_45 => ?_)
        have q_46 : v_45.toInt = v_5.toInt + 1 := by rw [ev_45]; first | exact cm_add ti_1 (by omega) (by omega) | (have k1 : (1 : Int32).toInt = 1 := ti_1; exact (bn_addI (by omega) (by omega)).trans (by omega))
        refine sl_pX_4_6_5 (x := v_45) hx hb hts hown hh hA hK hP hS dX5_compared_35 (fun f_47 H locs ef_47 hP hS => ?_)
        have hI : sgI loX hiX f_47 := by rw [ef_47]; exact sgI.put hI 4 6 (show 0 ≤ (v_45 : Int32).toInt ∧ (v_45 : Int32).toInt ≤ 120 from ⟨by omega, by omega⟩)
        have hF : sgK WkX5_compared_0 f f_47 := sgK.put hF ef_47 (by rfl)
        refine lv_aload_n hx hb dX5_compared_38 rfl (lv_at hl 1 rfl) ?_
        refine lv_iload_n hx hb dX5_compared_39 rfl (lv_at hl 2 rfl) ?_
        refine sg_callv (va_runV (As := [.int 0]) (rest := []) ⟨hx, hb, hml, hown, hts⟩ (kX5_sum_0 l D ca za h hh f_47 L Q hI H.size) (sl_c5_sum_46_0_0_1024_5 hts ⟨Nat.le_of_ble_eq_true rfl, Nat.le_of_ble_eq_true rfl⟩) (sl_vX_4 hA hK hP hS hZ) rfl rfl hl.1 rfl (lv_room (Nat.le_of_ble_eq_true rfl)) dX5_compared_40 ⟨Nat.le_refl _, Nat.le_refl _⟩) hA hS (fun f_48 L_49 Q_50 H locs hq hP hS => ?_)
        obtain ⟨⟨hI, hk_f_48, eL9, eQ9⟩, u_51⟩ := hq
        rw [eL9, eQ9] at hP; clear eL9 eQ9
        have hF : sgK WkX5_compared_0 f f_48 := sgK.tr hF hk_f_48 (by decide +kernel)
        refine lv_aload_n hx hb dX5_compared_43 rfl (lv_at hl 1 rfl) ?_
        refine lv_iload_n hx hb dX5_compared_44 rfl (lv_at hl 0 rfl) ?_
        refine sg_callv (va_runV (As := [.int r_14]) (rest := []) ⟨hx, hb, hml, hown, hts⟩ (kX5_write l D ca za h hh f_48 L Q hI r_14 H.size) (sl_c5_write_0_0_0_0_5 hts ⟨Nat.le_of_ble_eq_true rfl, Nat.le_of_ble_eq_true rfl⟩) (sl_vX_4 hA hK hP hS hZ) rfl rfl hl.1 rfl (lv_room (Nat.le_of_ble_eq_true rfl)) dX5_compared_45 ⟨Nat.le_refl _, Nat.le_refl _⟩) hA hS (fun f_52 L_53 Q_54 H locs hq hP hS => ?_)
        obtain ⟨⟨hI, hk_f_52, eL9, eQ9⟩, u_55⟩ := hq
        rw [eL9, eQ9] at hP; clear eL9 eQ9
        have hF : sgK WkX5_compared_0 f f_52 := sgK.tr hF hk_f_52 (by decide +kernel)
        exact hret _ _ _ _ f_52 L Q dX5_compared_48 hP hS ⟨⟨hI, hF, rfl, rfl⟩, (Eq.trans (Eq.symm (hs.trans ((if_pos c_44).trans (spl_e ev_45 (spl_e ef_47 (spl_e u_51 (spl_e u_55 rfl))))))) hsp)⟩

abbrev WkX5_both_0 : List (Nat × Nat × Option Nat) := [(4, 4, some 6), (4, 4, some 7), (4, 4, some 8), (6, 6, none)]
set_option maxHeartbeats 4000000 in
set_option maxRecDepth 100000 in
theorem kX5_both_0 (l : Launch) (D : va_G) (ca : Nat → ClassId) (za h : Nat → Nat) (hh : sgH 52 h) (f : sg_F) (L : sg_L) (Q : sg_Q) (hI : sgI loX hiX f) (sz : Nat) : Met l yX5_both gwX5_both { frames := 48, cells := 0, slots := 0, locals := 1069 } (sgP D vwCl (tyX ca) 52 h (eX ca h) zcX za f L Q sz [.ref (h 4), .int 0]) (sgQv D vwCl 52 h (eX ca h) sz (fun f1 L1 Q1 => ((sgI loX hiX f1 ∧ sgK WkX5_both_0 f f1 ∧ L1 = L ∧ Q1 = Q) ∧ (f1) = sX5_both_0 f L))) 0 0 (sgA 52 h sz) := by
  refine sg_ofWv (cc := cX5_both) (maxL := 3) RX5 (by decide) rfl rfl (Nat.le_of_ble_eq_true rfl) ?_
  intro p e s m below meth cd Qz ls hx hb hml hown hts hK hZ hP hS hl hret
  have hA := sgY.self (n := 52) (h := h) (sz := s.heap.size)
  have hl : lv_has ls 3 [(0, .ref (h 4)), (1, .int 0)] := hl
  obtain ⟨H, hH⟩ : ∃ z : Heap, z = s.heap := ⟨_, rfl⟩
  obtain ⟨locs, hlo⟩ : ∃ z : List Loc, z = [] := ⟨_, rfl⟩
  have hP : va_P D vwCl (sgw 52 h (eX ca h) f L Q) H := by rw [hH]; exact hP
  have hS : va_S (sgA 52 h s.heap.size) s.heap H locs := by rw [hH, hlo]; exact hS
  suffices hgo : W p l e ({ frames := 48, cells := 0, slots := 0, locals := 1069 }) s m ([.ref (h 4), .int 0] : List Value).toArray below meth cd H locs 0 0 Qz (F0 m 0 ls []) by rw [hH, hlo] at hgo; exact hgo
  clear hH hlo
  obtain ⟨sp, hsp⟩ : ∃ z : sg_F, z = sX5_both_0 f L := ⟨_, rfl⟩
  have hs : sp = sX5_both_0 f L := hsp
  have hF : sgK WkX5_both_0 f f := sgK.rf
  have loop_7 : ∀ (n_7 : Nat) (y2_7 : Int32) (fp_7 : sg_F) (H : Heap) (locs : List Loc) (ls : Array Slot), sp = sX5_both_0_l7 n_7 y2_7 fp_7 L → 120 - y2_7.toInt < (n_7 : Int) → 0 ≤ y2_7.toInt ∧ y2_7.toInt ≤ 120 → sgI loX hiX fp_7 → sgK WkX5_both_0 f fp_7 → va_P D vwCl (sgw 52 h (eX ca h) fp_7 L Q) H → va_S (sgA 52 h s.heap.size) s.heap H locs → lv_has ls 3 [(0, .ref (h 4)), (1, .int 0), (2, .int y2_7)] → W p l e ({ frames := 48, cells := 0, slots := 0, locals := 1069 }) s m ([.ref (h 4), .int 0] : List Value).toArray below meth cd H locs 0 0 Qz (F0 m 7 ls []) := by
    intro n_7
    induction n_7 with
    | zero => intro y2_7 fp_7 H locs ls hs hm_7 hy0_7 hI hF hP hS hl; exact absurd hm_7 (by omega)
    | succ n_7 ih_7 =>
      intro y2_7 fp_7 H locs ls hs hm_7 hy0_7 hI hF hP hS hl
      have hs : sp = sX5_both_0_h7 (sX5_both_0_l7 n_7) y2_7 fp_7 L := hs
      refine lv_iload_n hx hb dX5_both_7 rfl (lv_at hl 2 rfl) ?_
      refine lv_bipush (v := 120) hx hb dX5_both_8 bp_120 ?_
      refine lv_icmp_ge (tgt := 49) hx hb dX5_both_10 (by decide) (fun c => ?_) (fun c => ?_)
      · skip
        have c_1 : 120 ≤ y2_7.toInt := (by first | exact (cm_le0 ti_120 c) | (have z := bn_le c; have k1 : (120 : Int32).toInt = 120 := ti_120; omega))
        exact hret _ _ _ _ fp_7 L Q dX5_both_49 hP hS ⟨⟨hI, hF, rfl, rfl⟩, (Eq.trans (Eq.symm (hs.trans (((if_neg (Int.not_lt.mpr c_1)).trans rfl)))) hsp)⟩
      · skip
        have c_2 : y2_7.toInt < 120 := (by first | exact (cm_nle0 ti_120 c) | (have z := bn_nle c; have k1 : (120 : Int32).toInt = 120 := ti_120; omega))
        refine lv_aload_n hx hb dX5_both_13 rfl (lv_at hl 0 rfl) ?_
        obtain ⟨v_3, ev_3⟩ : ∃ z : Int32, z = fp_7 4 6 := ⟨_, rfl⟩
        have q_4 : 0 ≤ v_3.toInt ∧ v_3.toInt ≤ 120 := by rw [ev_3]; exact hI 4 6
        have q_5 : (fp_7 4 6).toInt = v_3.toInt := (congrArg Int32.toInt (show fp_7 4 6 = v_3 from ev_3.symm))
        obtain ⟨v_6, ev_6⟩ : ∃ z : Int32, z = fp_7 4 1 := ⟨_, rfl⟩
        have q_7 : 0 ≤ v_6.toInt ∧ v_6.toInt ≤ 120 := by rw [ev_6]; exact hI 4 1
        have q_8 : (fp_7 4 1).toInt = v_6.toInt := (congrArg Int32.toInt (show fp_7 4 1 = v_6 from ev_6.symm))
        refine sg_calli (va_runV (As := []) (rest := []) ⟨hx, hb, hml, hown, hts⟩ (kX5_next l D ca za h hh fp_7 L Q hI H.size) (sl_c5_next_0_0_0_0_5 hts ⟨Nat.le_of_ble_eq_true rfl, Nat.le_of_ble_eq_true rfl⟩) (sl_vX_4 hA hK hP hS hZ) rfl rfl hl.1 rfl (lv_room (Nat.le_of_ble_eq_true rfl)) dX5_both_14 ⟨Nat.le_refl _, Nat.le_refl _⟩) hA hS (fun r_12 f_9 L_10 Q_11 H locs hq hP hS => ?_)
        obtain ⟨⟨ef9, eL9, eQ9⟩, hq, p_13, u_14⟩ := hq
        replace hs := hs.trans ((if_pos c_2).trans (spl_e ev_3 (spl_e ev_6 (spl_e u_14 rfl))))
        rw [ef9, eL9, eQ9] at hP; clear ef9 eL9 eQ9
        refine lv_bipush (v := 38) hx hb dX5_both_17 bp_38 ?_
        refine lv_icmp_ne (tgt := 49) hx hb dX5_both_19 (by decide) (fun c => ?_) (fun c => ?_)
        · skip
          have c_15 : r_12.toInt ≠ 38 := (by first | exact (cm_ne1 ti_38 c) | (have z := bn_ne c; have k1 : (38 : Int32).toInt = 38 := ti_38; omega))
          exact hret _ _ _ _ fp_7 L Q dX5_both_49 hP hS ⟨⟨hI, hF, rfl, rfl⟩, (Eq.trans (Eq.symm (hs.trans ((if_neg c_15).trans rfl))) hsp)⟩
        · skip
          have c_16 : r_12.toInt = 38 := (by first | exact (cm_eq1 ti_38 c) | (have z := Int32.toInt_inj.mpr c; have k1 : (38 : Int32).toInt = 38 := ti_38; omega))
          refine lv_aload_n hx hb dX5_both_22 rfl (lv_at hl 0 rfl) ?_
          refine lv_dup hx hb dX5_both_23 rfl ?_
          refine sl_gX_4_6_5 (v := v_3) hx hb hts hown hK hP (show fp_7 4 6 = v_3 from ev_3.symm) dX5_both_24 ?_
          refine lv_iconst (v := 1) hx hb dX5_both_27 ic_1 ?_
          refine lv_iadd hx hb dX5_both_28 ?_
          refine lv_topi (fun v_17 ev_17 => ?_)
          have q_18 : v_17.toInt = v_3.toInt + 1 := by rw [ev_17]; first | exact cm_add ti_1 (by omega) (by omega) | (have k1 : (1 : Int32).toInt = 1 := ti_1; exact (bn_addI (by omega) (by omega)).trans (by omega))
          refine sl_pX_4_6_5 (x := v_17) hx hb hts hown hh hA hK hP hS dX5_both_29 (fun f_19 H locs ef_19 hP hS => ?_)
          have hI : sgI loX hiX f_19 := by rw [ef_19]; exact sgI.put hI 4 6 (show 0 ≤ (v_17 : Int32).toInt ∧ (v_17 : Int32).toInt ≤ 120 from ⟨by omega, by omega⟩)
          have hF : sgK WkX5_both_0 f f_19 := sgK.put hF ef_19 (by rfl)
          refine lv_aload_n hx hb dX5_both_32 rfl (lv_at hl 0 rfl) ?_
          refine lv_iload_n hx hb dX5_both_33 rfl (lv_at hl 1 rfl) ?_
          refine sg_callv (va_runV (As := [.int 0]) (rest := []) ⟨hx, hb, hml, hown, hts⟩ (kX5_compared_0 l D ca za h hh f_19 L Q hI H.size) (sl_c5_compared_47_0_0_1047_5 hts ⟨Nat.le_of_ble_eq_true rfl, Nat.le_of_ble_eq_true rfl⟩) (sl_vX_4 hA hK hP hS hZ) rfl rfl hl.1 rfl (lv_room (Nat.le_of_ble_eq_true rfl)) dX5_both_34 ⟨Nat.le_refl _, Nat.le_refl _⟩) hA hS (fun f_20 L_21 Q_22 H locs hq hP hS => ?_)
          obtain ⟨⟨hI, hk_f_20, eL9, eQ9⟩, u_23⟩ := hq
          rw [eL9, eQ9] at hP; clear eL9 eQ9
          have hF : sgK WkX5_both_0 f f_20 := sgK.tr hF hk_f_20 (by decide +kernel)
          refine lv_aload_n hx hb dX5_both_37 rfl (lv_at hl 0 rfl) ?_
          refine lv_bipush (v := 38) hx hb dX5_both_38 bp_38 ?_
          refine sg_callv (va_runV (As := [.int 38]) (rest := []) ⟨hx, hb, hml, hown, hts⟩ (kX5_write l D ca za h hh f_20 L Q hI 38 H.size) (sl_c5_write_0_0_0_0_5 hts ⟨Nat.le_of_ble_eq_true rfl, Nat.le_of_ble_eq_true rfl⟩) (sl_vX_4 hA hK hP hS hZ) rfl rfl hl.1 rfl (lv_room (Nat.le_of_ble_eq_true rfl)) dX5_both_40 ⟨Nat.le_refl _, Nat.le_refl _⟩) hA hS (fun f_24 L_25 Q_26 H locs hq hP hS => ?_)
          obtain ⟨⟨hI, hk_f_24, eL9, eQ9⟩, u_27⟩ := hq
          rw [eL9, eQ9] at hP; clear eL9 eQ9
          have hF : sgK WkX5_both_0 f f_24 := sgK.tr hF hk_f_24 (by decide +kernel)
          obtain ⟨v_28, ev_28⟩ : ∃ z : Int32, z = y2_7 + 1 := ⟨_, rfl⟩
          have q_29 : v_28.toInt = y2_7.toInt + 1 := by rw [ev_28]; exact (bn_addc y2_7 1 (by decide) (by omega) (by omega))
          refine lv_iinc (v := v_28) (lv' := [(2, .int v_28), (0, .ref (h 4)), (1, .int 0)]) hx hb dX5_both_43 hl (k := 2) rfl (by rw [ev_28]; rfl) (by decide) rfl (fun ls hl => ?_)
          refine lv_goto (tgt := 7) hx hb dX5_both_46 (by decide) ?_
          exact ih_7 v_28 f_24 _ _ _ (hs.trans ((if_pos c_16).trans (spl_e ev_17 (spl_e ef_19 (spl_e u_23 (spl_e u_27 (spl_e ev_28 rfl))))))) (by omega) ⟨by omega, by omega⟩ hI hF hP hS (lv_sub hl [1, 2, 0] rfl)
  refine lv_aload_n hx hb dX5_both_0 rfl (lv_at hl 0 rfl) ?_
  refine lv_iload_n hx hb dX5_both_1 rfl (lv_at hl 1 rfl) ?_
  refine sg_callv (va_runV (As := [.int 0]) (rest := []) ⟨hx, hb, hml, hown, hts⟩ (kX5_compared_0 l D ca za h hh f L Q hI H.size) (sl_c5_compared_47_0_0_1047_5 hts ⟨Nat.le_of_ble_eq_true rfl, Nat.le_of_ble_eq_true rfl⟩) (sl_vX_4 hA hK hP hS hZ) rfl rfl hl.1 rfl (lv_room (Nat.le_of_ble_eq_true rfl)) dX5_both_2 ⟨Nat.le_refl _, Nat.le_refl _⟩) hA hS (fun f_30 L_31 Q_32 H locs hq hP hS => ?_)
  obtain ⟨⟨hI, hk_f_30, eL9, eQ9⟩, u_33⟩ := hq
  rw [eL9, eQ9] at hP; clear eL9 eQ9
  have hF : sgK WkX5_both_0 f f_30 := sgK.tr hF hk_f_30 (by decide +kernel)
  refine lv_iconst (v := 0) hx hb dX5_both_5 ic_0 ?_
  refine lv_istore_n (lv' := [(2, .int 0), (0, .ref (h 4)), (1, .int 0)]) hx hb dX5_both_6 rfl hl (by decide) rfl (fun ls hl => ?_)
  exact loop_7 121 0 f_30 _ _ _ (hs.trans ((spl_e u_33 rfl))) (by have kc0 : (0 : Int32).toInt = 0 := ti_0; omega) (by decide) hI hF hP hS (lv_sub hl [1, 2, 0] rfl)

abbrev WkX5_either_0 : List (Nat × Nat × Option Nat) := [(4, 4, some 6), (4, 4, some 7), (4, 4, some 8), (6, 6, none)]
set_option maxHeartbeats 4000000 in
set_option maxRecDepth 100000 in
theorem kX5_either_0 (l : Launch) (D : va_G) (ca : Nat → ClassId) (za h : Nat → Nat) (hh : sgH 52 h) (f : sg_F) (L : sg_L) (Q : sg_Q) (hI : sgI loX hiX f) (sz : Nat) : Met l yX5_either gwX5_either { frames := 49, cells := 0, slots := 0, locals := 1091 } (sgP D vwCl (tyX ca) 52 h (eX ca h) zcX za f L Q sz [.ref (h 4), .int 0]) (sgQv D vwCl 52 h (eX ca h) sz (fun f1 L1 Q1 => ((sgI loX hiX f1 ∧ sgK WkX5_either_0 f f1 ∧ L1 = L ∧ Q1 = Q) ∧ (f1) = sX5_either_0 f L))) 0 0 (sgA 52 h sz) := by
  refine sg_ofWv (cc := cX5_either) (maxL := 3) RX5 (by decide) rfl rfl (Nat.le_of_ble_eq_true rfl) ?_
  intro p e s m below meth cd Qz ls hx hb hml hown hts hK hZ hP hS hl hret
  have hA := sgY.self (n := 52) (h := h) (sz := s.heap.size)
  have hl : lv_has ls 3 [(0, .ref (h 4)), (1, .int 0)] := hl
  obtain ⟨H, hH⟩ : ∃ z : Heap, z = s.heap := ⟨_, rfl⟩
  obtain ⟨locs, hlo⟩ : ∃ z : List Loc, z = [] := ⟨_, rfl⟩
  have hP : va_P D vwCl (sgw 52 h (eX ca h) f L Q) H := by rw [hH]; exact hP
  have hS : va_S (sgA 52 h s.heap.size) s.heap H locs := by rw [hH, hlo]; exact hS
  suffices hgo : W p l e ({ frames := 49, cells := 0, slots := 0, locals := 1091 }) s m ([.ref (h 4), .int 0] : List Value).toArray below meth cd H locs 0 0 Qz (F0 m 0 ls []) by rw [hH, hlo] at hgo; exact hgo
  clear hH hlo
  obtain ⟨sp, hsp⟩ : ∃ z : sg_F, z = sX5_either_0 f L := ⟨_, rfl⟩
  have hs : sp = sX5_either_0 f L := hsp
  have hF : sgK WkX5_either_0 f f := sgK.rf
  have loop_7 : ∀ (n_7 : Nat) (y2_7 : Int32) (fp_7 : sg_F) (H : Heap) (locs : List Loc) (ls : Array Slot), sp = sX5_either_0_l7 n_7 y2_7 fp_7 L → 120 - y2_7.toInt < (n_7 : Int) → 0 ≤ y2_7.toInt ∧ y2_7.toInt ≤ 120 → sgI loX hiX fp_7 → sgK WkX5_either_0 f fp_7 → va_P D vwCl (sgw 52 h (eX ca h) fp_7 L Q) H → va_S (sgA 52 h s.heap.size) s.heap H locs → lv_has ls 3 [(0, .ref (h 4)), (1, .int 0), (2, .int y2_7)] → W p l e ({ frames := 49, cells := 0, slots := 0, locals := 1091 }) s m ([.ref (h 4), .int 0] : List Value).toArray below meth cd H locs 0 0 Qz (F0 m 7 ls []) := by
    intro n_7
    induction n_7 with
    | zero => intro y2_7 fp_7 H locs ls hs hm_7 hy0_7 hI hF hP hS hl; exact absurd hm_7 (by omega)
    | succ n_7 ih_7 =>
      intro y2_7 fp_7 H locs ls hs hm_7 hy0_7 hI hF hP hS hl
      have hs : sp = sX5_either_0_h7 (sX5_either_0_l7 n_7) y2_7 fp_7 L := hs
      refine lv_iload_n hx hb dX5_either_7 rfl (lv_at hl 2 rfl) ?_
      refine lv_bipush (v := 120) hx hb dX5_either_8 bp_120 ?_
      refine lv_icmp_ge (tgt := 49) hx hb dX5_either_10 (by decide) (fun c => ?_) (fun c => ?_)
      · skip
        have c_1 : 120 ≤ y2_7.toInt := (by first | exact (cm_le0 ti_120 c) | (have z := bn_le c; have k1 : (120 : Int32).toInt = 120 := ti_120; omega))
        exact hret _ _ _ _ fp_7 L Q dX5_either_49 hP hS ⟨⟨hI, hF, rfl, rfl⟩, (Eq.trans (Eq.symm (hs.trans (((if_neg (Int.not_lt.mpr c_1)).trans rfl)))) hsp)⟩
      · skip
        have c_2 : y2_7.toInt < 120 := (by first | exact (cm_nle0 ti_120 c) | (have z := bn_nle c; have k1 : (120 : Int32).toInt = 120 := ti_120; omega))
        refine lv_aload_n hx hb dX5_either_13 rfl (lv_at hl 0 rfl) ?_
        obtain ⟨v_3, ev_3⟩ : ∃ z : Int32, z = fp_7 4 6 := ⟨_, rfl⟩
        have q_4 : 0 ≤ v_3.toInt ∧ v_3.toInt ≤ 120 := by rw [ev_3]; exact hI 4 6
        have q_5 : (fp_7 4 6).toInt = v_3.toInt := (congrArg Int32.toInt (show fp_7 4 6 = v_3 from ev_3.symm))
        obtain ⟨v_6, ev_6⟩ : ∃ z : Int32, z = fp_7 4 1 := ⟨_, rfl⟩
        have q_7 : 0 ≤ v_6.toInt ∧ v_6.toInt ≤ 120 := by rw [ev_6]; exact hI 4 1
        have q_8 : (fp_7 4 1).toInt = v_6.toInt := (congrArg Int32.toInt (show fp_7 4 1 = v_6 from ev_6.symm))
        refine sg_calli (va_runV (As := []) (rest := []) ⟨hx, hb, hml, hown, hts⟩ (kX5_next l D ca za h hh fp_7 L Q hI H.size) (sl_c5_next_0_0_0_0_5 hts ⟨Nat.le_of_ble_eq_true rfl, Nat.le_of_ble_eq_true rfl⟩) (sl_vX_4 hA hK hP hS hZ) rfl rfl hl.1 rfl (lv_room (Nat.le_of_ble_eq_true rfl)) dX5_either_14 ⟨Nat.le_refl _, Nat.le_refl _⟩) hA hS (fun r_12 f_9 L_10 Q_11 H locs hq hP hS => ?_)
        obtain ⟨⟨ef9, eL9, eQ9⟩, hq, p_13, u_14⟩ := hq
        replace hs := hs.trans ((if_pos c_2).trans (spl_e ev_3 (spl_e ev_6 (spl_e u_14 rfl))))
        rw [ef9, eL9, eQ9] at hP; clear ef9 eL9 eQ9
        refine lv_bipush (v := 124) hx hb dX5_either_17 bp_124 ?_
        refine lv_icmp_ne (tgt := 49) hx hb dX5_either_19 (by decide) (fun c => ?_) (fun c => ?_)
        · skip
          have c_15 : r_12.toInt ≠ 124 := (by first | exact (cm_ne1 ti_124 c) | (have z := bn_ne c; have k1 : (124 : Int32).toInt = 124 := ti_124; omega))
          exact hret _ _ _ _ fp_7 L Q dX5_either_49 hP hS ⟨⟨hI, hF, rfl, rfl⟩, (Eq.trans (Eq.symm (hs.trans ((if_neg c_15).trans rfl))) hsp)⟩
        · skip
          have c_16 : r_12.toInt = 124 := (by first | exact (cm_eq1 ti_124 c) | (have z := Int32.toInt_inj.mpr c; have k1 : (124 : Int32).toInt = 124 := ti_124; omega))
          refine lv_aload_n hx hb dX5_either_22 rfl (lv_at hl 0 rfl) ?_
          refine lv_dup hx hb dX5_either_23 rfl ?_
          refine sl_gX_4_6_5 (v := v_3) hx hb hts hown hK hP (show fp_7 4 6 = v_3 from ev_3.symm) dX5_either_24 ?_
          refine lv_iconst (v := 1) hx hb dX5_either_27 ic_1 ?_
          refine lv_iadd hx hb dX5_either_28 ?_
          refine lv_topi (fun v_17 ev_17 => ?_)
          have q_18 : v_17.toInt = v_3.toInt + 1 := by rw [ev_17]; first | exact cm_add ti_1 (by omega) (by omega) | (have k1 : (1 : Int32).toInt = 1 := ti_1; exact (bn_addI (by omega) (by omega)).trans (by omega))
          refine sl_pX_4_6_5 (x := v_17) hx hb hts hown hh hA hK hP hS dX5_either_29 (fun f_19 H locs ef_19 hP hS => ?_)
          have hI : sgI loX hiX f_19 := by rw [ef_19]; exact sgI.put hI 4 6 (show 0 ≤ (v_17 : Int32).toInt ∧ (v_17 : Int32).toInt ≤ 120 from ⟨by omega, by omega⟩)
          have hF : sgK WkX5_either_0 f f_19 := sgK.put hF ef_19 (by rfl)
          refine lv_aload_n hx hb dX5_either_32 rfl (lv_at hl 0 rfl) ?_
          refine lv_iload_n hx hb dX5_either_33 rfl (lv_at hl 1 rfl) ?_
          refine sg_callv (va_runV (As := [.int 0]) (rest := []) ⟨hx, hb, hml, hown, hts⟩ (kX5_both_0 l D ca za h hh f_19 L Q hI H.size) (sl_c5_both_48_0_0_1069_5 hts ⟨Nat.le_of_ble_eq_true rfl, Nat.le_of_ble_eq_true rfl⟩) (sl_vX_4 hA hK hP hS hZ) rfl rfl hl.1 rfl (lv_room (Nat.le_of_ble_eq_true rfl)) dX5_either_34 ⟨Nat.le_refl _, Nat.le_refl _⟩) hA hS (fun f_20 L_21 Q_22 H locs hq hP hS => ?_)
          obtain ⟨⟨hI, hk_f_20, eL9, eQ9⟩, u_23⟩ := hq
          rw [eL9, eQ9] at hP; clear eL9 eQ9
          have hF : sgK WkX5_either_0 f f_20 := sgK.tr hF hk_f_20 (by decide +kernel)
          refine lv_aload_n hx hb dX5_either_37 rfl (lv_at hl 0 rfl) ?_
          refine lv_bipush (v := 124) hx hb dX5_either_38 bp_124 ?_
          refine sg_callv (va_runV (As := [.int 124]) (rest := []) ⟨hx, hb, hml, hown, hts⟩ (kX5_write l D ca za h hh f_20 L Q hI 124 H.size) (sl_c5_write_0_0_0_0_5 hts ⟨Nat.le_of_ble_eq_true rfl, Nat.le_of_ble_eq_true rfl⟩) (sl_vX_4 hA hK hP hS hZ) rfl rfl hl.1 rfl (lv_room (Nat.le_of_ble_eq_true rfl)) dX5_either_40 ⟨Nat.le_refl _, Nat.le_refl _⟩) hA hS (fun f_24 L_25 Q_26 H locs hq hP hS => ?_)
          obtain ⟨⟨hI, hk_f_24, eL9, eQ9⟩, u_27⟩ := hq
          rw [eL9, eQ9] at hP; clear eL9 eQ9
          have hF : sgK WkX5_either_0 f f_24 := sgK.tr hF hk_f_24 (by decide +kernel)
          obtain ⟨v_28, ev_28⟩ : ∃ z : Int32, z = y2_7 + 1 := ⟨_, rfl⟩
          have q_29 : v_28.toInt = y2_7.toInt + 1 := by rw [ev_28]; exact (bn_addc y2_7 1 (by decide) (by omega) (by omega))
          refine lv_iinc (v := v_28) (lv' := [(2, .int v_28), (0, .ref (h 4)), (1, .int 0)]) hx hb dX5_either_43 hl (k := 2) rfl (by rw [ev_28]; rfl) (by decide) rfl (fun ls hl => ?_)
          refine lv_goto (tgt := 7) hx hb dX5_either_46 (by decide) ?_
          exact ih_7 v_28 f_24 _ _ _ (hs.trans ((if_pos c_16).trans (spl_e ev_17 (spl_e ef_19 (spl_e u_23 (spl_e u_27 (spl_e ev_28 rfl))))))) (by omega) ⟨by omega, by omega⟩ hI hF hP hS (lv_sub hl [1, 2, 0] rfl)
  refine lv_aload_n hx hb dX5_either_0 rfl (lv_at hl 0 rfl) ?_
  refine lv_iload_n hx hb dX5_either_1 rfl (lv_at hl 1 rfl) ?_
  refine sg_callv (va_runV (As := [.int 0]) (rest := []) ⟨hx, hb, hml, hown, hts⟩ (kX5_both_0 l D ca za h hh f L Q hI H.size) (sl_c5_both_48_0_0_1069_5 hts ⟨Nat.le_of_ble_eq_true rfl, Nat.le_of_ble_eq_true rfl⟩) (sl_vX_4 hA hK hP hS hZ) rfl rfl hl.1 rfl (lv_room (Nat.le_of_ble_eq_true rfl)) dX5_either_2 ⟨Nat.le_refl _, Nat.le_refl _⟩) hA hS (fun f_30 L_31 Q_32 H locs hq hP hS => ?_)
  obtain ⟨⟨hI, hk_f_30, eL9, eQ9⟩, u_33⟩ := hq
  rw [eL9, eQ9] at hP; clear eL9 eQ9
  have hF : sgK WkX5_either_0 f f_30 := sgK.tr hF hk_f_30 (by decide +kernel)
  refine lv_iconst (v := 0) hx hb dX5_either_5 ic_0 ?_
  refine lv_istore_n (lv' := [(2, .int 0), (0, .ref (h 4)), (1, .int 0)]) hx hb dX5_either_6 rfl hl (by decide) rfl (fun ls hl => ?_)
  exact loop_7 121 0 f_30 _ _ _ (hs.trans ((spl_e u_33 rfl))) (by have kc0 : (0 : Int32).toInt = 0 := ti_0; omega) (by decide) hI hF hP hS (lv_sub hl [1, 2, 0] rfl)

abbrev WkX5_line : List (Nat × Nat × Option Nat) := [(4, 4, some 6), (4, 4, some 7), (4, 4, some 8), (6, 6, none)]
set_option maxHeartbeats 4000000 in
set_option maxRecDepth 100000 in
theorem kX5_line (l : Launch) (D : va_G) (ca : Nat → ClassId) (za h : Nat → Nat) (hh : sgH 52 h) (f : sg_F) (L : sg_L) (Q : sg_Q) (hI : sgI loX hiX f) (sz : Nat) : Met l yX5_line gwX5_line { frames := 50, cells := 0, slots := 0, locals := 1113 } (sgP D vwCl (tyX ca) 52 h (eX ca h) zcX za f L Q sz [.ref (h 4)]) (sgQv D vwCl 52 h (eX ca h) sz (fun f1 L1 Q1 => ((sgI loX hiX f1 ∧ sgK WkX5_line f f1 ∧ L1 = L ∧ Q1 = Q) ∧ (f1) = sX5_line f L))) 0 0 (sgA 52 h sz) := by
  refine sg_ofWv (cc := cX5_line) (maxL := 1) RX5 (by decide) rfl rfl (Nat.le_of_ble_eq_true rfl) ?_
  intro p e s m below meth cd Qz ls hx hb hml hown hts hK hZ hP hS hl hret
  have hA := sgY.self (n := 52) (h := h) (sz := s.heap.size)
  have hl : lv_has ls 1 [(0, .ref (h 4))] := hl
  obtain ⟨H, hH⟩ : ∃ z : Heap, z = s.heap := ⟨_, rfl⟩
  obtain ⟨locs, hlo⟩ : ∃ z : List Loc, z = [] := ⟨_, rfl⟩
  have hP : va_P D vwCl (sgw 52 h (eX ca h) f L Q) H := by rw [hH]; exact hP
  have hS : va_S (sgA 52 h s.heap.size) s.heap H locs := by rw [hH, hlo]; exact hS
  suffices hgo : W p l e ({ frames := 50, cells := 0, slots := 0, locals := 1113 }) s m ([.ref (h 4)] : List Value).toArray below meth cd H locs 0 0 Qz (F0 m 0 ls []) by rw [hH, hlo] at hgo; exact hgo
  clear hH hlo
  obtain ⟨sp, hsp⟩ : ∃ z : sg_F, z = sX5_line f L := ⟨_, rfl⟩
  have hs : sp = sX5_line f L := hsp
  have hF : sgK WkX5_line f f := sgK.rf
  have blk_35 : ∀ (fp_35 : sg_F) (H : Heap) (locs : List Loc) (ls : Array Slot), sp = sX5_line_b35 fp_35 L → sgI loX hiX fp_35 → sgK WkX5_line f fp_35 → va_P D vwCl (sgw 52 h (eX ca h) fp_35 L Q) H → va_S (sgA 52 h s.heap.size) s.heap H locs → lv_has ls 1 [(0, .ref (h 4))] → W p l e ({ frames := 50, cells := 0, slots := 0, locals := 1113 }) s m ([.ref (h 4)] : List Value).toArray below meth cd H locs 0 0 Qz (F0 m 35 ls []) := by
    intro fp_35 H locs ls hs hI hF hP hS hl
    refine lv_aload_n hx hb dX5_line_35 rfl (lv_at hl 0 rfl) ?_
    refine lv_bipush (v := 59) hx hb dX5_line_36 bp_59 ?_
    refine sg_callv (va_runV (As := [.int 59]) (rest := []) ⟨hx, hb, hml, hown, hts⟩ (kX5_write l D ca za h hh fp_35 L Q hI 59 H.size) (sl_c5_write_0_0_0_0_5 hts ⟨Nat.le_of_ble_eq_true rfl, Nat.le_of_ble_eq_true rfl⟩) (sl_vX_4 hA hK hP hS hZ) rfl rfl hl.1 rfl (lv_room (Nat.le_of_ble_eq_true rfl)) dX5_line_38 ⟨Nat.le_refl _, Nat.le_refl _⟩) hA hS (fun f_1 L_2 Q_3 H locs hq hP hS => ?_)
    obtain ⟨⟨hI, hk_f_1, eL9, eQ9⟩, u_4⟩ := hq
    rw [eL9, eQ9] at hP; clear eL9 eQ9
    have hF : sgK WkX5_line f f_1 := sgK.tr hF hk_f_1 (by decide +kernel)
    exact hret _ _ _ _ f_1 L Q dX5_line_41 hP hS ⟨⟨hI, hF, rfl, rfl⟩, (Eq.trans (Eq.symm (hs.trans ((spl_e u_4 rfl)))) hsp)⟩
  refine lv_aload_n hx hb dX5_line_0 rfl (lv_at hl 0 rfl) ?_
  refine lv_iconst (v := 0) hx hb dX5_line_1 ic_0 ?_
  refine sg_callv (va_runV (As := [.int 0]) (rest := []) ⟨hx, hb, hml, hown, hts⟩ (kX5_either_0 l D ca za h hh f L Q hI H.size) (sl_c5_either_49_0_0_1091_5 hts ⟨Nat.le_of_ble_eq_true rfl, Nat.le_of_ble_eq_true rfl⟩) (sl_vX_4 hA hK hP hS hZ) rfl rfl hl.1 rfl (lv_room (Nat.le_of_ble_eq_true rfl)) dX5_line_2 ⟨Nat.le_refl _, Nat.le_refl _⟩) hA hS (fun f_5 L_6 Q_7 H locs hq hP hS => ?_)
  obtain ⟨⟨hI, hk_f_5, eL9, eQ9⟩, u_8⟩ := hq
  rw [eL9, eQ9] at hP; clear eL9 eQ9
  have hF : sgK WkX5_line f f_5 := sgK.tr hF hk_f_5 (by decide +kernel)
  refine lv_aload_n hx hb dX5_line_5 rfl (lv_at hl 0 rfl) ?_
  obtain ⟨v_9, ev_9⟩ : ∃ z : Int32, z = f_5 4 6 := ⟨_, rfl⟩
  have q_10 : 0 ≤ v_9.toInt ∧ v_9.toInt ≤ 120 := by rw [ev_9]; exact hI 4 6
  have q_11 : (f_5 4 6).toInt = v_9.toInt := (congrArg Int32.toInt (show f_5 4 6 = v_9 from ev_9.symm))
  obtain ⟨v_12, ev_12⟩ : ∃ z : Int32, z = f_5 4 1 := ⟨_, rfl⟩
  have q_13 : 0 ≤ v_12.toInt ∧ v_12.toInt ≤ 120 := by rw [ev_12]; exact hI 4 1
  have q_14 : (f_5 4 1).toInt = v_12.toInt := (congrArg Int32.toInt (show f_5 4 1 = v_12 from ev_12.symm))
  refine sg_calli (va_runV (As := []) (rest := []) ⟨hx, hb, hml, hown, hts⟩ (kX5_next l D ca za h hh f_5 L Q hI H.size) (sl_c5_next_0_0_0_0_5 hts ⟨Nat.le_of_ble_eq_true rfl, Nat.le_of_ble_eq_true rfl⟩) (sl_vX_4 hA hK hP hS hZ) rfl rfl hl.1 rfl (lv_room (Nat.le_of_ble_eq_true rfl)) dX5_line_6 ⟨Nat.le_refl _, Nat.le_refl _⟩) hA hS (fun r_18 f_15 L_16 Q_17 H locs hq hP hS => ?_)
  obtain ⟨⟨ef9, eL9, eQ9⟩, hq, p_19, u_20⟩ := hq
  replace hs := hs.trans (spl_e u_8 (spl_e ev_9 (spl_e ev_12 (spl_e u_20 rfl))))
  rw [ef9, eL9, eQ9] at hP; clear ef9 eL9 eQ9
  refine lv_bipush (v := 63) hx hb dX5_line_9 bp_63 ?_
  refine lv_icmp_ne (tgt := 35) hx hb dX5_line_11 (by decide) (fun c => ?_) (fun c => ?_)
  · skip
    have c_21 : r_18.toInt ≠ 63 := (by first | exact (cm_ne1 ti_63 c) | (have z := bn_ne c; have k1 : (63 : Int32).toInt = 63 := ti_63; omega))
    exact blk_35 f_5 _ _ _ (hs.trans ((if_neg c_21).trans rfl)) hI hF hP hS (lv_sub hl [0] rfl)
  · skip
    have c_22 : r_18.toInt = 63 := (by first | exact (cm_eq1 ti_63 c) | (have z := Int32.toInt_inj.mpr c; have k1 : (63 : Int32).toInt = 63 := ti_63; omega))
    refine lv_aload_n hx hb dX5_line_14 rfl (lv_at hl 0 rfl) ?_
    refine lv_dup hx hb dX5_line_15 rfl ?_
    refine sl_gX_4_6_5 (v := v_9) hx hb hts hown hK hP (show f_5 4 6 = v_9 from ev_9.symm) dX5_line_16 ?_
    refine lv_iconst (v := 1) hx hb dX5_line_19 ic_1 ?_
    refine lv_iadd hx hb dX5_line_20 ?_
    refine lv_topi (fun v_23 ev_23 => ?_)
    have q_24 : v_23.toInt = v_9.toInt + 1 := by rw [ev_23]; first | exact cm_add ti_1 (by omega) (by omega) | (have k1 : (1 : Int32).toInt = 1 := ti_1; exact (bn_addI (by omega) (by omega)).trans (by omega))
    refine sl_pX_4_6_5 (x := v_23) hx hb hts hown hh hA hK hP hS dX5_line_21 (fun f_25 H locs ef_25 hP hS => ?_)
    have hI : sgI loX hiX f_25 := by rw [ef_25]; exact sgI.put hI 4 6 (show 0 ≤ (v_23 : Int32).toInt ∧ (v_23 : Int32).toInt ≤ 120 from ⟨by omega, by omega⟩)
    have hF : sgK WkX5_line f f_25 := sgK.put hF ef_25 (by rfl)
    refine lv_aload_n hx hb dX5_line_24 rfl (lv_at hl 0 rfl) ?_
    refine lv_bipush (v := 63) hx hb dX5_line_25 bp_63 ?_
    refine sg_callv (va_runV (As := [.int 63]) (rest := []) ⟨hx, hb, hml, hown, hts⟩ (kX5_write l D ca za h hh f_25 L Q hI 63 H.size) (sl_c5_write_0_0_0_0_5 hts ⟨Nat.le_of_ble_eq_true rfl, Nat.le_of_ble_eq_true rfl⟩) (sl_vX_4 hA hK hP hS hZ) rfl rfl hl.1 rfl (lv_room (Nat.le_of_ble_eq_true rfl)) dX5_line_27 ⟨Nat.le_refl _, Nat.le_refl _⟩) hA hS (fun f_26 L_27 Q_28 H locs hq hP hS => ?_)
    obtain ⟨⟨hI, hk_f_26, eL9, eQ9⟩, u_29⟩ := hq
    rw [eL9, eQ9] at hP; clear eL9 eQ9
    have hF : sgK WkX5_line f f_26 := sgK.tr hF hk_f_26 (by decide +kernel)
    refine lv_aload_n hx hb dX5_line_30 rfl (lv_at hl 0 rfl) ?_
    refine lv_iconst (v := 0) hx hb dX5_line_31 ic_0 ?_
    refine sg_callv (va_runV (As := [.int 0]) (rest := []) ⟨hx, hb, hml, hown, hts⟩ (kX5_either_0 l D ca za h hh f_26 L Q hI H.size) (sl_c5_either_49_0_0_1091_5 hts ⟨Nat.le_of_ble_eq_true rfl, Nat.le_of_ble_eq_true rfl⟩) (sl_vX_4 hA hK hP hS hZ) rfl rfl hl.1 rfl (lv_room (Nat.le_of_ble_eq_true rfl)) dX5_line_32 ⟨Nat.le_refl _, Nat.le_refl _⟩) hA hS (fun f_30 L_31 Q_32 H locs hq hP hS => ?_)
    obtain ⟨⟨hI, hk_f_30, eL9, eQ9⟩, u_33⟩ := hq
    rw [eL9, eQ9] at hP; clear eL9 eQ9
    have hF : sgK WkX5_line f f_30 := sgK.tr hF hk_f_30 (by decide +kernel)
    exact blk_35 f_30 _ _ _ (hs.trans ((if_pos c_22).trans (spl_e ev_23 (spl_e ef_25 (spl_e u_29 (spl_e u_33 rfl)))))) hI hF hP hS (lv_sub hl [0] rfl)

abbrev WkX5_lines : List (Nat × Nat × Option Nat) := [(4, 4, some 6), (4, 4, some 7), (4, 4, some 8), (6, 6, none)]
set_option maxHeartbeats 4000000 in
set_option maxRecDepth 100000 in
theorem kX5_lines (l : Launch) (D : va_G) (ca : Nat → ClassId) (za h : Nat → Nat) (hh : sgH 52 h) (f : sg_F) (L : sg_L) (Q : sg_Q) (hI : sgI loX hiX f) (sz : Nat) : Met l yX5_lines gwX5_lines { frames := 51, cells := 0, slots := 0, locals := 1133 } (sgP D vwCl (tyX ca) 52 h (eX ca h) zcX za f L Q sz [.ref (h 4)]) (sgQv D vwCl 52 h (eX ca h) sz (fun f1 L1 Q1 => ((sgI loX hiX f1 ∧ sgK WkX5_lines f f1 ∧ L1 = L ∧ Q1 = Q) ∧ (f1) = sX5_lines f L))) 0 0 (sgA 52 h sz) := by
  refine sg_ofWv (cc := cX5_lines) (maxL := 2) RX5 (by decide) rfl rfl (Nat.le_of_ble_eq_true rfl) ?_
  intro p e s m below meth cd Qz ls hx hb hml hown hts hK hZ hP hS hl hret
  have hA := sgY.self (n := 52) (h := h) (sz := s.heap.size)
  have hl : lv_has ls 2 [(0, .ref (h 4))] := hl
  obtain ⟨H, hH⟩ : ∃ z : Heap, z = s.heap := ⟨_, rfl⟩
  obtain ⟨locs, hlo⟩ : ∃ z : List Loc, z = [] := ⟨_, rfl⟩
  have hP : va_P D vwCl (sgw 52 h (eX ca h) f L Q) H := by rw [hH]; exact hP
  have hS : va_S (sgA 52 h s.heap.size) s.heap H locs := by rw [hH, hlo]; exact hS
  suffices hgo : W p l e ({ frames := 51, cells := 0, slots := 0, locals := 1133 }) s m ([.ref (h 4)] : List Value).toArray below meth cd H locs 0 0 Qz (F0 m 0 ls []) by rw [hH, hlo] at hgo; exact hgo
  clear hH hlo
  obtain ⟨sp, hsp⟩ : ∃ z : sg_F, z = sX5_lines f L := ⟨_, rfl⟩
  have hs : sp = sX5_lines f L := hsp
  have hF : sgK WkX5_lines f f := sgK.rf
  have blk_41 : ∀ (fp_41 : sg_F) (H : Heap) (locs : List Loc) (ls : Array Slot), sp = sX5_lines_b41 fp_41 L → sgI loX hiX fp_41 → sgK WkX5_lines f fp_41 → va_P D vwCl (sgw 52 h (eX ca h) fp_41 L Q) H → va_S (sgA 52 h s.heap.size) s.heap H locs → lv_has ls 2 [(0, .ref (h 4))] → W p l e ({ frames := 51, cells := 0, slots := 0, locals := 1133 }) s m ([.ref (h 4)] : List Value).toArray below meth cd H locs 0 0 Qz (F0 m 41 ls []) := by
    intro fp_41 H locs ls hs hI hF hP hS hl
    refine lv_aload_n hx hb dX5_lines_41 rfl (lv_at hl 0 rfl) ?_
    refine sl_gX_4_6_5 (v := (fp_41 4 6)) hx hb hts hown hK hP rfl dX5_lines_42 ?_
    refine lv_topi (fun v_1 ev_1 => ?_)
    have q_2 : 0 ≤ v_1.toInt ∧ v_1.toInt ≤ 120 := by rw [ev_1]; exact hI 4 6
    refine lv_aload_n hx hb dX5_lines_45 rfl (lv_at hl 0 rfl) ?_
    refine sl_gX_4_1_5 (v := (fp_41 4 1)) hx hb hts hown hK hP rfl dX5_lines_46 ?_
    refine lv_topi (fun v_3 ev_3 => ?_)
    replace hs := hs.trans (spl_e ev_1 (spl_e ev_3 rfl))
    have q_4 : 0 ≤ v_3.toInt ∧ v_3.toInt ≤ 120 := by rw [ev_3]; exact hI 4 1
    refine lv_icmp_ge (tgt := 56) hx hb dX5_lines_49 (by decide) (fun c => ?_) (fun c => ?_)
    · skip
      have c_5 : v_3.toInt ≤ v_1.toInt := (by first | exact (bn_le c) | (have z := bn_le c; omega))
      exact hret _ _ _ _ fp_41 L Q dX5_lines_56 hP hS ⟨⟨hI, hF, rfl, rfl⟩, (Eq.trans (Eq.symm (hs.trans ((if_neg (Int.not_lt.mpr c_5)).trans rfl))) hsp)⟩
    · skip
      have c_6 : v_1.toInt < v_3.toInt := (by first | exact (bn_nle c) | (have z := bn_nle c; omega))
      refine lv_aload_n hx hb dX5_lines_52 rfl (lv_at hl 0 rfl) ?_
      refine sg_callv (va_runV (As := []) (rest := []) ⟨hx, hb, hml, hown, hts⟩ (kX5_fail l D ca za h hh fp_41 L Q hI H.size) (sl_c5_fail_0_0_0_0_5 hts ⟨Nat.le_of_ble_eq_true rfl, Nat.le_of_ble_eq_true rfl⟩) (sl_vX_4 hA hK hP hS hZ) rfl rfl hl.1 rfl (lv_room (Nat.le_of_ble_eq_true rfl)) dX5_lines_53 ⟨Nat.le_refl _, Nat.le_refl _⟩) hA hS (fun f_7 L_8 Q_9 H locs hq hP hS => ?_)
      obtain ⟨⟨hI, hk_f_7, eL9, eQ9⟩, u_10⟩ := hq
      rw [eL9, eQ9] at hP; clear eL9 eQ9
      have hF : sgK WkX5_lines f f_7 := sgK.tr hF hk_f_7 (by decide +kernel)
      exact hret _ _ _ _ f_7 L Q dX5_lines_56 hP hS ⟨⟨hI, hF, rfl, rfl⟩, (Eq.trans (Eq.symm (hs.trans ((if_pos c_6).trans (spl_e u_10 rfl)))) hsp)⟩
  have loop_6 : ∀ (n_6 : Nat) (y1_6 : Int32) (fp_6 : sg_F) (H : Heap) (locs : List Loc) (ls : Array Slot), sp = sX5_lines_l6 n_6 y1_6 fp_6 L → 120 - y1_6.toInt < (n_6 : Int) → 0 ≤ y1_6.toInt ∧ y1_6.toInt ≤ 120 → sgI loX hiX fp_6 → sgK WkX5_lines f fp_6 → va_P D vwCl (sgw 52 h (eX ca h) fp_6 L Q) H → va_S (sgA 52 h s.heap.size) s.heap H locs → lv_has ls 2 [(0, .ref (h 4)), (1, .int y1_6)] → W p l e ({ frames := 51, cells := 0, slots := 0, locals := 1133 }) s m ([.ref (h 4)] : List Value).toArray below meth cd H locs 0 0 Qz (F0 m 6 ls []) := by
    intro n_6
    induction n_6 with
    | zero => intro y1_6 fp_6 H locs ls hs hm_6 hy0_6 hI hF hP hS hl; exact absurd hm_6 (by omega)
    | succ n_6 ih_6 =>
      intro y1_6 fp_6 H locs ls hs hm_6 hy0_6 hI hF hP hS hl
      have hs : sp = sX5_lines_h6 (sX5_lines_l6 n_6) y1_6 fp_6 L := hs
      refine lv_iload_n hx hb dX5_lines_6 rfl (lv_at hl 1 rfl) ?_
      refine lv_bipush (v := 120) hx hb dX5_lines_7 bp_120 ?_
      refine lv_icmp_ge (tgt := 41) hx hb dX5_lines_9 (by decide) (fun c => ?_) (fun c => ?_)
      · skip
        have c_11 : 120 ≤ y1_6.toInt := (by first | exact (cm_le0 ti_120 c) | (have z := bn_le c; have k1 : (120 : Int32).toInt = 120 := ti_120; omega))
        exact blk_41 fp_6 _ _ _ (hs.trans (((if_neg (Int.not_lt.mpr c_11)).trans rfl))) hI hF hP hS (lv_sub hl [0] rfl)
      · skip
        have c_12 : y1_6.toInt < 120 := (by first | exact (cm_nle0 ti_120 c) | (have z := bn_nle c; have k1 : (120 : Int32).toInt = 120 := ti_120; omega))
        refine lv_aload_n hx hb dX5_lines_12 rfl (lv_at hl 0 rfl) ?_
        obtain ⟨v_13, ev_13⟩ : ∃ z : Int32, z = fp_6 4 6 := ⟨_, rfl⟩
        have q_14 : 0 ≤ v_13.toInt ∧ v_13.toInt ≤ 120 := by rw [ev_13]; exact hI 4 6
        have q_15 : (fp_6 4 6).toInt = v_13.toInt := (congrArg Int32.toInt (show fp_6 4 6 = v_13 from ev_13.symm))
        obtain ⟨v_16, ev_16⟩ : ∃ z : Int32, z = fp_6 4 1 := ⟨_, rfl⟩
        have q_17 : 0 ≤ v_16.toInt ∧ v_16.toInt ≤ 120 := by rw [ev_16]; exact hI 4 1
        have q_18 : (fp_6 4 1).toInt = v_16.toInt := (congrArg Int32.toInt (show fp_6 4 1 = v_16 from ev_16.symm))
        refine sg_calli (va_runV (As := []) (rest := []) ⟨hx, hb, hml, hown, hts⟩ (kX5_next l D ca za h hh fp_6 L Q hI H.size) (sl_c5_next_0_0_0_0_5 hts ⟨Nat.le_of_ble_eq_true rfl, Nat.le_of_ble_eq_true rfl⟩) (sl_vX_4 hA hK hP hS hZ) rfl rfl hl.1 rfl (lv_room (Nat.le_of_ble_eq_true rfl)) dX5_lines_13 ⟨Nat.le_refl _, Nat.le_refl _⟩) hA hS (fun r_22 f_19 L_20 Q_21 H locs hq hP hS => ?_)
        obtain ⟨⟨ef9, eL9, eQ9⟩, hq, p_23, u_24⟩ := hq
        replace hs := hs.trans ((if_pos c_12).trans (spl_e ev_13 (spl_e ev_16 (spl_e u_24 rfl))))
        rw [ef9, eL9, eQ9] at hP; clear ef9 eL9 eQ9
        refine lv_bipush (v := 59) hx hb dX5_lines_16 bp_59 ?_
        refine lv_icmp_ne (tgt := 41) hx hb dX5_lines_18 (by decide) (fun c => ?_) (fun c => ?_)
        · skip
          have c_25 : r_22.toInt ≠ 59 := (by first | exact (cm_ne1 ti_59 c) | (have z := bn_ne c; have k1 : (59 : Int32).toInt = 59 := ti_59; omega))
          exact blk_41 fp_6 _ _ _ (hs.trans ((if_neg c_25).trans rfl)) hI hF hP hS (lv_sub hl [0] rfl)
        · skip
          have c_26 : r_22.toInt = 59 := (by first | exact (cm_eq1 ti_59 c) | (have z := Int32.toInt_inj.mpr c; have k1 : (59 : Int32).toInt = 59 := ti_59; omega))
          refine lv_aload_n hx hb dX5_lines_21 rfl (lv_at hl 0 rfl) ?_
          refine lv_dup hx hb dX5_lines_22 rfl ?_
          refine sl_gX_4_6_5 (v := v_13) hx hb hts hown hK hP (show fp_6 4 6 = v_13 from ev_13.symm) dX5_lines_23 ?_
          refine lv_iconst (v := 1) hx hb dX5_lines_26 ic_1 ?_
          refine lv_iadd hx hb dX5_lines_27 ?_
          refine lv_topi (fun v_27 ev_27 => ?_)
          have q_28 : v_27.toInt = v_13.toInt + 1 := by rw [ev_27]; first | exact cm_add ti_1 (by omega) (by omega) | (have k1 : (1 : Int32).toInt = 1 := ti_1; exact (bn_addI (by omega) (by omega)).trans (by omega))
          refine sl_pX_4_6_5 (x := v_27) hx hb hts hown hh hA hK hP hS dX5_lines_28 (fun f_29 H locs ef_29 hP hS => ?_)
          have hI : sgI loX hiX f_29 := by rw [ef_29]; exact sgI.put hI 4 6 (show 0 ≤ (v_27 : Int32).toInt ∧ (v_27 : Int32).toInt ≤ 120 from ⟨by omega, by omega⟩)
          have hF : sgK WkX5_lines f f_29 := sgK.put hF ef_29 (by rfl)
          refine lv_aload_n hx hb dX5_lines_31 rfl (lv_at hl 0 rfl) ?_
          refine sg_callv (va_runV (As := []) (rest := []) ⟨hx, hb, hml, hown, hts⟩ (kX5_line l D ca za h hh f_29 L Q hI H.size) (sl_c5_line_50_0_0_1113_5 hts ⟨Nat.le_of_ble_eq_true rfl, Nat.le_of_ble_eq_true rfl⟩) (sl_vX_4 hA hK hP hS hZ) rfl rfl hl.1 rfl (lv_room (Nat.le_of_ble_eq_true rfl)) dX5_lines_32 ⟨Nat.le_refl _, Nat.le_refl _⟩) hA hS (fun f_30 L_31 Q_32 H locs hq hP hS => ?_)
          obtain ⟨⟨hI, hk_f_30, eL9, eQ9⟩, u_33⟩ := hq
          rw [eL9, eQ9] at hP; clear eL9 eQ9
          have hF : sgK WkX5_lines f f_30 := sgK.tr hF hk_f_30 (by decide +kernel)
          obtain ⟨v_34, ev_34⟩ : ∃ z : Int32, z = y1_6 + 1 := ⟨_, rfl⟩
          have q_35 : v_34.toInt = y1_6.toInt + 1 := by rw [ev_34]; exact (bn_addc y1_6 1 (by decide) (by omega) (by omega))
          refine lv_iinc (v := v_34) (lv' := [(1, .int v_34), (0, .ref (h 4))]) hx hb dX5_lines_35 hl (k := 1) rfl (by rw [ev_34]; rfl) (by decide) rfl (fun ls hl => ?_)
          refine lv_goto (tgt := 6) hx hb dX5_lines_38 (by decide) ?_
          exact ih_6 v_34 f_30 _ _ _ (hs.trans ((if_pos c_26).trans (spl_e ev_27 (spl_e ef_29 (spl_e u_33 (spl_e ev_34 rfl)))))) (by omega) ⟨by omega, by omega⟩ hI hF hP hS (lv_sub hl [1, 0] rfl)
  refine lv_aload_n hx hb dX5_lines_0 rfl (lv_at hl 0 rfl) ?_
  refine sg_callv (va_runV (As := []) (rest := []) ⟨hx, hb, hml, hown, hts⟩ (kX5_line l D ca za h hh f L Q hI H.size) (sl_c5_line_50_0_0_1113_5 hts ⟨Nat.le_of_ble_eq_true rfl, Nat.le_of_ble_eq_true rfl⟩) (sl_vX_4 hA hK hP hS hZ) rfl rfl hl.1 rfl (lv_room (Nat.le_of_ble_eq_true rfl)) dX5_lines_1 ⟨Nat.le_refl _, Nat.le_refl _⟩) hA hS (fun f_36 L_37 Q_38 H locs hq hP hS => ?_)
  obtain ⟨⟨hI, hk_f_36, eL9, eQ9⟩, u_39⟩ := hq
  rw [eL9, eQ9] at hP; clear eL9 eQ9
  have hF : sgK WkX5_lines f f_36 := sgK.tr hF hk_f_36 (by decide +kernel)
  refine lv_iconst (v := 0) hx hb dX5_lines_4 ic_0 ?_
  refine lv_istore_n (lv' := [(1, .int 0), (0, .ref (h 4))]) hx hb dX5_lines_5 rfl hl (by decide) rfl (fun ls hl => ?_)
  exact loop_6 121 0 f_36 _ _ _ (hs.trans ((spl_e u_39 rfl))) (by have kc0 : (0 : Int32).toInt = 0 := ti_0; omega) (by decide) hI hF hP hS (lv_sub hl [1, 0] rfl)

abbrev WkX5_isRead : List (Nat × Nat × Option Nat) := [(4, 4, some 1), (4, 4, some 2), (4, 4, some 6), (4, 4, some 7), (4, 4, some 8), (4, 4, some 9), (6, 6, none), (7, 7, none)]
set_option maxHeartbeats 4000000 in
set_option maxRecDepth 100000 in
theorem kX5_isRead (l : Launch) (D : va_G) (ca : Nat → ClassId) (za h : Nat → Nat) (hh : sgH 52 h) (f : sg_F) (L : sg_L) (Q : sg_Q) (hI : sgI loX hiX f) (sz : Nat) : Met l yX5_isRead gwX5_isRead { frames := 52, cells := 0, slots := 0, locals := 1154 } (sgP D vwCl (tyX ca) 52 h (eX ca h) zcX za f L Q sz [.ref (h 4)]) (sgQi D vwCl 52 h (eX ca h) sz (fun r f1 L1 Q1 => ((sgI loX hiX f1 ∧ sgK WkX5_isRead f f1 ∧ L1 = L ∧ Q1 = Q) ∧ ((-220) ≤ r.toInt ∧ r.toInt ≤ 1) ∧ (r, f1) = sX5_isRead f L))) 0 0 (sgA 52 h sz) := by
  refine sg_ofWi (cc := cX5_isRead) (maxL := 1) RX5 (by decide) rfl rfl (Nat.le_of_ble_eq_true rfl) ?_
  intro p e s m below meth cd Qz ls hx hb hml hown hts hK hZ hP hS hl hret
  have hA := sgY.self (n := 52) (h := h) (sz := s.heap.size)
  have hl : lv_has ls 1 [(0, .ref (h 4))] := hl
  obtain ⟨H, hH⟩ : ∃ z : Heap, z = s.heap := ⟨_, rfl⟩
  obtain ⟨locs, hlo⟩ : ∃ z : List Loc, z = [] := ⟨_, rfl⟩
  have hP : va_P D vwCl (sgw 52 h (eX ca h) f L Q) H := by rw [hH]; exact hP
  have hS : va_S (sgA 52 h s.heap.size) s.heap H locs := by rw [hH, hlo]; exact hS
  suffices hgo : W p l e ({ frames := 52, cells := 0, slots := 0, locals := 1154 }) s m ([.ref (h 4)] : List Value).toArray below meth cd H locs 0 0 Qz (F0 m 0 ls []) by rw [hH, hlo] at hgo; exact hgo
  clear hH hlo
  obtain ⟨sp, hsp⟩ : ∃ z : Int32 × sg_F, z = sX5_isRead f L := ⟨_, rfl⟩
  have hs : sp = sX5_isRead f L := hsp
  have hF : sgK WkX5_isRead f f := sgK.rf
  refine lv_aload_n hx hb dX5_isRead_0 rfl (lv_at hl 0 rfl) ?_
  refine lv_iconst (v := 0) hx hb dX5_isRead_1 ic_0 ?_
  refine sl_pX_4_6_5 (x := 0) hx hb hts hown hh hA hK hP hS dX5_isRead_2 (fun f_1 H locs ef_1 hP hS => ?_)
  have hI : sgI loX hiX f_1 := by rw [ef_1]; exact sgI.put hI 4 6 (show 0 ≤ (0 : Int32).toInt ∧ (0 : Int32).toInt ≤ 120 from by decide)
  have hF : sgK WkX5_isRead f f_1 := sgK.put hF ef_1 (by rfl)
  refine lv_aload_n hx hb dX5_isRead_5 rfl (lv_at hl 0 rfl) ?_
  refine lv_iconst (v := (-1)) hx hb dX5_isRead_6 ic_m1 ?_
  refine sl_pX_4_7_5 (x := (-1)) hx hb hts hown hh hA hK hP hS dX5_isRead_7 (fun f_2 H locs ef_2 hP hS => ?_)
  have hI : sgI loX hiX f_2 := by rw [ef_2]; exact sgI.put hI 4 7 (show (-1) ≤ ((-1) : Int32).toInt ∧ ((-1) : Int32).toInt ≤ 120 from by decide)
  have hF : sgK WkX5_isRead f f_2 := sgK.put hF ef_2 (by rfl)
  refine lv_aload_n hx hb dX5_isRead_10 rfl (lv_at hl 0 rfl) ?_
  refine lv_iconst (v := 0) hx hb dX5_isRead_11 ic_0 ?_
  refine sl_pX_4_8_5 (x := 0) hx hb hts hown hh hA hK hP hS dX5_isRead_12 (fun f_3 H locs ef_3 hP hS => ?_)
  have hI : sgI loX hiX f_3 := by rw [ef_3]; exact sgI.put hI 4 8 (show 0 ≤ (0 : Int32).toInt ∧ (0 : Int32).toInt ≤ 121 from by decide)
  have hF : sgK WkX5_isRead f f_3 := sgK.put hF ef_3 (by rfl)
  refine lv_aload_n hx hb dX5_isRead_15 rfl (lv_at hl 0 rfl) ?_
  refine sg_callv (va_runV (As := []) (rest := []) ⟨hx, hb, hml, hown, hts⟩ (kX5_lines l D ca za h hh f_3 L Q hI H.size) (sl_c5_lines_51_0_0_1133_5 hts ⟨Nat.le_of_ble_eq_true rfl, Nat.le_of_ble_eq_true rfl⟩) (sl_vX_4 hA hK hP hS hZ) rfl rfl hl.1 rfl (lv_room (Nat.le_of_ble_eq_true rfl)) dX5_isRead_16 ⟨Nat.le_refl _, Nat.le_refl _⟩) hA hS (fun f_4 L_5 Q_6 H locs hq hP hS => ?_)
  obtain ⟨⟨hI, hk_f_4, eL9, eQ9⟩, u_7⟩ := hq
  rw [eL9, eQ9] at hP; clear eL9 eQ9
  have hF : sgK WkX5_isRead f f_4 := sgK.tr hF hk_f_4 (by decide +kernel)
  refine lv_aload_n hx hb dX5_isRead_19 rfl (lv_at hl 0 rfl) ?_
  refine lv_iconst (v := 0) hx hb dX5_isRead_20 ic_0 ?_
  refine sl_pX_4_1_5 (x := 0) hx hb hts hown hh hA hK hP hS dX5_isRead_21 (fun f_8 H locs ef_8 hP hS => ?_)
  have hI : sgI loX hiX f_8 := by rw [ef_8]; exact sgI.put hI 4 1 (show 0 ≤ (0 : Int32).toInt ∧ (0 : Int32).toInt ≤ 120 from by decide)
  have hF : sgK WkX5_isRead f f_8 := sgK.put hF ef_8 (by rfl)
  refine lv_aload_n hx hb dX5_isRead_24 rfl (lv_at hl 0 rfl) ?_
  refine sl_gX_4_7_5 (v := (f_8 4 7)) hx hb hts hown hK hP rfl dX5_isRead_25 ?_
  refine lv_topi (fun v_9 ev_9 => ?_)
  replace hs := hs.trans (spl_e ef_1 (spl_e ef_2 (spl_e ef_3 (spl_e u_7 (spl_e ef_8 (spl_e ev_9 rfl))))))
  have q_10 : (-1) ≤ v_9.toInt ∧ v_9.toInt ≤ 120 := by rw [ev_9]; exact hI 4 7
  refine lv_if_lt (tgt := 39) hx hb dX5_isRead_28 (by decide) (fun c => ?_) (fun c => ?_)
  · skip
    have c_11 : v_9.toInt < 0 := (by first | exact (cm_lt1 ti_0 c) | (have z := bn_lt c; have k1 : (0 : Int32).toInt = 0 := ti_0; omega))
    refine lv_aload_n hx hb dX5_isRead_39 rfl (lv_at hl 0 rfl) ?_
    refine sl_gX_4_3_5 hx hb hts hown hK hP dX5_isRead_40 ?_
    refine lv_iconst (v := 0) hx hb dX5_isRead_43 ic_0 ?_
    refine lv_aload_n hx hb dX5_isRead_44 rfl (lv_at hl 0 rfl) ?_
    refine sl_gX_4_4_5 hx hb hts hown hK hP dX5_isRead_45 ?_
    refine lv_iconst (v := 0) hx hb dX5_isRead_48 ic_0 ?_
    refine lv_aload_n hx hb dX5_isRead_49 rfl (lv_at hl 0 rfl) ?_
    refine sl_gX_4_8_5 (v := (f_8 4 8)) hx hb hts hown hK hP rfl dX5_isRead_50 ?_
    refine lv_topi (fun v_13 ev_13 => ?_)
    have q_14 : 0 ≤ v_13.toInt ∧ v_13.toInt ≤ 121 := by rw [ev_13]; exact hI 4 8
    refine sg_copyi hx hb (hml.trans hl.1.symm) hown (hts _ (List.mem_cons_of_mem _ mw_560)) (hts _ (List.mem_cons_of_mem _ mw_22)) (hts _ (List.mem_cons_of_mem _ mw_23)) (hts _ (List.mem_cons_of_mem _ mw_24)) hh hA hK hP hS 6 7 (by decide) (by decide) 0 0 rfl (fun _ => rfl) rfl rfl (sp := 0) (dp := 0) (nn := v_13) (by decide) (by decide) (bn_n0 (by omega)) (bn_cp0 (by omega) (by omega)) (bn_cp0 (by omega) (by omega)) (Nat.le_of_ble_eq_true rfl) (Nat.le_of_ble_eq_true rfl) dX5_isRead_53 (fun f_15 H locs ef_15 hP hS => ?_)
    have hI : sgI loX hiX f_15 := by rw [ef_15]; exact sgI.cpy hI 6 7 (fun _ _ => ⟨by show ((-2147483648) : Int) ≤ (-2147483648); decide, by show (2147483647 : Int) ≤ 2147483647; decide⟩)
    have hF : sgK WkX5_isRead f f_15 := sgK.row hF ef_15 (fun _ => by rfl)
    refine lv_aload_n hx hb dX5_isRead_56 rfl (lv_at hl 0 rfl) ?_
    refine lv_aload_n hx hb dX5_isRead_57 rfl (lv_at hl 0 rfl) ?_
    refine sl_gX_4_8_5 (v := v_13) hx hb hts hown hK hP (show f_15 4 8 = v_13 from (by rw [ef_15, sg_up_n (by decide)]; exact ev_13.symm)) dX5_isRead_58 ?_
    refine sl_pX_4_9_5 (x := v_13) hx hb hts hown hh hA hK hP hS dX5_isRead_61 (fun f_16 H locs ef_16 hP hS => ?_)
    have hI : sgI loX hiX f_16 := by rw [ef_16]; exact sgI.put hI 4 9 (show 0 ≤ (v_13 : Int32).toInt ∧ (v_13 : Int32).toInt ≤ 121 from q_14)
    have hF : sgK WkX5_isRead f f_16 := sgK.put hF ef_16 (by rfl)
    refine lv_aload_n hx hb dX5_isRead_64 rfl (lv_at hl 0 rfl) ?_
    refine lv_iconst (v := 1) hx hb dX5_isRead_65 ic_1 ?_
    refine sg_put (ci := 5) (x := 1) (ty := .boolean) (C := RX5) (T := TX5) (N := 10) hx hb hts (fun w h => List.mem_cons_of_mem _ (gx_5 w h)) tyX5 tyX5_ok nmX5 hown hh hA hK hP hS 4 (by decide) rfl rfl 2 (by decide) (hts _ (List.mem_cons_of_mem _ mw_562)) (fun _ h9 => h9) rfl rfl (by decide +kernel) (by decide) (by decide) (Nat.le_of_ble_eq_true rfl) dX5_isRead_66 (fun f_17 H locs ef_17 hP hS => ?_)
    have hI : sgI loX hiX f_17 := by rw [ef_17]; exact sgI.put hI 4 2 (show 0 ≤ (1 : Int32).toInt ∧ (1 : Int32).toInt ≤ 1 from by decide)
    have hF : sgK WkX5_isRead f f_17 := sgK.put hF ef_17 (by rfl)
    refine lv_iconst (v := 1) hx hb dX5_isRead_69 ic_1 ?_
    have k99 : (1 : Int32).toInt = 1 := ti_1
    exact hret _ _ _ _ (1) f_17 L Q dX5_isRead_70 hP hS ⟨⟨hI, hF, rfl, rfl⟩, (by decide), (Eq.trans (Eq.symm (hs.trans ((if_pos c_11).trans (spl_e ev_13 (spl_e ef_15 (spl_e ef_16 (spl_e ef_17 rfl))))))) hsp)⟩
  · skip
    have c_12 : 0 ≤ v_9.toInt := (by first | exact (cm_nlt1 ti_0 c) | (have z := bn_nlt c; have k1 : (0 : Int32).toInt = 0 := ti_0; omega))
    refine lv_bipush (v := (-100)) hx hb dX5_isRead_31 bp_m100 ?_
    refine lv_aload_n hx hb dX5_isRead_33 rfl (lv_at hl 0 rfl) ?_
    refine sl_gX_4_7_5 (v := v_9) hx hb hts hown hK hP (show f_8 4 7 = v_9 from ev_9.symm) dX5_isRead_34 ?_
    refine lv_isub hx hb dX5_isRead_37 ?_
    refine lv_topi (fun v_18 ev_18 => ?_)
    have q_19 : v_18.toInt = (-100) - v_9.toInt := by rw [ev_18]; have k0 : ((-100) : Int32).toInt = (-100) := ti_m100; exact (bn_subI (by omega) (by omega)).trans (by omega)
    exact hret _ _ _ _ (v_18) f_8 L Q dX5_isRead_38 hP hS ⟨⟨hI, hF, rfl, rfl⟩, ⟨by omega, by omega⟩, (Eq.trans (Eq.symm (hs.trans ((if_neg (Int.not_lt.mpr c_12)).trans (spl_e ev_18 rfl)))) hsp)⟩

abbrev WkX0_forgetAll : List (Nat × Nat × Option Nat) := [(9, 9, none)]
set_option maxHeartbeats 4000000 in
set_option maxRecDepth 100000 in
theorem kX0_forgetAll (l : Launch) (D : va_G) (ca : Nat → ClassId) (za h : Nat → Nat) (hh : sgH 52 h) (f : sg_F) (L : sg_L) (Q : sg_Q) (hI : sgI loX hiX f) (sz : Nat) : Met l yX0_forgetAll gwX0_forgetAll { frames := 1, cells := 0, slots := 0, locals := 23 } (sgP D vwCl (tyX ca) 52 h (eX ca h) zcX za f L Q sz [.ref (h 1)]) (sgQv D vwCl 52 h (eX ca h) sz (fun f1 L1 Q1 => ((sgI loX hiX f1 ∧ sgK WkX0_forgetAll f f1 ∧ L1 = L ∧ Q1 = Q) ∧ (f1) = sX0_forgetAll f L))) 0 0 (sgA 52 h sz) := by
  refine sg_ofWv (cc := cX0_forgetAll) (maxL := 2) RX0 (by decide) rfl rfl (Nat.le_of_ble_eq_true rfl) ?_
  intro p e s m below meth cd Qz ls hx hb hml hown hts hK hZ hP hS hl hret
  have hA := sgY.self (n := 52) (h := h) (sz := s.heap.size)
  have hl : lv_has ls 2 [(0, .ref (h 1))] := hl
  obtain ⟨H, hH⟩ : ∃ z : Heap, z = s.heap := ⟨_, rfl⟩
  obtain ⟨locs, hlo⟩ : ∃ z : List Loc, z = [] := ⟨_, rfl⟩
  have hP : va_P D vwCl (sgw 52 h (eX ca h) f L Q) H := by rw [hH]; exact hP
  have hS : va_S (sgA 52 h s.heap.size) s.heap H locs := by rw [hH, hlo]; exact hS
  suffices hgo : W p l e ({ frames := 1, cells := 0, slots := 0, locals := 23 }) s m ([.ref (h 1)] : List Value).toArray below meth cd H locs 0 0 Qz (F0 m 0 ls []) by rw [hH, hlo] at hgo; exact hgo
  clear hH hlo
  obtain ⟨sp, hsp⟩ : ∃ z : sg_F, z = sX0_forgetAll f L := ⟨_, rfl⟩
  have hs : sp = sX0_forgetAll f L := hsp
  have hF : sgK WkX0_forgetAll f f := sgK.rf
  have loop_2 : ∀ (n_2 : Nat) (y1_2 : Int32) (fp_2 : sg_F) (H : Heap) (locs : List Loc) (ls : Array Slot), sp = sX0_forgetAll_l2 n_2 y1_2 fp_2 L → 8 - y1_2.toInt < (n_2 : Int) → 0 ≤ y1_2.toInt ∧ y1_2.toInt ≤ 8 → sgI loX hiX fp_2 → sgK WkX0_forgetAll f fp_2 → va_P D vwCl (sgw 52 h (eX ca h) fp_2 L Q) H → va_S (sgA 52 h s.heap.size) s.heap H locs → lv_has ls 2 [(0, .ref (h 1)), (1, .int y1_2)] → W p l e ({ frames := 1, cells := 0, slots := 0, locals := 23 }) s m ([.ref (h 1)] : List Value).toArray below meth cd H locs 0 0 Qz (F0 m 2 ls []) := by
    intro n_2
    induction n_2 with
    | zero => intro y1_2 fp_2 H locs ls hs hm_2 hy0_2 hI hF hP hS hl; exact absurd hm_2 (by omega)
    | succ n_2 ih_2 =>
      intro y1_2 fp_2 H locs ls hs hm_2 hy0_2 hI hF hP hS hl
      have hs : sp = sX0_forgetAll_h2 (sX0_forgetAll_l2 n_2) y1_2 fp_2 L := hs
      refine lv_iload_n hx hb dX0_forgetAll_2 rfl (lv_at hl 1 rfl) ?_
      refine lv_bipush (v := 8) hx hb dX0_forgetAll_3 bp_8 ?_
      refine lv_icmp_ge (tgt := 19) hx hb dX0_forgetAll_5 (by decide) (fun c => ?_) (fun c => ?_)
      · skip
        have c_1 : 8 ≤ y1_2.toInt := (by first | exact (cm_le0 ti_8 c) | (have z := bn_le c; have k1 : (8 : Int32).toInt = 8 := ti_8; omega))
        exact hret _ _ _ _ fp_2 L Q dX0_forgetAll_19 hP hS ⟨⟨hI, hF, rfl, rfl⟩, (Eq.trans (Eq.symm (hs.trans (((if_neg (Int.not_lt.mpr c_1)).trans rfl)))) hsp)⟩
      · skip
        have c_2 : y1_2.toInt < 8 := (by first | exact (cm_nle0 ti_8 c) | (have z := bn_nle c; have k1 : (8 : Int32).toInt = 8 := ti_8; omega))
        refine lv_aload_n hx hb dX0_forgetAll_8 rfl (lv_at hl 0 rfl) ?_
        refine lv_iload_n hx hb dX0_forgetAll_9 rfl (lv_at hl 1 rfl) ?_
        refine sg_callv (va_runV (As := [.int y1_2]) (rest := []) ⟨hx, hb, hml, hown, hts⟩ (kX0_forget l D ca za h hh fp_2 L Q hI y1_2 ⟨by omega, by omega⟩ H.size) (sl_c0_forget_0_0_0_0_0 hts ⟨Nat.le_of_ble_eq_true rfl, Nat.le_of_ble_eq_true rfl⟩) (sl_vX_1 hA hK hP hS hZ) rfl rfl hl.1 rfl (lv_room (Nat.le_of_ble_eq_true rfl)) dX0_forgetAll_10 ⟨Nat.le_refl _, Nat.le_refl _⟩) hA hS (fun f_3 L_4 Q_5 H locs hq hP hS => ?_)
        obtain ⟨⟨hI, hk_f_3, eL9, eQ9⟩, u_6⟩ := hq
        rw [eL9, eQ9] at hP; clear eL9 eQ9
        have hF : sgK WkX0_forgetAll f f_3 := sgK.tr hF hk_f_3 (by decide +kernel)
        obtain ⟨v_7, ev_7⟩ : ∃ z : Int32, z = y1_2 + 1 := ⟨_, rfl⟩
        have q_8 : v_7.toInt = y1_2.toInt + 1 := by rw [ev_7]; exact (bn_addc y1_2 1 (by decide) (by omega) (by omega))
        refine lv_iinc (v := v_7) (lv' := [(1, .int v_7), (0, .ref (h 1))]) hx hb dX0_forgetAll_13 hl (k := 1) rfl (by rw [ev_7]; rfl) (by decide) rfl (fun ls hl => ?_)
        refine lv_goto (tgt := 2) hx hb dX0_forgetAll_16 (by decide) ?_
        exact ih_2 v_7 f_3 _ _ _ (hs.trans (((if_pos c_2).trans (spl_e u_6 (spl_e ev_7 rfl))))) (by omega) ⟨by omega, by omega⟩ hI hF hP hS (lv_sub hl [1, 0] rfl)
  refine lv_iconst (v := 0) hx hb dX0_forgetAll_0 ic_0 ?_
  refine lv_istore_n (lv' := [(1, .int 0), (0, .ref (h 1))]) hx hb dX0_forgetAll_1 rfl hl (by decide) rfl (fun ls hl => ?_)
  exact loop_2 9 0 f _ _ _ hs (by have kc0 : (0 : Int32).toInt = 0 := ti_0; omega) (by decide) hI hF hP hS (lv_sub hl [1, 0] rfl)

abbrev WkX11_law : List (Nat × Nat × Option Nat) := [(4, 4, some 1), (4, 4, some 2), (4, 4, some 6), (4, 4, some 7), (4, 4, some 8), (4, 4, some 9), (6, 6, none), (7, 7, none), (9, 9, none)]
set_option maxHeartbeats 4000000 in
set_option maxRecDepth 100000 in
theorem kX11_law (l : Launch) (D : va_G) (ca : Nat → ClassId) (za h : Nat → Nat) (hh : sgH 52 h) (f : sg_F) (L : sg_L) (Q : sg_Q) (hI : sgI loX hiX f) (sz : Nat) : Met l yX11_law gwX11_law { frames := 53, cells := 0, slots := 0, locals := 1174 } (sgP D vwCl (tyX ca) 52 h (eX ca h) zcX za f L Q sz [.ref (h 0)]) (sgQi D vwCl 52 h (eX ca h) sz (fun r f1 L1 Q1 => ((sgI loX hiX f1 ∧ sgK WkX11_law f f1 ∧ L1 = L ∧ Q1 = Q) ∧ ((-220) ≤ r.toInt ∧ r.toInt ≤ 1) ∧ (r, f1) = sX11_law f L))) 0 0 (sgA 52 h sz) := by
  refine sg_ofWi (cc := cX11_law) (maxL := 2) RX11 (by decide) rfl rfl (Nat.le_of_ble_eq_true rfl) ?_
  intro p e s m below meth cd Qz ls hx hb hml hown hts hK hZ hP hS hl hret
  have hA := sgY.self (n := 52) (h := h) (sz := s.heap.size)
  have hl : lv_has ls 2 [(0, .ref (h 0))] := hl
  obtain ⟨H, hH⟩ : ∃ z : Heap, z = s.heap := ⟨_, rfl⟩
  obtain ⟨locs, hlo⟩ : ∃ z : List Loc, z = [] := ⟨_, rfl⟩
  have hP : va_P D vwCl (sgw 52 h (eX ca h) f L Q) H := by rw [hH]; exact hP
  have hS : va_S (sgA 52 h s.heap.size) s.heap H locs := by rw [hH, hlo]; exact hS
  suffices hgo : W p l e ({ frames := 53, cells := 0, slots := 0, locals := 1174 }) s m ([.ref (h 0)] : List Value).toArray below meth cd H locs 0 0 Qz (F0 m 0 ls []) by rw [hH, hlo] at hgo; exact hgo
  clear hH hlo
  obtain ⟨sp, hsp⟩ : ∃ z : Int32 × sg_F, z = sX11_law f L := ⟨_, rfl⟩
  have hs : sp = sX11_law f L := hsp
  have hF : sgK WkX11_law f f := sgK.rf
  refine lv_aload_n hx hb dX11_law_0 rfl (lv_at hl 0 rfl) ?_
  refine sl_gX_0_0_11 hx hb hts hown hK hP dX11_law_1 ?_
  refine sl_gX_1_2_11 hx hb hts hown hK hP dX11_law_4 ?_
  refine sg_calli (va_runV (As := []) (rest := []) ⟨hx, hb, hml, hown, hts⟩ (kX5_isRead l D ca za h hh f L Q hI H.size) (sl_c5_isRead_52_0_0_1154_11 hts ⟨Nat.le_of_ble_eq_true rfl, Nat.le_of_ble_eq_true rfl⟩) (sl_vX_4 hA hK hP hS hZ) rfl rfl hl.1 rfl (lv_room (Nat.le_of_ble_eq_true rfl)) dX11_law_7 ⟨Nat.le_refl _, Nat.le_refl _⟩) hA hS (fun r_4 f_1 L_2 Q_3 H locs hq hP hS => ?_)
  obtain ⟨⟨hI, hk_f_1, eL9, eQ9⟩, hq, u_5⟩ := hq
  replace hs := hs.trans (spl2_e u_5 rfl)
  rw [eL9, eQ9] at hP; clear eL9 eQ9
  have hF : sgK WkX11_law f f_1 := sgK.tr hF hk_f_1 (by decide +kernel)
  refine lv_istore_n (lv' := [(1, .int r_4), (0, .ref (h 0))]) hx hb dX11_law_10 rfl hl (by decide) rfl (fun ls hl => ?_)
  refine lv_iload_n hx hb dX11_law_11 rfl (lv_at hl 0 rfl) ?_
  refine lv_iconst (v := 1) hx hb dX11_law_12 ic_1 ?_
  refine lv_icmp_ne (tgt := 23) hx hb dX11_law_13 (by decide) (fun c => ?_) (fun c => ?_)
  · skip
    have c_6 : r_4.toInt ≠ 1 := (by first | exact (cm_ne1 ti_1 c) | (have z := bn_ne c; have k1 : (1 : Int32).toInt = 1 := ti_1; omega))
    refine lv_iload_n hx hb dX11_law_23 rfl (lv_at hl 0 rfl) ?_
    exact hret _ _ _ _ (r_4) f_1 L Q dX11_law_24 hP hS ⟨⟨hI, hF, rfl, rfl⟩, ⟨by omega, by omega⟩, (Eq.trans (Eq.symm (hs.trans ((if_neg c_6).trans rfl))) hsp)⟩
  · skip
    have c_7 : r_4.toInt = 1 := (by first | exact (cm_eq1 ti_1 c) | (have z := Int32.toInt_inj.mpr c; have k1 : (1 : Int32).toInt = 1 := ti_1; omega))
    refine lv_aload_n hx hb dX11_law_16 rfl (lv_at hl 1 rfl) ?_
    refine sl_gX_0_0_11 hx hb hts hown hK hP dX11_law_17 ?_
    refine sg_callv (va_runV (As := []) (rest := []) ⟨hx, hb, hml, hown, hts⟩ (kX0_forgetAll l D ca za h hh f_1 L Q hI H.size) (sl_c0_forgetAll_1_0_0_23_11 hts ⟨Nat.le_of_ble_eq_true rfl, Nat.le_of_ble_eq_true rfl⟩) (sl_vX_1 hA hK hP hS hZ) rfl rfl hl.1 rfl (lv_room (Nat.le_of_ble_eq_true rfl)) dX11_law_20 ⟨Nat.le_refl _, Nat.le_refl _⟩) hA hS (fun f_8 L_9 Q_10 H locs hq hP hS => ?_)
    obtain ⟨⟨hI, hk_f_8, eL9, eQ9⟩, u_11⟩ := hq
    rw [eL9, eQ9] at hP; clear eL9 eQ9
    have hF : sgK WkX11_law f f_8 := sgK.tr hF hk_f_8 (by decide +kernel)
    refine lv_iload_n hx hb dX11_law_23 rfl (lv_at hl 0 rfl) ?_
    exact hret _ _ _ _ (r_4) f_8 L Q dX11_law_24 hP hS ⟨⟨hI, hF, rfl, rfl⟩, ⟨by omega, by omega⟩, (Eq.trans (Eq.symm (hs.trans ((if_pos c_7).trans (spl_e u_11 rfl)))) hsp)⟩

set_option maxHeartbeats 4000000 in
set_option maxRecDepth 100000 in
theorem kX0_has (l : Launch) (D : va_G) (ca : Nat → ClassId) (za h : Nat → Nat) (hh : sgH 52 h) (f : sg_F) (L : sg_L) (Q : sg_Q) (hI : sgI loX hiX f) (x0 : Int32) (sz : Nat) : Met l yX0_has gwX0_has { frames := 0, cells := 0, slots := 0, locals := 0 } (sgP D vwCl (tyX ca) 52 h (eX ca h) zcX za f L Q sz [.ref (h 1), .int x0]) (sgQi D vwCl 52 h (eX ca h) sz (fun r f1 L1 Q1 => ((f1 = f ∧ L1 = L ∧ Q1 = Q) ∧ ((r = 1 ∧ (0 ≤ x0.toInt ∧ x0.toInt < (f 1 3).toInt)) ∨ (r = 0 ∧ (¬ (0 ≤ x0.toInt ∧ x0.toInt < (f 1 3).toInt)))) ∧ (r) = sX0_has x0 f L))) 0 0 (sgA 52 h sz) := by
  refine sg_ofWz (cc := cX0_has) (maxL := 2) RX0 (by decide) rfl rfl (Nat.le_of_ble_eq_true rfl) ?_
  intro p e s m below meth cd Qz ls hx hb hml hown hts hK hZ hP hS hl hret
  have hA := sgY.self (n := 52) (h := h) (sz := s.heap.size)
  have hl : lv_has ls 2 [(0, .ref (h 1)), (1, .int x0)] := hl
  obtain ⟨H, hH⟩ : ∃ z : Heap, z = s.heap := ⟨_, rfl⟩
  obtain ⟨locs, hlo⟩ : ∃ z : List Loc, z = [] := ⟨_, rfl⟩
  have hP : va_P D vwCl (sgw 52 h (eX ca h) f L Q) H := by rw [hH]; exact hP
  have hS : va_S (sgA 52 h s.heap.size) s.heap H locs := by rw [hH, hlo]; exact hS
  suffices hgo : W p l e ({ frames := 0, cells := 0, slots := 0, locals := 0 }) s m ([.ref (h 1), .int x0] : List Value).toArray below meth cd H locs 0 0 Qz (F0 m 0 ls []) by rw [hH, hlo] at hgo; exact hgo
  clear hH hlo
  obtain ⟨sp, hsp⟩ : ∃ z : Int32, z = sX0_has x0 f L := ⟨_, rfl⟩
  have hs : sp = sX0_has x0 f L := hsp
  obtain ⟨v_1, ev_1⟩ : ∃ z : Int32, z = f 1 3 := ⟨_, rfl⟩
  replace hs := hs.trans (spl_e ev_1 rfl)
  have q_2 : 0 ≤ v_1.toInt ∧ v_1.toInt ≤ 8 := by rw [ev_1]; exact hI 1 3
  have o_3 : (f 1 3).toInt = v_1.toInt := (congrArg Int32.toInt (show f 1 3 = v_1 from ev_1.symm))
  refine lv_iload_n hx hb dX0_has_0 rfl (lv_at hl 1 rfl) ?_
  refine lv_if_lt (tgt := 16) hx hb dX0_has_1 (by decide) (fun c => ?_) (fun c => ?_)
  · skip
    have c_4 : x0.toInt < 0 := (by first | exact (cm_lt1 ti_0 c) | (have z := bn_lt c; have k1 : (0 : Int32).toInt = 0 := ti_0; omega))
    refine lv_iconst (v := 0) hx hb dX0_has_16 ic_0 ?_
    have k99 : (0 : Int32).toInt = 0 := ti_0
    exact hret _ _ _ _ (0) f L Q dX0_has_17 (by decide) hP hS ⟨⟨rfl, rfl, rfl⟩, Or.inr (⟨rfl, by omega⟩), (Eq.trans (Eq.symm (hs.trans ((if_pos c_4).trans rfl))) hsp)⟩
  · skip
    have c_5 : 0 ≤ x0.toInt := (by first | exact (cm_nlt1 ti_0 c) | (have z := bn_nlt c; have k1 : (0 : Int32).toInt = 0 := ti_0; omega))
    replace hs := hs.trans ((if_neg (Int.not_lt.mpr c_5)).trans rfl)
    refine lv_iload_n hx hb dX0_has_4 rfl (lv_at hl 1 rfl) ?_
    refine lv_aload_n hx hb dX0_has_5 rfl (lv_at hl 0 rfl) ?_
    refine sl_gX_1_3_0 (v := v_1) hx hb hts hown hK hP (show f 1 3 = v_1 from ev_1.symm) dX0_has_6 ?_
    refine lv_icmp_ge (tgt := 16) hx hb dX0_has_9 (by decide) (fun c => ?_) (fun c => ?_)
    · skip
      have c_6 : v_1.toInt ≤ x0.toInt := (by first | exact (bn_le c) | (have z := bn_le c; omega))
      refine lv_iconst (v := 0) hx hb dX0_has_16 ic_0 ?_
      have k99 : (0 : Int32).toInt = 0 := ti_0
      exact hret _ _ _ _ (0) f L Q dX0_has_17 (by decide) hP hS ⟨⟨rfl, rfl, rfl⟩, Or.inr (⟨rfl, by omega⟩), (Eq.trans (Eq.symm (hs.trans ((if_neg (Int.not_lt.mpr c_6)).trans rfl))) hsp)⟩
    · skip
      have c_7 : x0.toInt < v_1.toInt := (by first | exact (bn_nle c) | (have z := bn_nle c; omega))
      refine lv_iconst (v := 1) hx hb dX0_has_12 ic_1 ?_
      refine lv_goto (tgt := 17) hx hb dX0_has_13 (by decide) ?_
      have k99 : (1 : Int32).toInt = 1 := ti_1
      exact hret _ _ _ _ (1) f L Q dX0_has_17 (by decide) hP hS ⟨⟨rfl, rfl, rfl⟩, Or.inl ⟨rfl, by omega⟩, (Eq.trans (Eq.symm (hs.trans ((if_pos c_7).trans rfl))) hsp)⟩

set_option maxHeartbeats 4000000 in
set_option maxRecDepth 100000 in
theorem kX0_numberOf (l : Launch) (D : va_G) (ca : Nat → ClassId) (za h : Nat → Nat) (hh : sgH 52 h) (f : sg_F) (L : sg_L) (Q : sg_Q) (hI : sgI loX hiX f) (x0 : Int32) (x1 : Int32) (b0 : 0 ≤ x0.toInt ∧ x0.toInt ≤ 7) (b1 : 0 ≤ x1.toInt ∧ x1.toInt ≤ 7) (sz : Nat) : Met l yX0_numberOf gwX0_numberOf { frames := 0, cells := 0, slots := 0, locals := 0 } (sgP D vwCl (tyX ca) 52 h (eX ca h) zcX za f L Q sz [.ref (h 1), .int x0, .int x1]) (sgQi D vwCl 52 h (eX ca h) sz (fun r f1 L1 Q1 => ((f1 = f ∧ L1 = L ∧ Q1 = Q) ∧ (0 ≤ r.toInt ∧ r.toInt ≤ 60) ∧ (r) = sX0_numberOf x0 x1 f L))) 0 0 (sgA 52 h sz) := by
  refine sg_ofWi (cc := cX0_numberOf) (maxL := 3) RX0 (by decide) rfl rfl (Nat.le_of_ble_eq_true rfl) ?_
  intro p e s m below meth cd Qz ls hx hb hml hown hts hK hZ hP hS hl hret
  have hA := sgY.self (n := 52) (h := h) (sz := s.heap.size)
  have hl : lv_has ls 3 [(0, .ref (h 1)), (1, .int x0), (2, .int x1)] := hl
  obtain ⟨H, hH⟩ : ∃ z : Heap, z = s.heap := ⟨_, rfl⟩
  obtain ⟨locs, hlo⟩ : ∃ z : List Loc, z = [] := ⟨_, rfl⟩
  have hP : va_P D vwCl (sgw 52 h (eX ca h) f L Q) H := by rw [hH]; exact hP
  have hS : va_S (sgA 52 h s.heap.size) s.heap H locs := by rw [hH, hlo]; exact hS
  suffices hgo : W p l e ({ frames := 0, cells := 0, slots := 0, locals := 0 }) s m ([.ref (h 1), .int x0, .int x1] : List Value).toArray below meth cd H locs 0 0 Qz (F0 m 0 ls []) by rw [hH, hlo] at hgo; exact hgo
  clear hH hlo
  obtain ⟨sp, hsp⟩ : ∃ z : Int32, z = sX0_numberOf x0 x1 f L := ⟨_, rfl⟩
  have hs : sp = sX0_numberOf x0 x1 f L := hsp
  refine lv_aload_n hx hb dX0_numberOf_0 rfl (lv_at hl 0 rfl) ?_
  refine sl_gX_1_0_0 hx hb hts hown hK hP dX0_numberOf_1 ?_
  refine lv_iload_n hx hb dX0_numberOf_4 rfl (lv_at hl 1 rfl) ?_
  refine lv_bipush (v := 8) hx hb dX0_numberOf_5 bp_8 ?_
  refine lv_imul hx hb dX0_numberOf_7 ?_
  refine lv_topi (fun v_1 ev_1 => ?_)
  have q_2 : v_1.toInt = x0.toInt * 8 := by rw [ev_1]; exact bn_mulI (by decide) (by omega) (by omega)
  refine lv_iload_n hx hb dX0_numberOf_8 rfl (lv_at hl 2 rfl) ?_
  refine lv_iadd hx hb dX0_numberOf_9 ?_
  refine lv_topi (fun v_3 ev_3 => ?_)
  have q_4 : v_3.toInt = v_1.toInt + x1.toInt := by rw [ev_3]; first | exact bn_addI (by omega) (by omega) | exact (bn_addI (by omega) (by omega)).trans (by omega)
  refine sg_iald hx hb hK hP 2 (by decide) 0 rfl rfl (i := v_3) (vp_in_iff.mpr ⟨by omega, by omega⟩) dX0_numberOf_10 ?_
  refine lv_topi (fun v_5 ev_5 => ?_)
  have q_6 : v_3.toInt < 64 → v_5.toInt ≤ 60 := by rw [ev_5]; have z1 := segX2_r hI (j := Int32.toNatClampNeg v_3); have z2 := bn_clI (x := v_3) (by omega); intro z3; exact (z1.2.2 (by omega)).2
  have q_7 : 0 ≤ v_5.toInt ∧ v_5.toInt ≤ 60 := by rw [ev_5]; have z1 := segX2_r hI (j := Int32.toNatClampNeg v_3); have z2 := bn_clI (x := v_3) (by omega); omega
  exact hret _ _ _ _ (v_5) f L Q dX0_numberOf_11 hP hS ⟨⟨rfl, rfl, rfl⟩, ⟨by omega, by omega⟩, (Eq.trans (Eq.symm (hs.trans ((spl_e ev_1 (spl_e ev_3 (spl_e ev_5 rfl)))))) hsp)⟩

set_option maxHeartbeats 4000000 in
set_option maxRecDepth 100000 in
theorem kX5_operands (l : Launch) (D : va_G) (ca : Nat → ClassId) (za h : Nat → Nat) (hh : sgH 52 h) (f : sg_F) (L : sg_L) (Q : sg_Q) (hI : sgI loX hiX f) (x0 : Int32) (sz : Nat) : Met l yX5_operands gwX5_operands { frames := 0, cells := 0, slots := 0, locals := 0 } (sgP D vwCl (tyX ca) 52 h (eX ca h) zcX za f L Q sz [.int x0]) (sgQi D vwCl 52 h (eX ca h) sz (fun r f1 L1 Q1 => ((f1 = f ∧ L1 = L ∧ Q1 = Q) ∧ (0 ≤ r.toInt ∧ r.toInt ≤ 2) ∧ (r) = sX5_operands x0 f L))) 0 0 (sgA 52 h sz) := by
  refine sg_ofWi (cc := cX5_operands) (maxL := 1) RX5 (by decide) rfl rfl (Nat.le_of_ble_eq_true rfl) ?_
  intro p e s m below meth cd Qz ls hx hb hml hown hts hK hZ hP hS hl hret
  have hA := sgY.self (n := 52) (h := h) (sz := s.heap.size)
  have hl : lv_has ls 1 [(0, .int x0)] := hl
  obtain ⟨H, hH⟩ : ∃ z : Heap, z = s.heap := ⟨_, rfl⟩
  obtain ⟨locs, hlo⟩ : ∃ z : List Loc, z = [] := ⟨_, rfl⟩
  have hP : va_P D vwCl (sgw 52 h (eX ca h) f L Q) H := by rw [hH]; exact hP
  have hS : va_S (sgA 52 h s.heap.size) s.heap H locs := by rw [hH, hlo]; exact hS
  suffices hgo : W p l e ({ frames := 0, cells := 0, slots := 0, locals := 0 }) s m ([.int x0] : List Value).toArray below meth cd H locs 0 0 Qz (F0 m 0 ls []) by rw [hH, hlo] at hgo; exact hgo
  clear hH hlo
  obtain ⟨sp, hsp⟩ : ∃ z : Int32, z = sX5_operands x0 f L := ⟨_, rfl⟩
  have hs : sp = sX5_operands x0 f L := hsp
  refine lv_iload_n hx hb dX5_operands_0 rfl (lv_at hl 0 rfl) ?_
  rcases (show (x0.toInt ≠ 33 ∧ x0.toInt ≠ 37 ∧ x0.toInt ≠ 38 ∧ x0.toInt ≠ 42 ∧ x0.toInt ≠ 43 ∧ x0.toInt ≠ 45 ∧ x0.toInt ≠ 47 ∧ x0.toInt ≠ 60 ∧ x0.toInt ≠ 61 ∧ x0.toInt ≠ 62 ∧ x0.toInt ≠ 124 ∧ x0.toInt ≠ 126) ∨ x0.toInt = 33 ∨ x0.toInt = 37 ∨ x0.toInt = 38 ∨ x0.toInt = 42 ∨ x0.toInt = 43 ∨ x0.toInt = 45 ∨ x0.toInt = 47 ∨ x0.toInt = 60 ∨ x0.toInt = 61 ∨ x0.toInt = 62 ∨ x0.toInt = 124 ∨ x0.toInt = 126 from by omega) with c | c | c | c | c | c | c | c | c | c | c | c | c
  · skip
    have cs_1 := c
    refine lv_lookup (x := x0) (tgt := 112) hx hb dX5_operands_1 (by decide) (bn_lookD (fun q hq => by have hq : q ∈ ([(33, 109), (37, 107), (38, 107), (42, 107), (43, 107), (45, 107), (47, 107), (60, 107), (61, 107), (62, 107), (124, 107), (126, 109)] : List (Int × Int)) := hq; simp only [List.mem_cons, List.not_mem_nil, or_false] at hq; rcases hq with rfl | rfl | rfl | rfl | rfl | rfl | rfl | rfl | rfl | rfl | rfl | rfl <;> (intro z9; dsimp only at z9; omega))) (by decide) ?_
    refine lv_iconst (v := 0) hx hb dX5_operands_112 ic_0 ?_
    have k99 : (0 : Int32).toInt = 0 := ti_0
    exact hret _ _ _ _ (0) f L Q dX5_operands_113 hP hS ⟨⟨rfl, rfl, rfl⟩, (by decide), (Eq.trans (Eq.symm (hs.trans (((if_neg cs_1.1).trans ((if_neg cs_1.2.1).trans ((if_neg cs_1.2.2.1).trans ((if_neg cs_1.2.2.2.1).trans ((if_neg cs_1.2.2.2.2.1).trans ((if_neg cs_1.2.2.2.2.2.1).trans ((if_neg cs_1.2.2.2.2.2.2.1).trans ((if_neg cs_1.2.2.2.2.2.2.2.1).trans ((if_neg cs_1.2.2.2.2.2.2.2.2.1).trans ((if_neg cs_1.2.2.2.2.2.2.2.2.2.1).trans ((if_neg cs_1.2.2.2.2.2.2.2.2.2.2.1).trans ((if_neg cs_1.2.2.2.2.2.2.2.2.2.2.2).trans rfl))))))))))))))) hsp)⟩
  · skip
    have cs_1 := c
    have c_2 := c
    refine lv_lookup (x := x0) (tgt := 110) hx hb dX5_operands_1 (by decide) (by first | (rw [c]; done) | (rw [c]; decide)) (by decide) ?_
    refine lv_iconst (v := 1) hx hb dX5_operands_110 ic_1 ?_
    have k99 : (1 : Int32).toInt = 1 := ti_1
    exact hret _ _ _ _ (1) f L Q dX5_operands_111 hP hS ⟨⟨rfl, rfl, rfl⟩, (by decide), (Eq.trans (Eq.symm (hs.trans (((if_pos cs_1).trans rfl)))) hsp)⟩
  · skip
    have cs_1 := c
    have c_3 := c
    refine lv_lookup (x := x0) (tgt := 108) hx hb dX5_operands_1 (by decide) (by first | (rw [c]; done) | (rw [c]; decide)) (by decide) ?_
    refine lv_iconst (v := 2) hx hb dX5_operands_108 ic_2 ?_
    have k99 : (2 : Int32).toInt = 2 := ti_2
    exact hret _ _ _ _ (2) f L Q dX5_operands_109 hP hS ⟨⟨rfl, rfl, rfl⟩, (by decide), (Eq.trans (Eq.symm (hs.trans (((if_neg (fun z => absurd (z.symm.trans cs_1) (by decide))).trans ((if_pos cs_1).trans rfl))))) hsp)⟩
  · skip
    have cs_1 := c
    have c_4 := c
    refine lv_lookup (x := x0) (tgt := 108) hx hb dX5_operands_1 (by decide) (by first | (rw [c]; done) | (rw [c]; decide)) (by decide) ?_
    refine lv_iconst (v := 2) hx hb dX5_operands_108 ic_2 ?_
    have k99 : (2 : Int32).toInt = 2 := ti_2
    exact hret _ _ _ _ (2) f L Q dX5_operands_109 hP hS ⟨⟨rfl, rfl, rfl⟩, (by decide), (Eq.trans (Eq.symm (hs.trans (((if_neg (fun z => absurd (z.symm.trans cs_1) (by decide))).trans ((if_neg (fun z => absurd (z.symm.trans cs_1) (by decide))).trans ((if_pos cs_1).trans rfl)))))) hsp)⟩
  · skip
    have cs_1 := c
    have c_5 := c
    refine lv_lookup (x := x0) (tgt := 108) hx hb dX5_operands_1 (by decide) (by first | (rw [c]; done) | (rw [c]; decide)) (by decide) ?_
    refine lv_iconst (v := 2) hx hb dX5_operands_108 ic_2 ?_
    have k99 : (2 : Int32).toInt = 2 := ti_2
    exact hret _ _ _ _ (2) f L Q dX5_operands_109 hP hS ⟨⟨rfl, rfl, rfl⟩, (by decide), (Eq.trans (Eq.symm (hs.trans (((if_neg (fun z => absurd (z.symm.trans cs_1) (by decide))).trans ((if_neg (fun z => absurd (z.symm.trans cs_1) (by decide))).trans ((if_neg (fun z => absurd (z.symm.trans cs_1) (by decide))).trans ((if_pos cs_1).trans rfl))))))) hsp)⟩
  · skip
    have cs_1 := c
    have c_6 := c
    refine lv_lookup (x := x0) (tgt := 108) hx hb dX5_operands_1 (by decide) (by first | (rw [c]; done) | (rw [c]; decide)) (by decide) ?_
    refine lv_iconst (v := 2) hx hb dX5_operands_108 ic_2 ?_
    have k99 : (2 : Int32).toInt = 2 := ti_2
    exact hret _ _ _ _ (2) f L Q dX5_operands_109 hP hS ⟨⟨rfl, rfl, rfl⟩, (by decide), (Eq.trans (Eq.symm (hs.trans (((if_neg (fun z => absurd (z.symm.trans cs_1) (by decide))).trans ((if_neg (fun z => absurd (z.symm.trans cs_1) (by decide))).trans ((if_neg (fun z => absurd (z.symm.trans cs_1) (by decide))).trans ((if_neg (fun z => absurd (z.symm.trans cs_1) (by decide))).trans ((if_pos cs_1).trans rfl)))))))) hsp)⟩
  · skip
    have cs_1 := c
    have c_7 := c
    refine lv_lookup (x := x0) (tgt := 108) hx hb dX5_operands_1 (by decide) (by first | (rw [c]; done) | (rw [c]; decide)) (by decide) ?_
    refine lv_iconst (v := 2) hx hb dX5_operands_108 ic_2 ?_
    have k99 : (2 : Int32).toInt = 2 := ti_2
    exact hret _ _ _ _ (2) f L Q dX5_operands_109 hP hS ⟨⟨rfl, rfl, rfl⟩, (by decide), (Eq.trans (Eq.symm (hs.trans (((if_neg (fun z => absurd (z.symm.trans cs_1) (by decide))).trans ((if_neg (fun z => absurd (z.symm.trans cs_1) (by decide))).trans ((if_neg (fun z => absurd (z.symm.trans cs_1) (by decide))).trans ((if_neg (fun z => absurd (z.symm.trans cs_1) (by decide))).trans ((if_neg (fun z => absurd (z.symm.trans cs_1) (by decide))).trans ((if_pos cs_1).trans rfl))))))))) hsp)⟩
  · skip
    have cs_1 := c
    have c_8 := c
    refine lv_lookup (x := x0) (tgt := 108) hx hb dX5_operands_1 (by decide) (by first | (rw [c]; done) | (rw [c]; decide)) (by decide) ?_
    refine lv_iconst (v := 2) hx hb dX5_operands_108 ic_2 ?_
    have k99 : (2 : Int32).toInt = 2 := ti_2
    exact hret _ _ _ _ (2) f L Q dX5_operands_109 hP hS ⟨⟨rfl, rfl, rfl⟩, (by decide), (Eq.trans (Eq.symm (hs.trans (((if_neg (fun z => absurd (z.symm.trans cs_1) (by decide))).trans ((if_neg (fun z => absurd (z.symm.trans cs_1) (by decide))).trans ((if_neg (fun z => absurd (z.symm.trans cs_1) (by decide))).trans ((if_neg (fun z => absurd (z.symm.trans cs_1) (by decide))).trans ((if_neg (fun z => absurd (z.symm.trans cs_1) (by decide))).trans ((if_neg (fun z => absurd (z.symm.trans cs_1) (by decide))).trans ((if_pos cs_1).trans rfl)))))))))) hsp)⟩
  · skip
    have cs_1 := c
    have c_9 := c
    refine lv_lookup (x := x0) (tgt := 108) hx hb dX5_operands_1 (by decide) (by first | (rw [c]; done) | (rw [c]; decide)) (by decide) ?_
    refine lv_iconst (v := 2) hx hb dX5_operands_108 ic_2 ?_
    have k99 : (2 : Int32).toInt = 2 := ti_2
    exact hret _ _ _ _ (2) f L Q dX5_operands_109 hP hS ⟨⟨rfl, rfl, rfl⟩, (by decide), (Eq.trans (Eq.symm (hs.trans (((if_neg (fun z => absurd (z.symm.trans cs_1) (by decide))).trans ((if_neg (fun z => absurd (z.symm.trans cs_1) (by decide))).trans ((if_neg (fun z => absurd (z.symm.trans cs_1) (by decide))).trans ((if_neg (fun z => absurd (z.symm.trans cs_1) (by decide))).trans ((if_neg (fun z => absurd (z.symm.trans cs_1) (by decide))).trans ((if_neg (fun z => absurd (z.symm.trans cs_1) (by decide))).trans ((if_neg (fun z => absurd (z.symm.trans cs_1) (by decide))).trans ((if_pos cs_1).trans rfl))))))))))) hsp)⟩
  · skip
    have cs_1 := c
    have c_10 := c
    refine lv_lookup (x := x0) (tgt := 108) hx hb dX5_operands_1 (by decide) (by first | (rw [c]; done) | (rw [c]; decide)) (by decide) ?_
    refine lv_iconst (v := 2) hx hb dX5_operands_108 ic_2 ?_
    have k99 : (2 : Int32).toInt = 2 := ti_2
    exact hret _ _ _ _ (2) f L Q dX5_operands_109 hP hS ⟨⟨rfl, rfl, rfl⟩, (by decide), (Eq.trans (Eq.symm (hs.trans (((if_neg (fun z => absurd (z.symm.trans cs_1) (by decide))).trans ((if_neg (fun z => absurd (z.symm.trans cs_1) (by decide))).trans ((if_neg (fun z => absurd (z.symm.trans cs_1) (by decide))).trans ((if_neg (fun z => absurd (z.symm.trans cs_1) (by decide))).trans ((if_neg (fun z => absurd (z.symm.trans cs_1) (by decide))).trans ((if_neg (fun z => absurd (z.symm.trans cs_1) (by decide))).trans ((if_neg (fun z => absurd (z.symm.trans cs_1) (by decide))).trans ((if_neg (fun z => absurd (z.symm.trans cs_1) (by decide))).trans ((if_pos cs_1).trans rfl)))))))))))) hsp)⟩
  · skip
    have cs_1 := c
    have c_11 := c
    refine lv_lookup (x := x0) (tgt := 108) hx hb dX5_operands_1 (by decide) (by first | (rw [c]; done) | (rw [c]; decide)) (by decide) ?_
    refine lv_iconst (v := 2) hx hb dX5_operands_108 ic_2 ?_
    have k99 : (2 : Int32).toInt = 2 := ti_2
    exact hret _ _ _ _ (2) f L Q dX5_operands_109 hP hS ⟨⟨rfl, rfl, rfl⟩, (by decide), (Eq.trans (Eq.symm (hs.trans (((if_neg (fun z => absurd (z.symm.trans cs_1) (by decide))).trans ((if_neg (fun z => absurd (z.symm.trans cs_1) (by decide))).trans ((if_neg (fun z => absurd (z.symm.trans cs_1) (by decide))).trans ((if_neg (fun z => absurd (z.symm.trans cs_1) (by decide))).trans ((if_neg (fun z => absurd (z.symm.trans cs_1) (by decide))).trans ((if_neg (fun z => absurd (z.symm.trans cs_1) (by decide))).trans ((if_neg (fun z => absurd (z.symm.trans cs_1) (by decide))).trans ((if_neg (fun z => absurd (z.symm.trans cs_1) (by decide))).trans ((if_neg (fun z => absurd (z.symm.trans cs_1) (by decide))).trans ((if_pos cs_1).trans rfl))))))))))))) hsp)⟩
  · skip
    have cs_1 := c
    have c_12 := c
    refine lv_lookup (x := x0) (tgt := 108) hx hb dX5_operands_1 (by decide) (by first | (rw [c]; done) | (rw [c]; decide)) (by decide) ?_
    refine lv_iconst (v := 2) hx hb dX5_operands_108 ic_2 ?_
    have k99 : (2 : Int32).toInt = 2 := ti_2
    exact hret _ _ _ _ (2) f L Q dX5_operands_109 hP hS ⟨⟨rfl, rfl, rfl⟩, (by decide), (Eq.trans (Eq.symm (hs.trans (((if_neg (fun z => absurd (z.symm.trans cs_1) (by decide))).trans ((if_neg (fun z => absurd (z.symm.trans cs_1) (by decide))).trans ((if_neg (fun z => absurd (z.symm.trans cs_1) (by decide))).trans ((if_neg (fun z => absurd (z.symm.trans cs_1) (by decide))).trans ((if_neg (fun z => absurd (z.symm.trans cs_1) (by decide))).trans ((if_neg (fun z => absurd (z.symm.trans cs_1) (by decide))).trans ((if_neg (fun z => absurd (z.symm.trans cs_1) (by decide))).trans ((if_neg (fun z => absurd (z.symm.trans cs_1) (by decide))).trans ((if_neg (fun z => absurd (z.symm.trans cs_1) (by decide))).trans ((if_neg (fun z => absurd (z.symm.trans cs_1) (by decide))).trans ((if_pos cs_1).trans rfl)))))))))))))) hsp)⟩
  · skip
    have cs_1 := c
    have c_13 := c
    refine lv_lookup (x := x0) (tgt := 110) hx hb dX5_operands_1 (by decide) (by first | (rw [c]; done) | (rw [c]; decide)) (by decide) ?_
    refine lv_iconst (v := 1) hx hb dX5_operands_110 ic_1 ?_
    have k99 : (1 : Int32).toInt = 1 := ti_1
    exact hret _ _ _ _ (1) f L Q dX5_operands_111 hP hS ⟨⟨rfl, rfl, rfl⟩, (by decide), (Eq.trans (Eq.symm (hs.trans (((if_neg (fun z => absurd (z.symm.trans cs_1) (by decide))).trans ((if_neg (fun z => absurd (z.symm.trans cs_1) (by decide))).trans ((if_neg (fun z => absurd (z.symm.trans cs_1) (by decide))).trans ((if_neg (fun z => absurd (z.symm.trans cs_1) (by decide))).trans ((if_neg (fun z => absurd (z.symm.trans cs_1) (by decide))).trans ((if_neg (fun z => absurd (z.symm.trans cs_1) (by decide))).trans ((if_neg (fun z => absurd (z.symm.trans cs_1) (by decide))).trans ((if_neg (fun z => absurd (z.symm.trans cs_1) (by decide))).trans ((if_neg (fun z => absurd (z.symm.trans cs_1) (by decide))).trans ((if_neg (fun z => absurd (z.symm.trans cs_1) (by decide))).trans ((if_neg (fun z => absurd (z.symm.trans cs_1) (by decide))).trans ((if_pos cs_1).trans rfl))))))))))))))) hsp)⟩

set_option maxHeartbeats 4000000 in
set_option maxRecDepth 100000 in
theorem kX5_worked (l : Launch) (D : va_G) (ca : Nat → ClassId) (za h : Nat → Nat) (hh : sgH 52 h) (f : sg_F) (L : sg_L) (Q : sg_Q) (hI : sgI loX hiX f) (x0 : Int32) (x1 : Int32) (x2 : Int32) (sz : Nat) : Met l yX5_worked gwX5_worked { frames := 0, cells := 0, slots := 0, locals := 0 } (sgP D vwCl (tyX ca) 52 h (eX ca h) zcX za f L Q sz [.int x0, .int x1, .int x2]) (sgQi D vwCl 52 h (eX ca h) sz (fun r f1 L1 Q1 => ((f1 = f ∧ L1 = L ∧ Q1 = Q) ∧ True ∧ (r) = sX5_worked x0 x1 x2 f L))) 0 0 (sgA 52 h sz) := by
  refine sg_ofWi (cc := cX5_worked) (maxL := 3) RX5 (by decide) rfl rfl (Nat.le_of_ble_eq_true rfl) ?_
  intro p e s m below meth cd Qz ls hx hb hml hown hts hK hZ hP hS hl hret
  have hA := sgY.self (n := 52) (h := h) (sz := s.heap.size)
  have hl : lv_has ls 3 [(0, .int x0), (1, .int x1), (2, .int x2)] := hl
  obtain ⟨H, hH⟩ : ∃ z : Heap, z = s.heap := ⟨_, rfl⟩
  obtain ⟨locs, hlo⟩ : ∃ z : List Loc, z = [] := ⟨_, rfl⟩
  have hP : va_P D vwCl (sgw 52 h (eX ca h) f L Q) H := by rw [hH]; exact hP
  have hS : va_S (sgA 52 h s.heap.size) s.heap H locs := by rw [hH, hlo]; exact hS
  suffices hgo : W p l e ({ frames := 0, cells := 0, slots := 0, locals := 0 }) s m ([.int x0, .int x1, .int x2] : List Value).toArray below meth cd H locs 0 0 Qz (F0 m 0 ls []) by rw [hH, hlo] at hgo; exact hgo
  clear hH hlo
  obtain ⟨sp, hsp⟩ : ∃ z : Int32, z = sX5_worked x0 x1 x2 f L := ⟨_, rfl⟩
  have hs : sp = sX5_worked x0 x1 x2 f L := hsp
  refine lv_iload_n hx hb dX5_worked_0 rfl (lv_at hl 0 rfl) ?_
  rcases (show (x0.toInt ≠ 33 ∧ x0.toInt ≠ 37 ∧ x0.toInt ≠ 38 ∧ x0.toInt ≠ 42 ∧ x0.toInt ≠ 43 ∧ x0.toInt ≠ 45 ∧ x0.toInt ≠ 47 ∧ x0.toInt ≠ 60 ∧ x0.toInt ≠ 61 ∧ x0.toInt ≠ 62 ∧ x0.toInt ≠ 124) ∨ x0.toInt = 33 ∨ x0.toInt = 37 ∨ x0.toInt = 38 ∨ x0.toInt = 42 ∨ x0.toInt = 43 ∨ x0.toInt = 45 ∨ x0.toInt = 47 ∨ x0.toInt = 60 ∨ x0.toInt = 61 ∨ x0.toInt = 62 ∨ x0.toInt = 124 from by omega) with c | c | c | c | c | c | c | c | c | c | c | c
  · skip
    have cs_1 := c
    refine lv_lookup (x := x0) (tgt := 207) hx hb dX5_worked_1 (by decide) (bn_lookD (fun q hq => by have hq : q ∈ ([(33, 196), (37, 123), (38, 168), (42, 107), (43, 99), (45, 103), (47, 111), (60, 135), (61, 146), (62, 157), (124, 182)] : List (Int × Int)) := hq; simp only [List.mem_cons, List.not_mem_nil, or_false] at hq; rcases hq with rfl | rfl | rfl | rfl | rfl | rfl | rfl | rfl | rfl | rfl | rfl <;> (intro z9; dsimp only at z9; omega))) (by decide) ?_
    refine lv_iload_n hx hb dX5_worked_207 rfl (lv_at hl 1 rfl) ?_
    refine lv_ineg hx hb dX5_worked_208 ?_
    refine lv_topi (fun v_2 ev_2 => ?_)
    exact hret _ _ _ _ (v_2) f L Q dX5_worked_209 hP hS ⟨⟨rfl, rfl, rfl⟩, trivial, (Eq.trans (Eq.symm (hs.trans (((if_neg cs_1.1).trans ((if_neg cs_1.2.1).trans ((if_neg cs_1.2.2.1).trans ((if_neg cs_1.2.2.2.1).trans ((if_neg cs_1.2.2.2.2.1).trans ((if_neg cs_1.2.2.2.2.2.1).trans ((if_neg cs_1.2.2.2.2.2.2.1).trans ((if_neg cs_1.2.2.2.2.2.2.2.1).trans ((if_neg cs_1.2.2.2.2.2.2.2.2.1).trans ((if_neg cs_1.2.2.2.2.2.2.2.2.2.1).trans ((if_neg cs_1.2.2.2.2.2.2.2.2.2.2).trans (spl_e ev_2 rfl))))))))))))))) hsp)⟩
  · skip
    have cs_1 := c
    have c_3 := c
    refine lv_lookup (x := x0) (tgt := 197) hx hb dX5_worked_1 (by decide) (by first | (rw [c]; done) | (rw [c]; decide)) (by decide) ?_
    refine lv_iload_n hx hb dX5_worked_197 rfl (lv_at hl 1 rfl) ?_
    refine lv_if_ne (tgt := 205) hx hb dX5_worked_198 (by decide) (fun c => ?_) (fun c => ?_)
    · skip
      have c_4 : x1.toInt ≠ 0 := (by first | exact (cm_ne1 ti_0 c) | (have z := bn_ne c; have k1 : (0 : Int32).toInt = 0 := ti_0; omega))
      refine lv_iconst (v := 0) hx hb dX5_worked_205 ic_0 ?_
      have k99 : (0 : Int32).toInt = 0 := ti_0
      exact hret _ _ _ _ (0) f L Q dX5_worked_206 hP hS ⟨⟨rfl, rfl, rfl⟩, trivial, (Eq.trans (Eq.symm (hs.trans (((if_pos cs_1).trans ((if_neg c_4).trans rfl))))) hsp)⟩
    · skip
      have c_5 : x1.toInt = 0 := (by first | exact (cm_eq1 ti_0 c) | (have z := Int32.toInt_inj.mpr c; have k1 : (0 : Int32).toInt = 0 := ti_0; omega))
      refine lv_iconst (v := 1) hx hb dX5_worked_201 ic_1 ?_
      refine lv_goto (tgt := 206) hx hb dX5_worked_202 (by decide) ?_
      have k99 : (1 : Int32).toInt = 1 := ti_1
      exact hret _ _ _ _ (1) f L Q dX5_worked_206 hP hS ⟨⟨rfl, rfl, rfl⟩, trivial, (Eq.trans (Eq.symm (hs.trans (((if_pos cs_1).trans ((if_pos c_5).trans rfl))))) hsp)⟩
  · skip
    have cs_1 := c
    have c_6 := c
    refine lv_lookup (x := x0) (tgt := 124) hx hb dX5_worked_1 (by decide) (by first | (rw [c]; done) | (rw [c]; decide)) (by decide) ?_
    refine lv_iload_n hx hb dX5_worked_124 rfl (lv_at hl 2 rfl) ?_
    refine lv_if_ne (tgt := 132) hx hb dX5_worked_125 (by decide) (fun c => ?_) (fun c => ?_)
    · skip
      have c_7 : x2.toInt ≠ 0 := (by first | exact (cm_ne1 ti_0 c) | (have z := bn_ne c; have k1 : (0 : Int32).toInt = 0 := ti_0; omega))
      refine lv_iload_n hx hb dX5_worked_132 rfl (lv_at hl 1 rfl) ?_
      refine lv_iload_n hx hb dX5_worked_133 rfl (lv_at hl 2 rfl) ?_
      refine lv_irem hx hb dX5_worked_134 (bn_nz (by omega)) ?_
      refine lv_topi (fun v_9 ev_9 => ?_)
      exact hret _ _ _ _ (v_9) f L Q dX5_worked_135 hP hS ⟨⟨rfl, rfl, rfl⟩, trivial, (Eq.trans (Eq.symm (hs.trans (((if_neg (fun z => absurd (z.symm.trans cs_1) (by decide))).trans ((if_pos cs_1).trans ((if_neg c_7).trans (spl_e ev_9 rfl))))))) hsp)⟩
    · skip
      have c_8 : x2.toInt = 0 := (by first | exact (cm_eq1 ti_0 c) | (have z := Int32.toInt_inj.mpr c; have k1 : (0 : Int32).toInt = 0 := ti_0; omega))
      refine lv_iconst (v := 0) hx hb dX5_worked_128 ic_0 ?_
      refine lv_goto (tgt := 135) hx hb dX5_worked_129 (by decide) ?_
      have k99 : (0 : Int32).toInt = 0 := ti_0
      exact hret _ _ _ _ (0) f L Q dX5_worked_135 hP hS ⟨⟨rfl, rfl, rfl⟩, trivial, (Eq.trans (Eq.symm (hs.trans (((if_neg (fun z => absurd (z.symm.trans cs_1) (by decide))).trans ((if_pos cs_1).trans ((if_pos c_8).trans rfl)))))) hsp)⟩
  · skip
    have cs_1 := c
    have c_10 := c
    refine lv_lookup (x := x0) (tgt := 169) hx hb dX5_worked_1 (by decide) (by first | (rw [c]; done) | (rw [c]; decide)) (by decide) ?_
    refine lv_iload_n hx hb dX5_worked_169 rfl (lv_at hl 1 rfl) ?_
    refine lv_if_eq (tgt := 181) hx hb dX5_worked_170 (by decide) (fun c => ?_) (fun c => ?_)
    · skip
      have c_11 : x1.toInt = 0 := (by first | exact (cm_eq1 ti_0 c) | (have z := Int32.toInt_inj.mpr c; have k1 : (0 : Int32).toInt = 0 := ti_0; omega))
      refine lv_iconst (v := 0) hx hb dX5_worked_181 ic_0 ?_
      have k99 : (0 : Int32).toInt = 0 := ti_0
      exact hret _ _ _ _ (0) f L Q dX5_worked_182 hP hS ⟨⟨rfl, rfl, rfl⟩, trivial, (Eq.trans (Eq.symm (hs.trans (((if_neg (fun z => absurd (z.symm.trans cs_1) (by decide))).trans ((if_neg (fun z => absurd (z.symm.trans cs_1) (by decide))).trans ((if_pos cs_1).trans ((if_pos c_11).trans rfl))))))) hsp)⟩
    · skip
      have c_12 : x1.toInt ≠ 0 := (by first | exact (cm_ne1 ti_0 c) | (have z := bn_ne c; have k1 : (0 : Int32).toInt = 0 := ti_0; omega))
      replace hs := hs.trans ((if_neg (fun z => absurd (z.symm.trans cs_1) (by decide))).trans ((if_neg (fun z => absurd (z.symm.trans cs_1) (by decide))).trans ((if_pos cs_1).trans ((if_neg c_12).trans rfl))))
      refine lv_iload_n hx hb dX5_worked_173 rfl (lv_at hl 2 rfl) ?_
      refine lv_if_eq (tgt := 181) hx hb dX5_worked_174 (by decide) (fun c => ?_) (fun c => ?_)
      · skip
        have c_13 : x2.toInt = 0 := (by first | exact (cm_eq1 ti_0 c) | (have z := Int32.toInt_inj.mpr c; have k1 : (0 : Int32).toInt = 0 := ti_0; omega))
        refine lv_iconst (v := 0) hx hb dX5_worked_181 ic_0 ?_
        have k99 : (0 : Int32).toInt = 0 := ti_0
        exact hret _ _ _ _ (0) f L Q dX5_worked_182 hP hS ⟨⟨rfl, rfl, rfl⟩, trivial, (Eq.trans (Eq.symm (hs.trans ((if_pos c_13).trans rfl))) hsp)⟩
      · skip
        have c_14 : x2.toInt ≠ 0 := (by first | exact (cm_ne1 ti_0 c) | (have z := bn_ne c; have k1 : (0 : Int32).toInt = 0 := ti_0; omega))
        refine lv_iconst (v := 1) hx hb dX5_worked_177 ic_1 ?_
        refine lv_goto (tgt := 182) hx hb dX5_worked_178 (by decide) ?_
        have k99 : (1 : Int32).toInt = 1 := ti_1
        exact hret _ _ _ _ (1) f L Q dX5_worked_182 hP hS ⟨⟨rfl, rfl, rfl⟩, trivial, (Eq.trans (Eq.symm (hs.trans ((if_neg c_14).trans rfl))) hsp)⟩
  · skip
    have cs_1 := c
    have c_15 := c
    refine lv_lookup (x := x0) (tgt := 108) hx hb dX5_worked_1 (by decide) (by first | (rw [c]; done) | (rw [c]; decide)) (by decide) ?_
    refine lv_iload_n hx hb dX5_worked_108 rfl (lv_at hl 1 rfl) ?_
    refine lv_iload_n hx hb dX5_worked_109 rfl (lv_at hl 2 rfl) ?_
    refine lv_imul hx hb dX5_worked_110 ?_
    refine lv_topi (fun v_16 ev_16 => ?_)
    exact hret _ _ _ _ (v_16) f L Q dX5_worked_111 hP hS ⟨⟨rfl, rfl, rfl⟩, trivial, (Eq.trans (Eq.symm (hs.trans (((if_neg (fun z => absurd (z.symm.trans cs_1) (by decide))).trans ((if_neg (fun z => absurd (z.symm.trans cs_1) (by decide))).trans ((if_neg (fun z => absurd (z.symm.trans cs_1) (by decide))).trans ((if_pos cs_1).trans (spl_e ev_16 rfl)))))))) hsp)⟩
  · skip
    have cs_1 := c
    have c_17 := c
    refine lv_lookup (x := x0) (tgt := 100) hx hb dX5_worked_1 (by decide) (by first | (rw [c]; done) | (rw [c]; decide)) (by decide) ?_
    refine lv_iload_n hx hb dX5_worked_100 rfl (lv_at hl 1 rfl) ?_
    refine lv_iload_n hx hb dX5_worked_101 rfl (lv_at hl 2 rfl) ?_
    refine lv_iadd hx hb dX5_worked_102 ?_
    refine lv_topi (fun v_18 ev_18 => ?_)
    exact hret _ _ _ _ (v_18) f L Q dX5_worked_103 hP hS ⟨⟨rfl, rfl, rfl⟩, trivial, (Eq.trans (Eq.symm (hs.trans (((if_neg (fun z => absurd (z.symm.trans cs_1) (by decide))).trans ((if_neg (fun z => absurd (z.symm.trans cs_1) (by decide))).trans ((if_neg (fun z => absurd (z.symm.trans cs_1) (by decide))).trans ((if_neg (fun z => absurd (z.symm.trans cs_1) (by decide))).trans ((if_pos cs_1).trans (spl_e ev_18 rfl))))))))) hsp)⟩
  · skip
    have cs_1 := c
    have c_19 := c
    refine lv_lookup (x := x0) (tgt := 104) hx hb dX5_worked_1 (by decide) (by first | (rw [c]; done) | (rw [c]; decide)) (by decide) ?_
    refine lv_iload_n hx hb dX5_worked_104 rfl (lv_at hl 1 rfl) ?_
    refine lv_iload_n hx hb dX5_worked_105 rfl (lv_at hl 2 rfl) ?_
    refine lv_isub hx hb dX5_worked_106 ?_
    refine lv_topi (fun v_20 ev_20 => ?_)
    exact hret _ _ _ _ (v_20) f L Q dX5_worked_107 hP hS ⟨⟨rfl, rfl, rfl⟩, trivial, (Eq.trans (Eq.symm (hs.trans (((if_neg (fun z => absurd (z.symm.trans cs_1) (by decide))).trans ((if_neg (fun z => absurd (z.symm.trans cs_1) (by decide))).trans ((if_neg (fun z => absurd (z.symm.trans cs_1) (by decide))).trans ((if_neg (fun z => absurd (z.symm.trans cs_1) (by decide))).trans ((if_neg (fun z => absurd (z.symm.trans cs_1) (by decide))).trans ((if_pos cs_1).trans (spl_e ev_20 rfl)))))))))) hsp)⟩
  · skip
    have cs_1 := c
    have c_21 := c
    refine lv_lookup (x := x0) (tgt := 112) hx hb dX5_worked_1 (by decide) (by first | (rw [c]; done) | (rw [c]; decide)) (by decide) ?_
    refine lv_iload_n hx hb dX5_worked_112 rfl (lv_at hl 2 rfl) ?_
    refine lv_if_ne (tgt := 120) hx hb dX5_worked_113 (by decide) (fun c => ?_) (fun c => ?_)
    · skip
      have c_22 : x2.toInt ≠ 0 := (by first | exact (cm_ne1 ti_0 c) | (have z := bn_ne c; have k1 : (0 : Int32).toInt = 0 := ti_0; omega))
      refine lv_iload_n hx hb dX5_worked_120 rfl (lv_at hl 1 rfl) ?_
      refine lv_iload_n hx hb dX5_worked_121 rfl (lv_at hl 2 rfl) ?_
      refine lv_idiv hx hb dX5_worked_122 (bn_nz (by omega)) ?_
      refine lv_topi (fun v_24 ev_24 => ?_)
      exact hret _ _ _ _ (v_24) f L Q dX5_worked_123 hP hS ⟨⟨rfl, rfl, rfl⟩, trivial, (Eq.trans (Eq.symm (hs.trans (((if_neg (fun z => absurd (z.symm.trans cs_1) (by decide))).trans ((if_neg (fun z => absurd (z.symm.trans cs_1) (by decide))).trans ((if_neg (fun z => absurd (z.symm.trans cs_1) (by decide))).trans ((if_neg (fun z => absurd (z.symm.trans cs_1) (by decide))).trans ((if_neg (fun z => absurd (z.symm.trans cs_1) (by decide))).trans ((if_neg (fun z => absurd (z.symm.trans cs_1) (by decide))).trans ((if_pos cs_1).trans ((if_neg c_22).trans (spl_e ev_24 rfl)))))))))))) hsp)⟩
    · skip
      have c_23 : x2.toInt = 0 := (by first | exact (cm_eq1 ti_0 c) | (have z := Int32.toInt_inj.mpr c; have k1 : (0 : Int32).toInt = 0 := ti_0; omega))
      refine lv_iconst (v := 0) hx hb dX5_worked_116 ic_0 ?_
      refine lv_goto (tgt := 123) hx hb dX5_worked_117 (by decide) ?_
      have k99 : (0 : Int32).toInt = 0 := ti_0
      exact hret _ _ _ _ (0) f L Q dX5_worked_123 hP hS ⟨⟨rfl, rfl, rfl⟩, trivial, (Eq.trans (Eq.symm (hs.trans (((if_neg (fun z => absurd (z.symm.trans cs_1) (by decide))).trans ((if_neg (fun z => absurd (z.symm.trans cs_1) (by decide))).trans ((if_neg (fun z => absurd (z.symm.trans cs_1) (by decide))).trans ((if_neg (fun z => absurd (z.symm.trans cs_1) (by decide))).trans ((if_neg (fun z => absurd (z.symm.trans cs_1) (by decide))).trans ((if_neg (fun z => absurd (z.symm.trans cs_1) (by decide))).trans ((if_pos cs_1).trans ((if_pos c_23).trans rfl))))))))))) hsp)⟩
  · skip
    have cs_1 := c
    have c_25 := c
    refine lv_lookup (x := x0) (tgt := 136) hx hb dX5_worked_1 (by decide) (by first | (rw [c]; done) | (rw [c]; decide)) (by decide) ?_
    refine lv_iload_n hx hb dX5_worked_136 rfl (lv_at hl 1 rfl) ?_
    refine lv_iload_n hx hb dX5_worked_137 rfl (lv_at hl 2 rfl) ?_
    refine lv_icmp_ge (tgt := 145) hx hb dX5_worked_138 (by decide) (fun c => ?_) (fun c => ?_)
    · skip
      have c_26 : x2.toInt ≤ x1.toInt := (by first | exact (bn_le c) | (have z := bn_le c; omega))
      refine lv_iconst (v := 0) hx hb dX5_worked_145 ic_0 ?_
      have k99 : (0 : Int32).toInt = 0 := ti_0
      exact hret _ _ _ _ (0) f L Q dX5_worked_146 hP hS ⟨⟨rfl, rfl, rfl⟩, trivial, (Eq.trans (Eq.symm (hs.trans (((if_neg (fun z => absurd (z.symm.trans cs_1) (by decide))).trans ((if_neg (fun z => absurd (z.symm.trans cs_1) (by decide))).trans ((if_neg (fun z => absurd (z.symm.trans cs_1) (by decide))).trans ((if_neg (fun z => absurd (z.symm.trans cs_1) (by decide))).trans ((if_neg (fun z => absurd (z.symm.trans cs_1) (by decide))).trans ((if_neg (fun z => absurd (z.symm.trans cs_1) (by decide))).trans ((if_neg (fun z => absurd (z.symm.trans cs_1) (by decide))).trans ((if_pos cs_1).trans ((if_neg (Int.not_lt.mpr c_26)).trans rfl)))))))))))) hsp)⟩
    · skip
      have c_27 : x1.toInt < x2.toInt := (by first | exact (bn_nle c) | (have z := bn_nle c; omega))
      refine lv_iconst (v := 1) hx hb dX5_worked_141 ic_1 ?_
      refine lv_goto (tgt := 146) hx hb dX5_worked_142 (by decide) ?_
      have k99 : (1 : Int32).toInt = 1 := ti_1
      exact hret _ _ _ _ (1) f L Q dX5_worked_146 hP hS ⟨⟨rfl, rfl, rfl⟩, trivial, (Eq.trans (Eq.symm (hs.trans (((if_neg (fun z => absurd (z.symm.trans cs_1) (by decide))).trans ((if_neg (fun z => absurd (z.symm.trans cs_1) (by decide))).trans ((if_neg (fun z => absurd (z.symm.trans cs_1) (by decide))).trans ((if_neg (fun z => absurd (z.symm.trans cs_1) (by decide))).trans ((if_neg (fun z => absurd (z.symm.trans cs_1) (by decide))).trans ((if_neg (fun z => absurd (z.symm.trans cs_1) (by decide))).trans ((if_neg (fun z => absurd (z.symm.trans cs_1) (by decide))).trans ((if_pos cs_1).trans ((if_pos c_27).trans rfl)))))))))))) hsp)⟩
  · skip
    have cs_1 := c
    have c_28 := c
    refine lv_lookup (x := x0) (tgt := 147) hx hb dX5_worked_1 (by decide) (by first | (rw [c]; done) | (rw [c]; decide)) (by decide) ?_
    refine lv_iload_n hx hb dX5_worked_147 rfl (lv_at hl 1 rfl) ?_
    refine lv_iload_n hx hb dX5_worked_148 rfl (lv_at hl 2 rfl) ?_
    refine lv_icmp_ne (tgt := 156) hx hb dX5_worked_149 (by decide) (fun c => ?_) (fun c => ?_)
    · skip
      have c_29 : x1.toInt ≠ x2.toInt := (by first | exact (bn_ne c) | (have z := bn_ne c; omega))
      refine lv_iconst (v := 0) hx hb dX5_worked_156 ic_0 ?_
      have k99 : (0 : Int32).toInt = 0 := ti_0
      exact hret _ _ _ _ (0) f L Q dX5_worked_157 hP hS ⟨⟨rfl, rfl, rfl⟩, trivial, (Eq.trans (Eq.symm (hs.trans (((if_neg (fun z => absurd (z.symm.trans cs_1) (by decide))).trans ((if_neg (fun z => absurd (z.symm.trans cs_1) (by decide))).trans ((if_neg (fun z => absurd (z.symm.trans cs_1) (by decide))).trans ((if_neg (fun z => absurd (z.symm.trans cs_1) (by decide))).trans ((if_neg (fun z => absurd (z.symm.trans cs_1) (by decide))).trans ((if_neg (fun z => absurd (z.symm.trans cs_1) (by decide))).trans ((if_neg (fun z => absurd (z.symm.trans cs_1) (by decide))).trans ((if_neg (fun z => absurd (z.symm.trans cs_1) (by decide))).trans ((if_pos cs_1).trans ((if_neg c_29).trans rfl))))))))))))) hsp)⟩
    · skip
      have c_30 : x1.toInt = x2.toInt := (by first | exact (Int32.toInt_inj.mpr c) | (have z := Int32.toInt_inj.mpr c; omega))
      refine lv_iconst (v := 1) hx hb dX5_worked_152 ic_1 ?_
      refine lv_goto (tgt := 157) hx hb dX5_worked_153 (by decide) ?_
      have k99 : (1 : Int32).toInt = 1 := ti_1
      exact hret _ _ _ _ (1) f L Q dX5_worked_157 hP hS ⟨⟨rfl, rfl, rfl⟩, trivial, (Eq.trans (Eq.symm (hs.trans (((if_neg (fun z => absurd (z.symm.trans cs_1) (by decide))).trans ((if_neg (fun z => absurd (z.symm.trans cs_1) (by decide))).trans ((if_neg (fun z => absurd (z.symm.trans cs_1) (by decide))).trans ((if_neg (fun z => absurd (z.symm.trans cs_1) (by decide))).trans ((if_neg (fun z => absurd (z.symm.trans cs_1) (by decide))).trans ((if_neg (fun z => absurd (z.symm.trans cs_1) (by decide))).trans ((if_neg (fun z => absurd (z.symm.trans cs_1) (by decide))).trans ((if_neg (fun z => absurd (z.symm.trans cs_1) (by decide))).trans ((if_pos cs_1).trans ((if_pos c_30).trans rfl))))))))))))) hsp)⟩
  · skip
    have cs_1 := c
    have c_31 := c
    refine lv_lookup (x := x0) (tgt := 158) hx hb dX5_worked_1 (by decide) (by first | (rw [c]; done) | (rw [c]; decide)) (by decide) ?_
    refine lv_iload_n hx hb dX5_worked_158 rfl (lv_at hl 1 rfl) ?_
    refine lv_iload_n hx hb dX5_worked_159 rfl (lv_at hl 2 rfl) ?_
    refine lv_icmp_le (tgt := 167) hx hb dX5_worked_160 (by decide) (fun c => ?_) (fun c => ?_)
    · skip
      have c_32 : x1.toInt ≤ x2.toInt := (by first | exact (bn_le c) | (have z := bn_le c; omega))
      refine lv_iconst (v := 0) hx hb dX5_worked_167 ic_0 ?_
      have k99 : (0 : Int32).toInt = 0 := ti_0
      exact hret _ _ _ _ (0) f L Q dX5_worked_168 hP hS ⟨⟨rfl, rfl, rfl⟩, trivial, (Eq.trans (Eq.symm (hs.trans (((if_neg (fun z => absurd (z.symm.trans cs_1) (by decide))).trans ((if_neg (fun z => absurd (z.symm.trans cs_1) (by decide))).trans ((if_neg (fun z => absurd (z.symm.trans cs_1) (by decide))).trans ((if_neg (fun z => absurd (z.symm.trans cs_1) (by decide))).trans ((if_neg (fun z => absurd (z.symm.trans cs_1) (by decide))).trans ((if_neg (fun z => absurd (z.symm.trans cs_1) (by decide))).trans ((if_neg (fun z => absurd (z.symm.trans cs_1) (by decide))).trans ((if_neg (fun z => absurd (z.symm.trans cs_1) (by decide))).trans ((if_neg (fun z => absurd (z.symm.trans cs_1) (by decide))).trans ((if_pos cs_1).trans ((if_neg (Int.not_lt.mpr c_32)).trans rfl)))))))))))))) hsp)⟩
    · skip
      have c_33 : x2.toInt < x1.toInt := (by first | exact (bn_nle c) | (have z := bn_nle c; omega))
      refine lv_iconst (v := 1) hx hb dX5_worked_163 ic_1 ?_
      refine lv_goto (tgt := 168) hx hb dX5_worked_164 (by decide) ?_
      have k99 : (1 : Int32).toInt = 1 := ti_1
      exact hret _ _ _ _ (1) f L Q dX5_worked_168 hP hS ⟨⟨rfl, rfl, rfl⟩, trivial, (Eq.trans (Eq.symm (hs.trans (((if_neg (fun z => absurd (z.symm.trans cs_1) (by decide))).trans ((if_neg (fun z => absurd (z.symm.trans cs_1) (by decide))).trans ((if_neg (fun z => absurd (z.symm.trans cs_1) (by decide))).trans ((if_neg (fun z => absurd (z.symm.trans cs_1) (by decide))).trans ((if_neg (fun z => absurd (z.symm.trans cs_1) (by decide))).trans ((if_neg (fun z => absurd (z.symm.trans cs_1) (by decide))).trans ((if_neg (fun z => absurd (z.symm.trans cs_1) (by decide))).trans ((if_neg (fun z => absurd (z.symm.trans cs_1) (by decide))).trans ((if_neg (fun z => absurd (z.symm.trans cs_1) (by decide))).trans ((if_pos cs_1).trans ((if_pos c_33).trans rfl)))))))))))))) hsp)⟩
  · skip
    have cs_1 := c
    have c_34 := c
    refine lv_lookup (x := x0) (tgt := 183) hx hb dX5_worked_1 (by decide) (by first | (rw [c]; done) | (rw [c]; decide)) (by decide) ?_
    refine lv_iload_n hx hb dX5_worked_183 rfl (lv_at hl 1 rfl) ?_
    refine lv_if_ne (tgt := 191) hx hb dX5_worked_184 (by decide) (fun c => ?_) (fun c => ?_)
    · skip
      have c_35 : x1.toInt ≠ 0 := (by first | exact (cm_ne1 ti_0 c) | (have z := bn_ne c; have k1 : (0 : Int32).toInt = 0 := ti_0; omega))
      refine lv_iconst (v := 1) hx hb dX5_worked_191 ic_1 ?_
      refine lv_goto (tgt := 196) hx hb dX5_worked_192 (by decide) ?_
      have k99 : (1 : Int32).toInt = 1 := ti_1
      exact hret _ _ _ _ (1) f L Q dX5_worked_196 hP hS ⟨⟨rfl, rfl, rfl⟩, trivial, (Eq.trans (Eq.symm (hs.trans (((if_neg (fun z => absurd (z.symm.trans cs_1) (by decide))).trans ((if_neg (fun z => absurd (z.symm.trans cs_1) (by decide))).trans ((if_neg (fun z => absurd (z.symm.trans cs_1) (by decide))).trans ((if_neg (fun z => absurd (z.symm.trans cs_1) (by decide))).trans ((if_neg (fun z => absurd (z.symm.trans cs_1) (by decide))).trans ((if_neg (fun z => absurd (z.symm.trans cs_1) (by decide))).trans ((if_neg (fun z => absurd (z.symm.trans cs_1) (by decide))).trans ((if_neg (fun z => absurd (z.symm.trans cs_1) (by decide))).trans ((if_neg (fun z => absurd (z.symm.trans cs_1) (by decide))).trans ((if_neg (fun z => absurd (z.symm.trans cs_1) (by decide))).trans ((if_pos cs_1).trans ((if_neg c_35).trans rfl))))))))))))))) hsp)⟩
    · skip
      have c_36 : x1.toInt = 0 := (by first | exact (cm_eq1 ti_0 c) | (have z := Int32.toInt_inj.mpr c; have k1 : (0 : Int32).toInt = 0 := ti_0; omega))
      replace hs := hs.trans ((if_neg (fun z => absurd (z.symm.trans cs_1) (by decide))).trans ((if_neg (fun z => absurd (z.symm.trans cs_1) (by decide))).trans ((if_neg (fun z => absurd (z.symm.trans cs_1) (by decide))).trans ((if_neg (fun z => absurd (z.symm.trans cs_1) (by decide))).trans ((if_neg (fun z => absurd (z.symm.trans cs_1) (by decide))).trans ((if_neg (fun z => absurd (z.symm.trans cs_1) (by decide))).trans ((if_neg (fun z => absurd (z.symm.trans cs_1) (by decide))).trans ((if_neg (fun z => absurd (z.symm.trans cs_1) (by decide))).trans ((if_neg (fun z => absurd (z.symm.trans cs_1) (by decide))).trans ((if_neg (fun z => absurd (z.symm.trans cs_1) (by decide))).trans ((if_pos cs_1).trans ((if_pos c_36).trans rfl))))))))))))
      refine lv_iload_n hx hb dX5_worked_187 rfl (lv_at hl 2 rfl) ?_
      refine lv_if_eq (tgt := 195) hx hb dX5_worked_188 (by decide) (fun c => ?_) (fun c => ?_)
      · skip
        have c_37 : x2.toInt = 0 := (by first | exact (cm_eq1 ti_0 c) | (have z := Int32.toInt_inj.mpr c; have k1 : (0 : Int32).toInt = 0 := ti_0; omega))
        refine lv_iconst (v := 0) hx hb dX5_worked_195 ic_0 ?_
        have k99 : (0 : Int32).toInt = 0 := ti_0
        exact hret _ _ _ _ (0) f L Q dX5_worked_196 hP hS ⟨⟨rfl, rfl, rfl⟩, trivial, (Eq.trans (Eq.symm (hs.trans ((if_pos c_37).trans rfl))) hsp)⟩
      · skip
        have c_38 : x2.toInt ≠ 0 := (by first | exact (cm_ne1 ti_0 c) | (have z := bn_ne c; have k1 : (0 : Int32).toInt = 0 := ti_0; omega))
        refine lv_iconst (v := 1) hx hb dX5_worked_191 ic_1 ?_
        refine lv_goto (tgt := 196) hx hb dX5_worked_192 (by decide) ?_
        have k99 : (1 : Int32).toInt = 1 := ti_1
        exact hret _ _ _ _ (1) f L Q dX5_worked_196 hP hS ⟨⟨rfl, rfl, rfl⟩, trivial, (Eq.trans (Eq.symm (hs.trans ((if_neg c_38).trans rfl))) hsp)⟩

set_option maxHeartbeats 4000000 in
set_option maxRecDepth 100000 in
theorem kX5_named (l : Launch) (D : va_G) (ca : Nat → ClassId) (za h : Nat → Nat) (hh : sgH 52 h) (f : sg_F) (L : sg_L) (Q : sg_Q) (hI : sgI loX hiX f) (x0 : Int32) (x1 : Int32) (x2 : Int32) (x3 : Int32) (x4 : Int32) (b1 : 0 ≤ x1.toInt ∧ x1.toInt ≤ 60) (b2 : 0 ≤ x2.toInt ∧ x2.toInt ≤ 60) (b3 : 0 ≤ x3.toInt ∧ x3.toInt ≤ 60) (b4 : 0 ≤ x4.toInt ∧ x4.toInt ≤ 2) (sz : Nat) : Met l yX5_named gwX5_named { frames := 1, cells := 0, slots := 0, locals := 21 } (sgP D vwCl (tyX ca) 52 h (eX ca h) zcX za f L Q sz [.int x0, .int x1, .int x2, .int x3, .int x4]) (sgQi D vwCl 52 h (eX ca h) sz (fun r f1 L1 Q1 => ((f1 = f ∧ L1 = L ∧ Q1 = Q) ∧ True ∧ (r) = sX5_named x0 x1 x2 x3 x4 f L))) 0 0 (sgA 52 h sz) := by
  refine sg_ofWi (cc := cX5_named) (maxL := 5) RX5 (by decide) rfl rfl (Nat.le_of_ble_eq_true rfl) ?_
  intro p e s m below meth cd Qz ls hx hb hml hown hts hK hZ hP hS hl hret
  have hA := sgY.self (n := 52) (h := h) (sz := s.heap.size)
  have hl : lv_has ls 5 [(0, .int x0), (1, .int x1), (2, .int x2), (3, .int x3), (4, .int x4)] := hl
  obtain ⟨H, hH⟩ : ∃ z : Heap, z = s.heap := ⟨_, rfl⟩
  obtain ⟨locs, hlo⟩ : ∃ z : List Loc, z = [] := ⟨_, rfl⟩
  have hP : va_P D vwCl (sgw 52 h (eX ca h) f L Q) H := by rw [hH]; exact hP
  have hS : va_S (sgA 52 h s.heap.size) s.heap H locs := by rw [hH, hlo]; exact hS
  suffices hgo : W p l e ({ frames := 1, cells := 0, slots := 0, locals := 21 }) s m ([.int x0, .int x1, .int x2, .int x3, .int x4] : List Value).toArray below meth cd H locs 0 0 Qz (F0 m 0 ls []) by rw [hH, hlo] at hgo; exact hgo
  clear hH hlo
  obtain ⟨sp, hsp⟩ : ∃ z : Int32, z = sX5_named x0 x1 x2 x3 x4 f L := ⟨_, rfl⟩
  have hs : sp = sX5_named x0 x1 x2 x3 x4 f L := hsp
  refine lv_iload_n hx hb dX5_named_0 rfl (lv_at hl 0 rfl) ?_
  rcases (show (x0.toInt ≠ 100 ∧ x0.toInt ≠ 104 ∧ x0.toInt ≠ 107 ∧ x0.toInt ≠ 115 ∧ x0.toInt ≠ 117 ∧ x0.toInt ≠ 119) ∨ x0.toInt = 100 ∨ x0.toInt = 104 ∨ x0.toInt = 107 ∨ x0.toInt = 115 ∨ x0.toInt = 117 ∨ x0.toInt = 119 from by omega) with c | c | c | c | c | c | c
  · skip
    have cs_1 := c
    replace hs := hs.trans ((if_neg cs_1.1).trans ((if_neg cs_1.2.1).trans ((if_neg cs_1.2.2.1).trans ((if_neg cs_1.2.2.2.1).trans ((if_neg cs_1.2.2.2.2.1).trans ((if_neg cs_1.2.2.2.2.2).trans rfl))))))
    rcases (show (x0.toInt < 100 ∨ 119 < x0.toInt) ∨ x0.toInt = 101 ∨ x0.toInt = 102 ∨ x0.toInt = 103 ∨ x0.toInt = 105 ∨ x0.toInt = 106 ∨ x0.toInt = 108 ∨ x0.toInt = 109 ∨ x0.toInt = 110 ∨ x0.toInt = 111 ∨ x0.toInt = 112 ∨ x0.toInt = 113 ∨ x0.toInt = 114 ∨ x0.toInt = 116 ∨ x0.toInt = 118 from by omega) with c9 | c9 | c9 | c9 | c9 | c9 | c9 | c9 | c9 | c9 | c9 | c9 | c9 | c9 | c9
    · skip
      refine lv_tableOut (x := x0) (tgt := 123) hx hb dX5_named_1 c9 (by decide) ?_
      refine lv_iload_n hx hb dX5_named_123 rfl (lv_at hl 0 rfl) ?_
      refine lv_sipush (v := 1000) hx hb dX5_named_124 (by decide) ?_
      refine lv_isub hx hb dX5_named_127 ?_
      refine lv_topi (fun v_2 ev_2 => ?_)
      exact hret _ _ _ _ (v_2) f L Q dX5_named_128 hP hS ⟨⟨rfl, rfl, rfl⟩, trivial, (Eq.trans (Eq.symm (hs.trans ((if_neg (by omega)).trans ((if_neg (by omega)).trans ((if_neg (by omega)).trans ((if_neg (by omega)).trans ((if_neg (by omega)).trans ((if_neg (by omega)).trans ((if_neg (by omega)).trans ((if_neg (by omega)).trans ((if_neg (by omega)).trans ((if_neg (by omega)).trans ((if_neg (by omega)).trans ((if_neg (by omega)).trans ((if_neg (by omega)).trans ((if_neg (by omega)).trans (spl_e ev_2 rfl))))))))))))))))) hsp)⟩
    · skip
      refine lv_tableIn (x := x0) (tgt := 123) hx hb dX5_named_1 (by omega) (by omega) (by rw [c9]; rfl) (by decide) ?_
      refine lv_iload_n hx hb dX5_named_123 rfl (lv_at hl 0 rfl) ?_
      refine lv_sipush (v := 1000) hx hb dX5_named_124 (by decide) ?_
      refine lv_isub hx hb dX5_named_127 ?_
      refine lv_topi (fun v_3 ev_3 => ?_)
      exact hret _ _ _ _ (v_3) f L Q dX5_named_128 hP hS ⟨⟨rfl, rfl, rfl⟩, trivial, (Eq.trans (Eq.symm (hs.trans ((if_pos c9).trans (spl_e ev_3 rfl)))) hsp)⟩
    · skip
      refine lv_tableIn (x := x0) (tgt := 123) hx hb dX5_named_1 (by omega) (by omega) (by rw [c9]; rfl) (by decide) ?_
      refine lv_iload_n hx hb dX5_named_123 rfl (lv_at hl 0 rfl) ?_
      refine lv_sipush (v := 1000) hx hb dX5_named_124 (by decide) ?_
      refine lv_isub hx hb dX5_named_127 ?_
      refine lv_topi (fun v_4 ev_4 => ?_)
      exact hret _ _ _ _ (v_4) f L Q dX5_named_128 hP hS ⟨⟨rfl, rfl, rfl⟩, trivial, (Eq.trans (Eq.symm (hs.trans ((if_neg (fun z => absurd (z.symm.trans c9) (by decide))).trans ((if_pos c9).trans (spl_e ev_4 rfl))))) hsp)⟩
    · skip
      refine lv_tableIn (x := x0) (tgt := 123) hx hb dX5_named_1 (by omega) (by omega) (by rw [c9]; rfl) (by decide) ?_
      refine lv_iload_n hx hb dX5_named_123 rfl (lv_at hl 0 rfl) ?_
      refine lv_sipush (v := 1000) hx hb dX5_named_124 (by decide) ?_
      refine lv_isub hx hb dX5_named_127 ?_
      refine lv_topi (fun v_5 ev_5 => ?_)
      exact hret _ _ _ _ (v_5) f L Q dX5_named_128 hP hS ⟨⟨rfl, rfl, rfl⟩, trivial, (Eq.trans (Eq.symm (hs.trans ((if_neg (fun z => absurd (z.symm.trans c9) (by decide))).trans ((if_neg (fun z => absurd (z.symm.trans c9) (by decide))).trans ((if_pos c9).trans (spl_e ev_5 rfl)))))) hsp)⟩
    · skip
      refine lv_tableIn (x := x0) (tgt := 123) hx hb dX5_named_1 (by omega) (by omega) (by rw [c9]; rfl) (by decide) ?_
      refine lv_iload_n hx hb dX5_named_123 rfl (lv_at hl 0 rfl) ?_
      refine lv_sipush (v := 1000) hx hb dX5_named_124 (by decide) ?_
      refine lv_isub hx hb dX5_named_127 ?_
      refine lv_topi (fun v_6 ev_6 => ?_)
      exact hret _ _ _ _ (v_6) f L Q dX5_named_128 hP hS ⟨⟨rfl, rfl, rfl⟩, trivial, (Eq.trans (Eq.symm (hs.trans ((if_neg (fun z => absurd (z.symm.trans c9) (by decide))).trans ((if_neg (fun z => absurd (z.symm.trans c9) (by decide))).trans ((if_neg (fun z => absurd (z.symm.trans c9) (by decide))).trans ((if_pos c9).trans (spl_e ev_6 rfl))))))) hsp)⟩
    · skip
      refine lv_tableIn (x := x0) (tgt := 123) hx hb dX5_named_1 (by omega) (by omega) (by rw [c9]; rfl) (by decide) ?_
      refine lv_iload_n hx hb dX5_named_123 rfl (lv_at hl 0 rfl) ?_
      refine lv_sipush (v := 1000) hx hb dX5_named_124 (by decide) ?_
      refine lv_isub hx hb dX5_named_127 ?_
      refine lv_topi (fun v_7 ev_7 => ?_)
      exact hret _ _ _ _ (v_7) f L Q dX5_named_128 hP hS ⟨⟨rfl, rfl, rfl⟩, trivial, (Eq.trans (Eq.symm (hs.trans ((if_neg (fun z => absurd (z.symm.trans c9) (by decide))).trans ((if_neg (fun z => absurd (z.symm.trans c9) (by decide))).trans ((if_neg (fun z => absurd (z.symm.trans c9) (by decide))).trans ((if_neg (fun z => absurd (z.symm.trans c9) (by decide))).trans ((if_pos c9).trans (spl_e ev_7 rfl)))))))) hsp)⟩
    · skip
      refine lv_tableIn (x := x0) (tgt := 123) hx hb dX5_named_1 (by omega) (by omega) (by rw [c9]; rfl) (by decide) ?_
      refine lv_iload_n hx hb dX5_named_123 rfl (lv_at hl 0 rfl) ?_
      refine lv_sipush (v := 1000) hx hb dX5_named_124 (by decide) ?_
      refine lv_isub hx hb dX5_named_127 ?_
      refine lv_topi (fun v_8 ev_8 => ?_)
      exact hret _ _ _ _ (v_8) f L Q dX5_named_128 hP hS ⟨⟨rfl, rfl, rfl⟩, trivial, (Eq.trans (Eq.symm (hs.trans ((if_neg (fun z => absurd (z.symm.trans c9) (by decide))).trans ((if_neg (fun z => absurd (z.symm.trans c9) (by decide))).trans ((if_neg (fun z => absurd (z.symm.trans c9) (by decide))).trans ((if_neg (fun z => absurd (z.symm.trans c9) (by decide))).trans ((if_neg (fun z => absurd (z.symm.trans c9) (by decide))).trans ((if_pos c9).trans (spl_e ev_8 rfl))))))))) hsp)⟩
    · skip
      refine lv_tableIn (x := x0) (tgt := 123) hx hb dX5_named_1 (by omega) (by omega) (by rw [c9]; rfl) (by decide) ?_
      refine lv_iload_n hx hb dX5_named_123 rfl (lv_at hl 0 rfl) ?_
      refine lv_sipush (v := 1000) hx hb dX5_named_124 (by decide) ?_
      refine lv_isub hx hb dX5_named_127 ?_
      refine lv_topi (fun v_9 ev_9 => ?_)
      exact hret _ _ _ _ (v_9) f L Q dX5_named_128 hP hS ⟨⟨rfl, rfl, rfl⟩, trivial, (Eq.trans (Eq.symm (hs.trans ((if_neg (fun z => absurd (z.symm.trans c9) (by decide))).trans ((if_neg (fun z => absurd (z.symm.trans c9) (by decide))).trans ((if_neg (fun z => absurd (z.symm.trans c9) (by decide))).trans ((if_neg (fun z => absurd (z.symm.trans c9) (by decide))).trans ((if_neg (fun z => absurd (z.symm.trans c9) (by decide))).trans ((if_neg (fun z => absurd (z.symm.trans c9) (by decide))).trans ((if_pos c9).trans (spl_e ev_9 rfl)))))))))) hsp)⟩
    · skip
      refine lv_tableIn (x := x0) (tgt := 123) hx hb dX5_named_1 (by omega) (by omega) (by rw [c9]; rfl) (by decide) ?_
      refine lv_iload_n hx hb dX5_named_123 rfl (lv_at hl 0 rfl) ?_
      refine lv_sipush (v := 1000) hx hb dX5_named_124 (by decide) ?_
      refine lv_isub hx hb dX5_named_127 ?_
      refine lv_topi (fun v_10 ev_10 => ?_)
      exact hret _ _ _ _ (v_10) f L Q dX5_named_128 hP hS ⟨⟨rfl, rfl, rfl⟩, trivial, (Eq.trans (Eq.symm (hs.trans ((if_neg (fun z => absurd (z.symm.trans c9) (by decide))).trans ((if_neg (fun z => absurd (z.symm.trans c9) (by decide))).trans ((if_neg (fun z => absurd (z.symm.trans c9) (by decide))).trans ((if_neg (fun z => absurd (z.symm.trans c9) (by decide))).trans ((if_neg (fun z => absurd (z.symm.trans c9) (by decide))).trans ((if_neg (fun z => absurd (z.symm.trans c9) (by decide))).trans ((if_neg (fun z => absurd (z.symm.trans c9) (by decide))).trans ((if_pos c9).trans (spl_e ev_10 rfl))))))))))) hsp)⟩
    · skip
      refine lv_tableIn (x := x0) (tgt := 123) hx hb dX5_named_1 (by omega) (by omega) (by rw [c9]; rfl) (by decide) ?_
      refine lv_iload_n hx hb dX5_named_123 rfl (lv_at hl 0 rfl) ?_
      refine lv_sipush (v := 1000) hx hb dX5_named_124 (by decide) ?_
      refine lv_isub hx hb dX5_named_127 ?_
      refine lv_topi (fun v_11 ev_11 => ?_)
      exact hret _ _ _ _ (v_11) f L Q dX5_named_128 hP hS ⟨⟨rfl, rfl, rfl⟩, trivial, (Eq.trans (Eq.symm (hs.trans ((if_neg (fun z => absurd (z.symm.trans c9) (by decide))).trans ((if_neg (fun z => absurd (z.symm.trans c9) (by decide))).trans ((if_neg (fun z => absurd (z.symm.trans c9) (by decide))).trans ((if_neg (fun z => absurd (z.symm.trans c9) (by decide))).trans ((if_neg (fun z => absurd (z.symm.trans c9) (by decide))).trans ((if_neg (fun z => absurd (z.symm.trans c9) (by decide))).trans ((if_neg (fun z => absurd (z.symm.trans c9) (by decide))).trans ((if_neg (fun z => absurd (z.symm.trans c9) (by decide))).trans ((if_pos c9).trans (spl_e ev_11 rfl)))))))))))) hsp)⟩
    · skip
      refine lv_tableIn (x := x0) (tgt := 123) hx hb dX5_named_1 (by omega) (by omega) (by rw [c9]; rfl) (by decide) ?_
      refine lv_iload_n hx hb dX5_named_123 rfl (lv_at hl 0 rfl) ?_
      refine lv_sipush (v := 1000) hx hb dX5_named_124 (by decide) ?_
      refine lv_isub hx hb dX5_named_127 ?_
      refine lv_topi (fun v_12 ev_12 => ?_)
      exact hret _ _ _ _ (v_12) f L Q dX5_named_128 hP hS ⟨⟨rfl, rfl, rfl⟩, trivial, (Eq.trans (Eq.symm (hs.trans ((if_neg (fun z => absurd (z.symm.trans c9) (by decide))).trans ((if_neg (fun z => absurd (z.symm.trans c9) (by decide))).trans ((if_neg (fun z => absurd (z.symm.trans c9) (by decide))).trans ((if_neg (fun z => absurd (z.symm.trans c9) (by decide))).trans ((if_neg (fun z => absurd (z.symm.trans c9) (by decide))).trans ((if_neg (fun z => absurd (z.symm.trans c9) (by decide))).trans ((if_neg (fun z => absurd (z.symm.trans c9) (by decide))).trans ((if_neg (fun z => absurd (z.symm.trans c9) (by decide))).trans ((if_neg (fun z => absurd (z.symm.trans c9) (by decide))).trans ((if_pos c9).trans (spl_e ev_12 rfl))))))))))))) hsp)⟩
    · skip
      refine lv_tableIn (x := x0) (tgt := 123) hx hb dX5_named_1 (by omega) (by omega) (by rw [c9]; rfl) (by decide) ?_
      refine lv_iload_n hx hb dX5_named_123 rfl (lv_at hl 0 rfl) ?_
      refine lv_sipush (v := 1000) hx hb dX5_named_124 (by decide) ?_
      refine lv_isub hx hb dX5_named_127 ?_
      refine lv_topi (fun v_13 ev_13 => ?_)
      exact hret _ _ _ _ (v_13) f L Q dX5_named_128 hP hS ⟨⟨rfl, rfl, rfl⟩, trivial, (Eq.trans (Eq.symm (hs.trans ((if_neg (fun z => absurd (z.symm.trans c9) (by decide))).trans ((if_neg (fun z => absurd (z.symm.trans c9) (by decide))).trans ((if_neg (fun z => absurd (z.symm.trans c9) (by decide))).trans ((if_neg (fun z => absurd (z.symm.trans c9) (by decide))).trans ((if_neg (fun z => absurd (z.symm.trans c9) (by decide))).trans ((if_neg (fun z => absurd (z.symm.trans c9) (by decide))).trans ((if_neg (fun z => absurd (z.symm.trans c9) (by decide))).trans ((if_neg (fun z => absurd (z.symm.trans c9) (by decide))).trans ((if_neg (fun z => absurd (z.symm.trans c9) (by decide))).trans ((if_neg (fun z => absurd (z.symm.trans c9) (by decide))).trans ((if_pos c9).trans (spl_e ev_13 rfl)))))))))))))) hsp)⟩
    · skip
      refine lv_tableIn (x := x0) (tgt := 123) hx hb dX5_named_1 (by omega) (by omega) (by rw [c9]; rfl) (by decide) ?_
      refine lv_iload_n hx hb dX5_named_123 rfl (lv_at hl 0 rfl) ?_
      refine lv_sipush (v := 1000) hx hb dX5_named_124 (by decide) ?_
      refine lv_isub hx hb dX5_named_127 ?_
      refine lv_topi (fun v_14 ev_14 => ?_)
      exact hret _ _ _ _ (v_14) f L Q dX5_named_128 hP hS ⟨⟨rfl, rfl, rfl⟩, trivial, (Eq.trans (Eq.symm (hs.trans ((if_neg (fun z => absurd (z.symm.trans c9) (by decide))).trans ((if_neg (fun z => absurd (z.symm.trans c9) (by decide))).trans ((if_neg (fun z => absurd (z.symm.trans c9) (by decide))).trans ((if_neg (fun z => absurd (z.symm.trans c9) (by decide))).trans ((if_neg (fun z => absurd (z.symm.trans c9) (by decide))).trans ((if_neg (fun z => absurd (z.symm.trans c9) (by decide))).trans ((if_neg (fun z => absurd (z.symm.trans c9) (by decide))).trans ((if_neg (fun z => absurd (z.symm.trans c9) (by decide))).trans ((if_neg (fun z => absurd (z.symm.trans c9) (by decide))).trans ((if_neg (fun z => absurd (z.symm.trans c9) (by decide))).trans ((if_neg (fun z => absurd (z.symm.trans c9) (by decide))).trans ((if_pos c9).trans (spl_e ev_14 rfl))))))))))))))) hsp)⟩
    · skip
      refine lv_tableIn (x := x0) (tgt := 123) hx hb dX5_named_1 (by omega) (by omega) (by rw [c9]; rfl) (by decide) ?_
      refine lv_iload_n hx hb dX5_named_123 rfl (lv_at hl 0 rfl) ?_
      refine lv_sipush (v := 1000) hx hb dX5_named_124 (by decide) ?_
      refine lv_isub hx hb dX5_named_127 ?_
      refine lv_topi (fun v_15 ev_15 => ?_)
      exact hret _ _ _ _ (v_15) f L Q dX5_named_128 hP hS ⟨⟨rfl, rfl, rfl⟩, trivial, (Eq.trans (Eq.symm (hs.trans ((if_neg (fun z => absurd (z.symm.trans c9) (by decide))).trans ((if_neg (fun z => absurd (z.symm.trans c9) (by decide))).trans ((if_neg (fun z => absurd (z.symm.trans c9) (by decide))).trans ((if_neg (fun z => absurd (z.symm.trans c9) (by decide))).trans ((if_neg (fun z => absurd (z.symm.trans c9) (by decide))).trans ((if_neg (fun z => absurd (z.symm.trans c9) (by decide))).trans ((if_neg (fun z => absurd (z.symm.trans c9) (by decide))).trans ((if_neg (fun z => absurd (z.symm.trans c9) (by decide))).trans ((if_neg (fun z => absurd (z.symm.trans c9) (by decide))).trans ((if_neg (fun z => absurd (z.symm.trans c9) (by decide))).trans ((if_neg (fun z => absurd (z.symm.trans c9) (by decide))).trans ((if_neg (fun z => absurd (z.symm.trans c9) (by decide))).trans ((if_pos c9).trans (spl_e ev_15 rfl)))))))))))))))) hsp)⟩
    · skip
      refine lv_tableIn (x := x0) (tgt := 123) hx hb dX5_named_1 (by omega) (by omega) (by rw [c9]; rfl) (by decide) ?_
      refine lv_iload_n hx hb dX5_named_123 rfl (lv_at hl 0 rfl) ?_
      refine lv_sipush (v := 1000) hx hb dX5_named_124 (by decide) ?_
      refine lv_isub hx hb dX5_named_127 ?_
      refine lv_topi (fun v_16 ev_16 => ?_)
      exact hret _ _ _ _ (v_16) f L Q dX5_named_128 hP hS ⟨⟨rfl, rfl, rfl⟩, trivial, (Eq.trans (Eq.symm (hs.trans ((if_neg (fun z => absurd (z.symm.trans c9) (by decide))).trans ((if_neg (fun z => absurd (z.symm.trans c9) (by decide))).trans ((if_neg (fun z => absurd (z.symm.trans c9) (by decide))).trans ((if_neg (fun z => absurd (z.symm.trans c9) (by decide))).trans ((if_neg (fun z => absurd (z.symm.trans c9) (by decide))).trans ((if_neg (fun z => absurd (z.symm.trans c9) (by decide))).trans ((if_neg (fun z => absurd (z.symm.trans c9) (by decide))).trans ((if_neg (fun z => absurd (z.symm.trans c9) (by decide))).trans ((if_neg (fun z => absurd (z.symm.trans c9) (by decide))).trans ((if_neg (fun z => absurd (z.symm.trans c9) (by decide))).trans ((if_neg (fun z => absurd (z.symm.trans c9) (by decide))).trans ((if_neg (fun z => absurd (z.symm.trans c9) (by decide))).trans ((if_neg (fun z => absurd (z.symm.trans c9) (by decide))).trans ((if_pos c9).trans (spl_e ev_16 rfl))))))))))))))))) hsp)⟩
  · skip
    have cs_1 := c
    have c_17 := c
    refine lv_tableIn (x := x0) (tgt := 96) hx hb dX5_named_1 (by omega) (by omega) (by rw [c]; rfl) (by decide) ?_
    refine lv_iload_n hx hb dX5_named_96 rfl (lv_at hl 1 rfl) ?_
    refine lv_iload_n hx hb dX5_named_97 rfl (lv_at hl 2 rfl) ?_
    refine lv_isub hx hb dX5_named_98 ?_
    refine lv_topi (fun v_18 ev_18 => ?_)
    have q_19 : v_18.toInt = x1.toInt - x2.toInt := by rw [ev_18]; first | exact bn_subI (by omega) (by omega) | exact (bn_subI (by omega) (by omega)).trans (by omega)
    refine va_mabs hx hb (hml.trans hl.1.symm) hown (hts _ (List.mem_cons_of_mem _ mw_592)) (hts _ (List.mem_cons_of_mem _ mw_90)) (hts _ (List.mem_cons_of_mem _ mw_11)) (hts _ (List.mem_cons_of_mem _ mw_91)) (Nat.le_of_ble_eq_true rfl) (Nat.le_of_ble_eq_true rfl) (Nat.le_refl _) (Nat.le_refl _) dX5_named_99 ?_
    refine lv_topi (fun v_20 ev_20 => ?_)
    have q_21 : (0 ≤ v_18.toInt ∧ v_20.toInt = v_18.toInt) ∨ (v_18.toInt < 0 ∧ v_20.toInt = -v_18.toInt) := by rw [ev_20]; exact bn_absI (by omega)
    exact hret _ _ _ _ (v_20) f L Q dX5_named_102 hP hS ⟨⟨rfl, rfl, rfl⟩, trivial, (Eq.trans (Eq.symm (hs.trans (((if_pos cs_1).trans (spl_e ev_18 (spl_e ev_20 rfl)))))) hsp)⟩
  · skip
    have cs_1 := c
    have c_22 := c
    refine lv_tableIn (x := x0) (tgt := 118) hx hb dX5_named_1 (by omega) (by omega) (by rw [c]; rfl) (by decide) ?_
    refine lv_iload_n hx hb dX5_named_118 rfl (lv_at hl 3 rfl) ?_
    exact hret _ _ _ _ (x3) f L Q dX5_named_119 hP hS ⟨⟨rfl, rfl, rfl⟩, trivial, (Eq.trans (Eq.symm (hs.trans (((if_neg (fun z => absurd (z.symm.trans cs_1) (by decide))).trans ((if_pos cs_1).trans rfl))))) hsp)⟩
  · skip
    have cs_1 := c
    have c_23 := c
    refine lv_tableIn (x := x0) (tgt := 120) hx hb dX5_named_1 (by omega) (by omega) (by rw [c]; rfl) (by decide) ?_
    refine lv_iload hx hb dX5_named_120 (lv_at hl 4 rfl) ?_
    exact hret _ _ _ _ (x4) f L Q dX5_named_122 hP hS ⟨⟨rfl, rfl, rfl⟩, trivial, (Eq.trans (Eq.symm (hs.trans (((if_neg (fun z => absurd (z.symm.trans cs_1) (by decide))).trans ((if_neg (fun z => absurd (z.symm.trans cs_1) (by decide))).trans ((if_pos cs_1).trans rfl)))))) hsp)⟩
  · skip
    have cs_1 := c
    have c_24 := c
    refine lv_tableIn (x := x0) (tgt := 114) hx hb dX5_named_1 (by omega) (by omega) (by rw [c]; rfl) (by decide) ?_
    refine lv_iload_n hx hb dX5_named_114 rfl (lv_at hl 1 rfl) ?_
    exact hret _ _ _ _ (x1) f L Q dX5_named_115 hP hS ⟨⟨rfl, rfl, rfl⟩, trivial, (Eq.trans (Eq.symm (hs.trans (((if_neg (fun z => absurd (z.symm.trans cs_1) (by decide))).trans ((if_neg (fun z => absurd (z.symm.trans cs_1) (by decide))).trans ((if_neg (fun z => absurd (z.symm.trans cs_1) (by decide))).trans ((if_pos cs_1).trans rfl))))))) hsp)⟩
  · skip
    have cs_1 := c
    have c_25 := c
    refine lv_tableIn (x := x0) (tgt := 103) hx hb dX5_named_1 (by omega) (by omega) (by rw [c]; rfl) (by decide) ?_
    refine lv_iload_n hx hb dX5_named_103 rfl (lv_at hl 1 rfl) ?_
    refine lv_iload_n hx hb dX5_named_104 rfl (lv_at hl 2 rfl) ?_
    refine lv_icmp_le (tgt := 112) hx hb dX5_named_105 (by decide) (fun c => ?_) (fun c => ?_)
    · skip
      have c_26 : x1.toInt ≤ x2.toInt := (by first | exact (bn_le c) | (have z := bn_le c; omega))
      refine lv_iconst (v := 0) hx hb dX5_named_112 ic_0 ?_
      have k99 : (0 : Int32).toInt = 0 := ti_0
      exact hret _ _ _ _ (0) f L Q dX5_named_113 hP hS ⟨⟨rfl, rfl, rfl⟩, trivial, (Eq.trans (Eq.symm (hs.trans (((if_neg (fun z => absurd (z.symm.trans cs_1) (by decide))).trans ((if_neg (fun z => absurd (z.symm.trans cs_1) (by decide))).trans ((if_neg (fun z => absurd (z.symm.trans cs_1) (by decide))).trans ((if_neg (fun z => absurd (z.symm.trans cs_1) (by decide))).trans ((if_pos cs_1).trans ((if_neg (Int.not_lt.mpr c_26)).trans rfl))))))))) hsp)⟩
    · skip
      have c_27 : x2.toInt < x1.toInt := (by first | exact (bn_nle c) | (have z := bn_nle c; omega))
      refine lv_iconst (v := 1) hx hb dX5_named_108 ic_1 ?_
      refine lv_goto (tgt := 113) hx hb dX5_named_109 (by decide) ?_
      have k99 : (1 : Int32).toInt = 1 := ti_1
      exact hret _ _ _ _ (1) f L Q dX5_named_113 hP hS ⟨⟨rfl, rfl, rfl⟩, trivial, (Eq.trans (Eq.symm (hs.trans (((if_neg (fun z => absurd (z.symm.trans cs_1) (by decide))).trans ((if_neg (fun z => absurd (z.symm.trans cs_1) (by decide))).trans ((if_neg (fun z => absurd (z.symm.trans cs_1) (by decide))).trans ((if_neg (fun z => absurd (z.symm.trans cs_1) (by decide))).trans ((if_pos cs_1).trans ((if_pos c_27).trans rfl))))))))) hsp)⟩
  · skip
    have cs_1 := c
    have c_28 := c
    refine lv_tableIn (x := x0) (tgt := 116) hx hb dX5_named_1 (by omega) (by omega) (by rw [c]; rfl) (by decide) ?_
    refine lv_iload_n hx hb dX5_named_116 rfl (lv_at hl 2 rfl) ?_
    exact hret _ _ _ _ (x2) f L Q dX5_named_117 hP hS ⟨⟨rfl, rfl, rfl⟩, trivial, (Eq.trans (Eq.symm (hs.trans (((if_neg (fun z => absurd (z.symm.trans cs_1) (by decide))).trans ((if_neg (fun z => absurd (z.symm.trans cs_1) (by decide))).trans ((if_neg (fun z => absurd (z.symm.trans cs_1) (by decide))).trans ((if_neg (fun z => absurd (z.symm.trans cs_1) (by decide))).trans ((if_neg (fun z => absurd (z.symm.trans cs_1) (by decide))).trans ((if_pos cs_1).trans rfl))))))))) hsp)⟩

abbrev WkX5_valueOf : List (Nat × Nat × Option Nat) := [(8, 8, none)]
set_option maxHeartbeats 4000000 in
set_option maxRecDepth 100000 in
theorem kX5_valueOf (l : Launch) (D : va_G) (ca : Nat → ClassId) (za h : Nat → Nat) (hh : sgH 52 h) (f : sg_F) (L : sg_L) (Q : sg_Q) (hI : sgI loX hiX f) (x0 : Int32) (x1 : Int32) (x2 : Int32) (x3 : Int32) (b0 : 0 ≤ x0.toInt ∧ x0.toInt ≤ 60) (b1 : 0 ≤ x1.toInt ∧ x1.toInt ≤ 60) (b2 : 0 ≤ x2.toInt ∧ x2.toInt ≤ 60) (b3 : 0 ≤ x3.toInt ∧ x3.toInt ≤ 2) (sz : Nat) : Met l yX5_valueOf gwX5_valueOf { frames := 2, cells := 0, slots := 0, locals := 45 } (sgP D vwCl (tyX ca) 52 h (eX ca h) zcX za f L Q sz [.ref (h 4), .int x0, .int x1, .int x2, .int x3]) (sgQi D vwCl 52 h (eX ca h) sz (fun r f1 L1 Q1 => ((sgI loX hiX f1 ∧ sgK WkX5_valueOf f f1 ∧ L1 = L ∧ Q1 = Q) ∧ True ∧ (r, f1) = sX5_valueOf x0 x1 x2 x3 f L))) 0 0 (sgA 52 h sz) := by
  refine sg_ofWi (cc := cX5_valueOf) (maxL := 10) RX5 (by decide) rfl rfl (Nat.le_of_ble_eq_true rfl) ?_
  intro p e s m below meth cd Qz ls hx hb hml hown hts hK hZ hP hS hl hret
  have hA := sgY.self (n := 52) (h := h) (sz := s.heap.size)
  have hl : lv_has ls 10 [(0, .ref (h 4)), (1, .int x0), (2, .int x1), (3, .int x2), (4, .int x3)] := hl
  obtain ⟨H, hH⟩ : ∃ z : Heap, z = s.heap := ⟨_, rfl⟩
  obtain ⟨locs, hlo⟩ : ∃ z : List Loc, z = [] := ⟨_, rfl⟩
  have hP : va_P D vwCl (sgw 52 h (eX ca h) f L Q) H := by rw [hH]; exact hP
  have hS : va_S (sgA 52 h s.heap.size) s.heap H locs := by rw [hH, hlo]; exact hS
  suffices hgo : W p l e ({ frames := 2, cells := 0, slots := 0, locals := 45 }) s m ([.ref (h 4), .int x0, .int x1, .int x2, .int x3] : List Value).toArray below meth cd H locs 0 0 Qz (F0 m 0 ls []) by rw [hH, hlo] at hgo; exact hgo
  clear hH hlo
  obtain ⟨sp, hsp⟩ : ∃ z : Int32 × sg_F, z = sX5_valueOf x0 x1 x2 x3 f L := ⟨_, rfl⟩
  have hs : sp = sX5_valueOf x0 x1 x2 x3 f L := hsp
  have hF : sgK WkX5_valueOf f f := sgK.rf
  have loop_9 : ∀ (n_9 : Nat) (y5_9 : Int32) (y6_9 : Int32) (y7_9 : Int32) (fp_9 : sg_F) (H : Heap) (locs : List Loc) (ls : Array Slot), sp = sX5_valueOf_l9 x0 x1 x2 x3 n_9 y5_9 y6_9 y7_9 fp_9 L → 121 - y7_9.toInt < (n_9 : Int) → 0 ≤ y5_9.toInt ∧ y5_9.toInt ≤ 1 → 0 ≤ y6_9.toInt ∧ y6_9.toInt ≤ 121 → 0 ≤ y7_9.toInt ∧ y7_9.toInt ≤ 121 → sgI loX hiX fp_9 → sgK WkX5_valueOf f fp_9 → va_P D vwCl (sgw 52 h (eX ca h) fp_9 L Q) H → va_S (sgA 52 h s.heap.size) s.heap H locs → lv_has ls 10 [(0, .ref (h 4)), (1, .int x0), (2, .int x1), (3, .int x2), (4, .int x3), (5, .int y5_9), (6, .int y6_9), (7, .int y7_9)] → W p l e ({ frames := 2, cells := 0, slots := 0, locals := 45 }) s m ([.ref (h 4), .int x0, .int x1, .int x2, .int x3] : List Value).toArray below meth cd H locs 0 0 Qz (F0 m 9 ls []) := by
    intro n_9
    induction n_9 with
    | zero => intro y5_9 y6_9 y7_9 fp_9 H locs ls hs hm_9 hy0_9 hy1_9 hy2_9 hI hF hP hS hl; exact absurd hm_9 (by omega)
    | succ n_9 ih_9 =>
      have blk_191 : ∀ (y5_191 : Int32) (y6_191 : Int32) (y7_191 : Int32) (fp_191 : sg_F) (H : Heap) (locs : List Loc) (ls : Array Slot), sp = sX5_valueOf_b191 (sX5_valueOf_l9 x0 x1 x2 x3 n_9) x0 x1 x2 x3 y5_191 y6_191 y7_191 fp_191 L → 121 - y7_191.toInt < ((n_9 + 1 : Nat) : Int) → 1 ≤ (fp_191 4 9).toInt ∧ (fp_191 4 9).toInt ≤ 121 → 0 ≤ y5_191.toInt ∧ y5_191.toInt ≤ 1 → 0 ≤ y6_191.toInt ∧ y6_191.toInt ≤ 121 → 0 ≤ y7_191.toInt ∧ y7_191.toInt ≤ 120 → sgI loX hiX fp_191 → sgK WkX5_valueOf f fp_191 → va_P D vwCl (sgw 52 h (eX ca h) fp_191 L Q) H → va_S (sgA 52 h s.heap.size) s.heap H locs → lv_has ls 10 [(0, .ref (h 4)), (1, .int x0), (2, .int x1), (3, .int x2), (4, .int x3), (5, .int y5_191), (6, .int y6_191), (7, .int y7_191)] → W p l e ({ frames := 2, cells := 0, slots := 0, locals := 45 }) s m ([.ref (h 4), .int x0, .int x1, .int x2, .int x3] : List Value).toArray below meth cd H locs 0 0 Qz (F0 m 191 ls []) := by
        intro y5_191 y6_191 y7_191 fp_191 H locs ls hs hm_9 hy0_191 hy1_191 hy2_191 hy3_191 hI hF hP hS hl
        obtain ⟨v_1, ev_1⟩ : ∃ z : Int32, z = fp_191 4 9 := ⟨_, rfl⟩
        have q_2 : 0 ≤ v_1.toInt ∧ v_1.toInt ≤ 121 := by rw [ev_1]; exact hI 4 9
        have q_3 : (fp_191 4 9).toInt = v_1.toInt := by rw [ev_1]
        obtain ⟨v_4, ev_4⟩ : ∃ z : Int32, z = y7_191 + 1 := ⟨_, rfl⟩
        have q_5 : v_4.toInt = y7_191.toInt + 1 := by rw [ev_4]; exact (bn_addc y7_191 1 (by decide) (by omega) (by omega))
        refine lv_iinc (v := v_4) (lv' := [(7, .int v_4), (0, .ref (h 4)), (1, .int x0), (2, .int x1), (3, .int x2), (4, .int x3), (5, .int y5_191), (6, .int y6_191)]) hx hb dX5_valueOf_191 hl (k := 7) rfl (by rw [ev_4]; rfl) (by decide) rfl (fun ls hl => ?_)
        refine lv_goto (tgt := 9) hx hb dX5_valueOf_194 (by decide) ?_
        exact ih_9 y5_191 y6_191 v_4 fp_191 _ _ _ (hs.trans ((spl_e ev_1 (spl_e ev_4 rfl)))) (by omega) hy1_191 hy2_191 ⟨by omega, by omega⟩ hI hF hP hS (lv_sub hl [1, 2, 3, 4, 5, 6, 7, 0] rfl)
      have blk_93 : ∀ (y5_93 : Int32) (y6_93 : Int32) (y7_93 : Int32) (y8_93 : Int32) (fp_93 : sg_F) (H : Heap) (locs : List Loc) (ls : Array Slot), sp = sX5_valueOf_b93 (sX5_valueOf_l9 x0 x1 x2 x3 n_9) x0 x1 x2 x3 y5_93 y6_93 y7_93 y8_93 fp_93 L → 121 - y7_93.toInt < ((n_9 + 1 : Nat) : Int) → 1 ≤ (fp_93 4 9).toInt ∧ (fp_93 4 9).toInt ≤ 121 → 0 ≤ y5_93.toInt ∧ y5_93.toInt ≤ 1 → 0 ≤ y6_93.toInt ∧ y6_93.toInt ≤ 121 → 0 ≤ y7_93.toInt ∧ y7_93.toInt ≤ 120 → sgI loX hiX fp_93 → sgK WkX5_valueOf f fp_93 → va_P D vwCl (sgw 52 h (eX ca h) fp_93 L Q) H → va_S (sgA 52 h s.heap.size) s.heap H locs → lv_has ls 10 [(0, .ref (h 4)), (1, .int x0), (2, .int x1), (3, .int x2), (4, .int x3), (5, .int y5_93), (6, .int y6_93), (7, .int y7_93), (8, .int y8_93)] → W p l e ({ frames := 2, cells := 0, slots := 0, locals := 45 }) s m ([.ref (h 4), .int x0, .int x1, .int x2, .int x3] : List Value).toArray below meth cd H locs 0 0 Qz (F0 m 93 ls []) := by
        intro y5_93 y6_93 y7_93 y8_93 fp_93 H locs ls hs hm_9 hy0_93 hy1_93 hy2_93 hy3_93 hI hF hP hS hl
        obtain ⟨v_6, ev_6⟩ : ∃ z : Int32, z = fp_93 4 9 := ⟨_, rfl⟩
        replace hs := hs.trans (spl_e ev_6 rfl)
        have q_7 : 0 ≤ v_6.toInt ∧ v_6.toInt ≤ 121 := by rw [ev_6]; exact hI 4 9
        have q_8 : (fp_93 4 9).toInt = v_6.toInt := by rw [ev_6]
        refine lv_iload hx hb dX5_valueOf_93 (lv_at hl 5 rfl) ?_
        refine lv_if_ne (tgt := 191) hx hb dX5_valueOf_95 (by decide) (fun c => ?_) (fun c => ?_)
        · skip
          have c_9 : y5_93.toInt ≠ 0 := (by first | exact (cm_ne1 ti_0 c) | (have z := bn_ne c; have k1 : (0 : Int32).toInt = 0 := ti_0; omega))
          exact blk_191 y5_93 y6_93 y7_93 fp_93 _ _ _ (hs.trans ((if_neg c_9).trans rfl)) hm_9 (by have zz4_9 : (fp_93 4 9).toInt = v_6.toInt := (congrArg Int32.toInt (show fp_93 4 9 = v_6 from ev_6.symm)); exact ⟨by omega, by omega⟩) hy1_93 hy2_93 hy3_93 hI hF hP hS (lv_sub hl [0, 1, 2, 3, 4, 5, 6, 7] rfl)
        · skip
          have c_10 : y5_93.toInt = 0 := (by first | exact (cm_eq1 ti_0 c) | (have z := Int32.toInt_inj.mpr c; have k1 : (0 : Int32).toInt = 0 := ti_0; omega))
          refine lv_iload hx hb dX5_valueOf_98 (lv_at hl 6 rfl) ?_
          refine lv_iload hx hb dX5_valueOf_100 (lv_at hl 8 rfl) ?_
          refine sg_calli (va_runS (As := [.int y8_93]) (rest := [.int y6_93]) ⟨hx, hb, hml, hown, hts⟩ (kX5_operands l D ca za h hh fp_93 L Q hI y8_93 H.size) (va_cwS 1 hts (gw_S (fun _ h => List.mem_cons_of_mem _ h) mw_590 mw_591 mw_73 mw_589) rfl rfl rfl hd_yX5_operands.2 ⟨Nat.le_of_ble_eq_true rfl, Nat.le_of_ble_eq_true rfl⟩) (sg_preS hA hK hP hS hZ) rfl rfl hl.1 rfl (lv_room (Nat.le_of_ble_eq_true rfl)) dX5_valueOf_102 ⟨Nat.le_refl _, Nat.le_refl _⟩) hA hS (fun r_14 f_11 L_12 Q_13 H locs hq hP hS => ?_)
          obtain ⟨⟨ef9, eL9, eQ9⟩, hq, u_15⟩ := hq
          rw [ef9, eL9, eQ9] at hP; clear ef9 eL9 eQ9
          refine lv_isub hx hb dX5_valueOf_105 ?_
          refine lv_topi (fun v_16 ev_16 => ?_)
          replace hs := hs.trans ((if_pos c_10).trans (spl_e u_15 (spl_e ev_16 rfl)))
          have q_17 : v_16.toInt = y6_93.toInt - r_14.toInt := by rw [ev_16]; first | exact bn_subI (by omega) (by omega) | exact (bn_subI (by omega) (by omega)).trans (by omega)
          refine lv_istore (lv' := [(6, .int v_16), (0, .ref (h 4)), (1, .int x0), (2, .int x1), (3, .int x2), (4, .int x3), (5, .int y5_93), (7, .int y7_93), (8, .int y8_93)]) hx hb dX5_valueOf_106 hl (by decide) rfl (fun ls hl => ?_)
          refine lv_iload hx hb dX5_valueOf_108 (lv_at hl 0 rfl) ?_
          refine lv_if_lt (tgt := 125) hx hb dX5_valueOf_110 (by decide) (fun c => ?_) (fun c => ?_)
          · skip
            have c_18 : v_16.toInt < 0 := (by first | exact (cm_lt1 ti_0 c) | (have z := bn_lt c; have k1 : (0 : Int32).toInt = 0 := ti_0; omega))
            refine lv_iconst (v := 0) hx hb dX5_valueOf_125 ic_0 ?_
            have k99 : (0 : Int32).toInt = 0 := ti_0
            exact hret _ _ _ _ (0) fp_93 L Q dX5_valueOf_126 hP hS ⟨⟨hI, hF, rfl, rfl⟩, trivial, (Eq.trans (Eq.symm (hs.trans ((if_pos c_18).trans rfl))) hsp)⟩
          · skip
            have c_19 : 0 ≤ v_16.toInt := (by first | exact (cm_nlt1 ti_0 c) | (have z := bn_nlt c; have k1 : (0 : Int32).toInt = 0 := ti_0; omega))
            refine lv_iload hx hb dX5_valueOf_113 (lv_at hl 0 rfl) ?_
            refine lv_iconst (v := 1) hx hb dX5_valueOf_115 ic_1 ?_
            refine lv_iadd hx hb dX5_valueOf_116 ?_
            refine lv_topi (fun v_20 ev_20 => ?_)
            replace hs := hs.trans ((if_neg (Int.not_lt.mpr c_19)).trans (spl_e ev_20 rfl))
            have q_21 : v_20.toInt = v_16.toInt + 1 := by rw [ev_20]; first | exact cm_add ti_1 (by omega) (by omega) | (have k1 : (1 : Int32).toInt = 1 := ti_1; exact (bn_addI (by omega) (by omega)).trans (by omega))
            refine lv_aload_n hx hb dX5_valueOf_117 rfl (lv_at hl 1 rfl) ?_
            refine sl_gX_4_5_5 hx hb hts hown hK hP dX5_valueOf_118 ?_
            refine sg_alen hx hb hK hP 8 (by decide) 0 rfl rfl (v := 122) rfl dX5_valueOf_121 ?_
            refine lv_icmp_lt (tgt := 127) hx hb dX5_valueOf_122 (by decide) (fun c => ?_) (fun c => ?_)
            · skip
              have c_22 : v_20.toInt < 122 := (by first | exact (cm_lt1 ti_122 c) | (have z := bn_lt c; have k1 : (122 : Int32).toInt = 122 := ti_122; omega))
              replace hs := hs.trans ((if_pos c_22).trans rfl)
              refine lv_iload hx hb dX5_valueOf_127 (lv_at hl 8 rfl) ?_
              refine sg_calli (va_runS (As := [.int y8_93]) (rest := []) ⟨hx, hb, hml, hown, hts⟩ (kX5_operands l D ca za h hh fp_93 L Q hI y8_93 H.size) (va_cwS 1 hts (gw_S (fun _ h => List.mem_cons_of_mem _ h) mw_590 mw_591 mw_73 mw_589) rfl rfl rfl hd_yX5_operands.2 ⟨Nat.le_of_ble_eq_true rfl, Nat.le_of_ble_eq_true rfl⟩) (sg_preS hA hK hP hS hZ) rfl rfl hl.1 rfl (lv_room (Nat.le_of_ble_eq_true rfl)) dX5_valueOf_129 ⟨Nat.le_refl _, Nat.le_refl _⟩) hA hS (fun r_27 f_24 L_25 Q_26 H locs hq hP hS => ?_)
              obtain ⟨⟨ef9, eL9, eQ9⟩, hq, u_28⟩ := hq
              rw [ef9, eL9, eQ9] at hP; clear ef9 eL9 eQ9
              rw [show r_27 = r_14 from u_28.trans u_15.symm]
              refine lv_if_ne (tgt := 139) hx hb dX5_valueOf_132 (by decide) (fun c => ?_) (fun c => ?_)
              · skip
                have c_29 : r_14.toInt ≠ 0 := (by first | exact (cm_ne1 ti_0 c) | (have z := bn_ne c; have k1 : (0 : Int32).toInt = 0 := ti_0; omega))
                refine lv_iconst (v := 0) hx hb dX5_valueOf_139 ic_0 ?_
                refine lv_istore (lv' := [(9, .int 0), (6, .int v_16), (0, .ref (h 4)), (1, .int x0), (2, .int x1), (3, .int x2), (4, .int x3), (5, .int y5_93), (7, .int y7_93), (8, .int y8_93)]) hx hb dX5_valueOf_140 hl (by decide) rfl (fun ls hl => ?_)
                refine lv_aload_n hx hb dX5_valueOf_142 rfl (lv_at hl 2 rfl) ?_
                refine sl_gX_4_5_5 hx hb hts hown hK hP dX5_valueOf_143 ?_
                refine lv_iload hx hb dX5_valueOf_146 (lv_at hl 1 rfl) ?_
                refine lv_iload hx hb dX5_valueOf_148 (lv_at hl 0 rfl) ?_
                refine lv_if_eq (tgt := 166) hx hb dX5_valueOf_150 (by decide) (fun c => ?_) (fun c => absurd c (by decide))
                refine lv_iload hx hb dX5_valueOf_166 (lv_at hl 9 rfl) ?_
                refine lv_aload_n hx hb dX5_valueOf_168 rfl (lv_at hl 2 rfl) ?_
                refine sl_gX_4_5_5 hx hb hts hown hK hP dX5_valueOf_169 ?_
                refine lv_iload hx hb dX5_valueOf_172 (lv_at hl 1 rfl) ?_
                refine sg_iald hx hb hK hP 8 (by decide) 0 rfl rfl (i := v_16) (vp_in_iff.mpr ⟨by omega, by omega⟩) dX5_valueOf_174 ?_
                refine lv_topi (fun v_31 ev_31 => ?_)
                refine lv_aload_n hx hb dX5_valueOf_175 rfl (lv_at hl 2 rfl) ?_
                refine sl_gX_4_5_5 hx hb hts hown hK hP dX5_valueOf_176 ?_
                refine lv_iload hx hb dX5_valueOf_179 (lv_at hl 1 rfl) ?_
                refine lv_iconst (v := 1) hx hb dX5_valueOf_181 ic_1 ?_
                refine lv_iadd hx hb dX5_valueOf_182 ?_
                rw [← ev_20]
                refine sg_iald hx hb hK hP 8 (by decide) 0 rfl rfl (i := v_20) (vp_in_iff.mpr ⟨by omega, by omega⟩) dX5_valueOf_183 ?_
                refine lv_topi (fun v_32 ev_32 => ?_)
                refine sg_calli (va_runS (As := [.int y8_93, .int v_31, .int v_32]) (rest := [.int v_16, .ref (h 8)]) ⟨hx, hb, hml, hown, hts⟩ (kX5_worked l D ca za h hh fp_93 L Q hI y8_93 v_31 v_32 H.size) (va_cwS 3 hts (gw_S (fun _ h => List.mem_cons_of_mem _ h) mw_594 mw_595 mw_73 mw_593) rfl rfl rfl hd_yX5_worked.2 ⟨Nat.le_of_ble_eq_true rfl, Nat.le_of_ble_eq_true rfl⟩) (sg_preS hA hK hP hS hZ) rfl rfl hl.1 rfl (lv_room (Nat.le_of_ble_eq_true rfl)) dX5_valueOf_184 ⟨Nat.le_refl _, Nat.le_refl _⟩) hA hS (fun r_36 f_33 L_34 Q_35 H locs hq hP hS => ?_)
                obtain ⟨⟨ef9, eL9, eQ9⟩, hq, u_37⟩ := hq
                rw [ef9, eL9, eQ9] at hP; clear ef9 eL9 eQ9
                refine sg_iast hx hb hh hA hK hP hS 8 (by decide) 0 (fun _ => rfl) rfl (i := v_16) (x := r_36) (vp_in_iff.mpr ⟨by omega, by omega⟩) dX5_valueOf_187 (fun f_38 H locs ef_38 hP hS => ?_)
                have hI : sgI loX hiX f_38 := by rw [ef_38]; exact sgI.put hI 8 v_16.toNatClampNeg (bn_top _)
                have hF : sgK WkX5_valueOf f f_38 := sgK.put hF ef_38 (by rfl)
                obtain ⟨v_39, ev_39⟩ : ∃ z : Int32, z = v_16 + 1 := ⟨_, rfl⟩
                have q_40 : v_39.toInt = v_16.toInt + 1 := by rw [ev_39]; exact (bn_addc v_16 1 (by decide) (by omega) (by omega))
                refine lv_iinc (v := v_39) (lv' := [(6, .int v_39), (9, .int 0), (0, .ref (h 4)), (1, .int x0), (2, .int x1), (3, .int x2), (4, .int x3), (5, .int y5_93), (7, .int y7_93), (8, .int y8_93)]) hx hb dX5_valueOf_188 hl (k := 1) rfl (by rw [ev_39]; rfl) (by decide) rfl (fun ls hl => ?_)
                exact blk_191 y5_93 v_39 y7_93 f_38 _ _ _ (hs.trans ((if_neg c_29).trans (spl_e ev_31 (spl_e ev_32 (spl_e u_37 (spl_e ef_38 (spl_e ev_39 rfl))))))) hm_9 (by have zz4_9 : (f_38 4 9).toInt = v_6.toInt := (congrArg Int32.toInt (show f_38 4 9 = v_6 from (by rw [ef_38, sg_up_n (by decide)]; exact ev_6.symm))); exact ⟨by omega, by omega⟩) hy1_93 ⟨by omega, by omega⟩ hy3_93 hI hF hP hS (lv_sub hl [2, 3, 4, 5, 6, 7, 0, 8] rfl)
              · skip
                have c_30 : r_14.toInt = 0 := (by first | exact (cm_eq1 ti_0 c) | (have z := Int32.toInt_inj.mpr c; have k1 : (0 : Int32).toInt = 0 := ti_0; omega))
                refine lv_iconst (v := 1) hx hb dX5_valueOf_135 ic_1 ?_
                refine lv_goto (tgt := 140) hx hb dX5_valueOf_136 (by decide) ?_
                refine lv_istore (lv' := [(9, .int 1), (6, .int v_16), (0, .ref (h 4)), (1, .int x0), (2, .int x1), (3, .int x2), (4, .int x3), (5, .int y5_93), (7, .int y7_93), (8, .int y8_93)]) hx hb dX5_valueOf_140 hl (by decide) rfl (fun ls hl => ?_)
                refine lv_aload_n hx hb dX5_valueOf_142 rfl (lv_at hl 2 rfl) ?_
                refine sl_gX_4_5_5 hx hb hts hown hK hP dX5_valueOf_143 ?_
                refine lv_iload hx hb dX5_valueOf_146 (lv_at hl 1 rfl) ?_
                refine lv_iload hx hb dX5_valueOf_148 (lv_at hl 0 rfl) ?_
                refine lv_if_eq (tgt := 166) hx hb dX5_valueOf_150 (by decide) (fun c => absurd c (by decide)) (fun c => ?_)
                refine lv_iload hx hb dX5_valueOf_153 (lv_at hl 9 rfl) ?_
                refine lv_iload_n hx hb dX5_valueOf_155 rfl (lv_at hl 3 rfl) ?_
                refine lv_iload_n hx hb dX5_valueOf_156 rfl (lv_at hl 4 rfl) ?_
                refine lv_iload_n hx hb dX5_valueOf_157 rfl (lv_at hl 5 rfl) ?_
                refine lv_iload hx hb dX5_valueOf_158 (lv_at hl 6 rfl) ?_
                refine sg_calli (va_runS (As := [.int y8_93, .int x0, .int x1, .int x2, .int x3]) (rest := [.int v_16, .ref (h 8)]) ⟨hx, hb, hml, hown, hts⟩ (kX5_named l D ca za h hh fp_93 L Q hI y8_93 x0 x1 x2 x3 b0 b1 b2 b3 H.size) (va_cwS 5 hts (gw_S (fun _ h => List.mem_cons_of_mem _ h) mw_597 mw_598 mw_73 mw_596) rfl rfl rfl hd_yX5_named.2 ⟨Nat.le_of_ble_eq_true rfl, Nat.le_of_ble_eq_true rfl⟩) (sg_preS hA hK hP hS hZ) rfl rfl hl.1 rfl (lv_room (Nat.le_of_ble_eq_true rfl)) dX5_valueOf_160 ⟨Nat.le_refl _, Nat.le_refl _⟩) hA hS (fun r_44 f_41 L_42 Q_43 H locs hq hP hS => ?_)
                obtain ⟨⟨ef9, eL9, eQ9⟩, hq, u_45⟩ := hq
                rw [ef9, eL9, eQ9] at hP; clear ef9 eL9 eQ9
                refine lv_goto (tgt := 187) hx hb dX5_valueOf_163 (by decide) ?_
                refine sg_iast hx hb hh hA hK hP hS 8 (by decide) 0 (fun _ => rfl) rfl (i := v_16) (x := r_44) (vp_in_iff.mpr ⟨by omega, by omega⟩) dX5_valueOf_187 (fun f_46 H locs ef_46 hP hS => ?_)
                have hI : sgI loX hiX f_46 := by rw [ef_46]; exact sgI.put hI 8 v_16.toNatClampNeg (bn_top _)
                have hF : sgK WkX5_valueOf f f_46 := sgK.put hF ef_46 (by rfl)
                obtain ⟨v_47, ev_47⟩ : ∃ z : Int32, z = v_16 + 1 := ⟨_, rfl⟩
                have q_48 : v_47.toInt = v_16.toInt + 1 := by rw [ev_47]; exact (bn_addc v_16 1 (by decide) (by omega) (by omega))
                refine lv_iinc (v := v_47) (lv' := [(6, .int v_47), (9, .int 1), (0, .ref (h 4)), (1, .int x0), (2, .int x1), (3, .int x2), (4, .int x3), (5, .int y5_93), (7, .int y7_93), (8, .int y8_93)]) hx hb dX5_valueOf_188 hl (k := 1) rfl (by rw [ev_47]; rfl) (by decide) rfl (fun ls hl => ?_)
                exact blk_191 y5_93 v_47 y7_93 f_46 _ _ _ (hs.trans ((if_pos c_30).trans (spl_e u_45 (spl_e ef_46 (spl_e ev_47 rfl))))) hm_9 (by have zz4_9 : (f_46 4 9).toInt = v_6.toInt := (congrArg Int32.toInt (show f_46 4 9 = v_6 from (by rw [ef_46, sg_up_n (by decide)]; exact ev_6.symm))); exact ⟨by omega, by omega⟩) hy1_93 ⟨by omega, by omega⟩ hy3_93 hI hF hP hS (lv_sub hl [2, 3, 4, 5, 6, 7, 0, 8] rfl)
            · skip
              have c_23 : 122 ≤ v_20.toInt := (by first | exact (cm_nlt1 ti_122 c) | (have z := bn_nlt c; have k1 : (122 : Int32).toInt = 122 := ti_122; omega))
              refine lv_iconst (v := 0) hx hb dX5_valueOf_125 ic_0 ?_
              have k99 : (0 : Int32).toInt = 0 := ti_0
              exact hret _ _ _ _ (0) fp_93 L Q dX5_valueOf_126 hP hS ⟨⟨hI, hF, rfl, rfl⟩, trivial, (Eq.trans (Eq.symm (hs.trans ((if_neg (Int.not_lt.mpr c_23)).trans rfl))) hsp)⟩
      have blk_46 : ∀ (y5_46 : Int32) (y6_46 : Int32) (y7_46 : Int32) (y8_46 : Int32) (fp_46 : sg_F) (H : Heap) (locs : List Loc) (ls : Array Slot), sp = sX5_valueOf_b46 (sX5_valueOf_l9 x0 x1 x2 x3 n_9) x0 x1 x2 x3 y5_46 y6_46 y7_46 y8_46 fp_46 L → 121 - y7_46.toInt < ((n_9 + 1 : Nat) : Int) → 1 ≤ (fp_46 4 9).toInt ∧ (fp_46 4 9).toInt ≤ 121 → 0 ≤ y5_46.toInt ∧ y5_46.toInt ≤ 1 → 0 ≤ y6_46.toInt ∧ y6_46.toInt ≤ 121 → 0 ≤ y7_46.toInt ∧ y7_46.toInt ≤ 120 → sgI loX hiX fp_46 → sgK WkX5_valueOf f fp_46 → va_P D vwCl (sgw 52 h (eX ca h) fp_46 L Q) H → va_S (sgA 52 h s.heap.size) s.heap H locs → lv_has ls 10 [(0, .ref (h 4)), (1, .int x0), (2, .int x1), (3, .int x2), (4, .int x3), (5, .int y5_46), (6, .int y6_46), (7, .int y7_46), (8, .int y8_46)] → W p l e ({ frames := 2, cells := 0, slots := 0, locals := 45 }) s m ([.ref (h 4), .int x0, .int x1, .int x2, .int x3] : List Value).toArray below meth cd H locs 0 0 Qz (F0 m 46 ls []) := by
        intro y5_46 y6_46 y7_46 y8_46 fp_46 H locs ls hs hm_9 hy0_46 hy1_46 hy2_46 hy3_46 hI hF hP hS hl
        obtain ⟨v_49, ev_49⟩ : ∃ z : Int32, z = fp_46 4 9 := ⟨_, rfl⟩
        replace hs := hs.trans (spl_e ev_49 rfl)
        have q_50 : 0 ≤ v_49.toInt ∧ v_49.toInt ≤ 121 := by rw [ev_49]; exact hI 4 9
        have q_51 : (fp_46 4 9).toInt = v_49.toInt := by rw [ev_49]
        refine lv_iload hx hb dX5_valueOf_46 (lv_at hl 8 rfl) ?_
        refine lv_bipush (v := 59) hx hb dX5_valueOf_48 bp_59 ?_
        refine lv_icmp_ne (tgt := 59) hx hb dX5_valueOf_50 (by decide) (fun c => ?_) (fun c => ?_)
        · skip
          have c_52 : y8_46.toInt ≠ 59 := (by first | exact (cm_ne1 ti_59 c) | (have z := bn_ne c; have k1 : (59 : Int32).toInt = 59 := ti_59; omega))
          replace hs := hs.trans ((if_neg c_52).trans rfl)
          refine lv_iload hx hb dX5_valueOf_59 (lv_at hl 8 rfl) ?_
          refine lv_bipush (v := 63) hx hb dX5_valueOf_61 bp_63 ?_
          refine lv_icmp_ne (tgt := 93) hx hb dX5_valueOf_63 (by decide) (fun c => ?_) (fun c => ?_)
          · skip
            have c_54 : y8_46.toInt ≠ 63 := (by first | exact (cm_ne1 ti_63 c) | (have z := bn_ne c; have k1 : (63 : Int32).toInt = 63 := ti_63; omega))
            exact blk_93 y5_46 y6_46 y7_46 y8_46 fp_46 _ _ _ (hs.trans ((if_neg c_54).trans rfl)) hm_9 (by have zz4_9 : (fp_46 4 9).toInt = v_49.toInt := (congrArg Int32.toInt (show fp_46 4 9 = v_49 from ev_49.symm)); exact ⟨by omega, by omega⟩) hy1_46 hy2_46 hy3_46 hI hF hP hS (lv_sub hl [0, 1, 2, 3, 4, 5, 6, 7, 8] rfl)
          · skip
            have c_55 : y8_46.toInt = 63 := (by first | exact (cm_eq1 ti_63 c) | (have z := Int32.toInt_inj.mpr c; have k1 : (63 : Int32).toInt = 63 := ti_63; omega))
            replace hs := hs.trans ((if_pos c_55).trans rfl)
            refine lv_iload hx hb dX5_valueOf_66 (lv_at hl 5 rfl) ?_
            refine lv_if_ne (tgt := 93) hx hb dX5_valueOf_68 (by decide) (fun c => ?_) (fun c => ?_)
            · skip
              have c_56 : y5_46.toInt ≠ 0 := (by first | exact (cm_ne1 ti_0 c) | (have z := bn_ne c; have k1 : (0 : Int32).toInt = 0 := ti_0; omega))
              exact blk_93 y5_46 y6_46 y7_46 y8_46 fp_46 _ _ _ (hs.trans ((if_neg c_56).trans rfl)) hm_9 (by have zz4_9 : (fp_46 4 9).toInt = v_49.toInt := (congrArg Int32.toInt (show fp_46 4 9 = v_49 from ev_49.symm)); exact ⟨by omega, by omega⟩) hy1_46 hy2_46 hy3_46 hI hF hP hS (lv_sub hl [0, 1, 2, 3, 4, 5, 6, 7, 8] rfl)
            · skip
              have c_57 : y5_46.toInt = 0 := (by first | exact (cm_eq1 ti_0 c) | (have z := Int32.toInt_inj.mpr c; have k1 : (0 : Int32).toInt = 0 := ti_0; omega))
              refine lv_aload_n hx hb dX5_valueOf_71 rfl (lv_at hl 0 rfl) ?_
              refine sl_gX_4_5_5 hx hb hts hown hK hP dX5_valueOf_72 ?_
              refine lv_iconst (v := 0) hx hb dX5_valueOf_75 ic_0 ?_
              refine sg_iald hx hb hK hP 8 (by decide) 0 rfl rfl (i := 0) (vp_in_iff.mpr (by decide)) dX5_valueOf_76 ?_
              refine lv_topi (fun v_58 ev_58 => ?_)
              replace hs := hs.trans ((if_pos c_57).trans (spl_e ev_58 rfl))
              refine lv_if_ne (tgt := 84) hx hb dX5_valueOf_77 (by decide) (fun c => ?_) (fun c => ?_)
              · skip
                have c_59 : v_58.toInt ≠ 0 := (by first | exact (cm_ne1 ti_0 c) | (have z := bn_ne c; have k1 : (0 : Int32).toInt = 0 := ti_0; omega))
                refine lv_iconst (v := 0) hx hb dX5_valueOf_84 ic_0 ?_
                refine lv_istore (lv' := [(5, .int 0), (0, .ref (h 4)), (1, .int x0), (2, .int x1), (3, .int x2), (4, .int x3), (6, .int y6_46), (7, .int y7_46), (8, .int y8_46)]) hx hb dX5_valueOf_85 hl (by decide) rfl (fun ls hl => ?_)
                refine lv_iconst (v := 0) hx hb dX5_valueOf_87 ic_0 ?_
                refine lv_istore (lv' := [(6, .int 0), (5, .int 0), (0, .ref (h 4)), (1, .int x0), (2, .int x1), (3, .int x2), (4, .int x3), (7, .int y7_46), (8, .int y8_46)]) hx hb dX5_valueOf_88 hl (by decide) rfl (fun ls hl => ?_)
                refine lv_goto (tgt := 191) hx hb dX5_valueOf_90 (by decide) ?_
                exact blk_191 0 0 y7_46 fp_46 _ _ _ (hs.trans ((if_neg c_59).trans rfl)) (by have kc0 : (0 : Int32).toInt = 0 := ti_0; have kc1 : (0 : Int32).toInt = 0 := ti_0; omega) (by have zz4_9 : (fp_46 4 9).toInt = v_49.toInt := (congrArg Int32.toInt (show fp_46 4 9 = v_49 from ev_49.symm)); exact ⟨by omega, by omega⟩) (by decide) (by decide) hy3_46 hI hF hP hS (lv_sub hl [2, 3, 4, 5, 6, 1, 0, 7] rfl)
              · skip
                have c_60 : v_58.toInt = 0 := (by first | exact (cm_eq1 ti_0 c) | (have z := Int32.toInt_inj.mpr c; have k1 : (0 : Int32).toInt = 0 := ti_0; omega))
                refine lv_iconst (v := 1) hx hb dX5_valueOf_80 ic_1 ?_
                refine lv_goto (tgt := 85) hx hb dX5_valueOf_81 (by decide) ?_
                refine lv_istore (lv' := [(5, .int 1), (0, .ref (h 4)), (1, .int x0), (2, .int x1), (3, .int x2), (4, .int x3), (6, .int y6_46), (7, .int y7_46), (8, .int y8_46)]) hx hb dX5_valueOf_85 hl (by decide) rfl (fun ls hl => ?_)
                refine lv_iconst (v := 0) hx hb dX5_valueOf_87 ic_0 ?_
                refine lv_istore (lv' := [(6, .int 0), (5, .int 1), (0, .ref (h 4)), (1, .int x0), (2, .int x1), (3, .int x2), (4, .int x3), (7, .int y7_46), (8, .int y8_46)]) hx hb dX5_valueOf_88 hl (by decide) rfl (fun ls hl => ?_)
                refine lv_goto (tgt := 191) hx hb dX5_valueOf_90 (by decide) ?_
                exact blk_191 1 0 y7_46 fp_46 _ _ _ (hs.trans ((if_pos c_60).trans rfl)) (by have kc0 : (1 : Int32).toInt = 1 := ti_1; have kc1 : (0 : Int32).toInt = 0 := ti_0; omega) (by have zz4_9 : (fp_46 4 9).toInt = v_49.toInt := (congrArg Int32.toInt (show fp_46 4 9 = v_49 from ev_49.symm)); exact ⟨by omega, by omega⟩) (by decide) (by decide) hy3_46 hI hF hP hS (lv_sub hl [2, 3, 4, 5, 6, 1, 0, 7] rfl)
        · skip
          have c_53 : y8_46.toInt = 59 := (by first | exact (cm_eq1 ti_59 c) | (have z := Int32.toInt_inj.mpr c; have k1 : (59 : Int32).toInt = 59 := ti_59; omega))
          refine lv_iconst (v := 0) hx hb dX5_valueOf_53 ic_0 ?_
          refine lv_istore (lv' := [(5, .int 0), (0, .ref (h 4)), (1, .int x0), (2, .int x1), (3, .int x2), (4, .int x3), (6, .int y6_46), (7, .int y7_46), (8, .int y8_46)]) hx hb dX5_valueOf_54 hl (by decide) rfl (fun ls hl => ?_)
          refine lv_goto (tgt := 191) hx hb dX5_valueOf_56 (by decide) ?_
          exact blk_191 0 y6_46 y7_46 fp_46 _ _ _ (hs.trans ((if_pos c_53).trans rfl)) (by have kc0 : (0 : Int32).toInt = 0 := ti_0; omega) (by have zz4_9 : (fp_46 4 9).toInt = v_49.toInt := (congrArg Int32.toInt (show fp_46 4 9 = v_49 from ev_49.symm)); exact ⟨by omega, by omega⟩) (by decide) hy2_46 hy3_46 hI hF hP hS (lv_sub hl [1, 2, 3, 4, 5, 0, 6, 7] rfl)
      intro y5_9 y6_9 y7_9 fp_9 H locs ls hs hm_9 hy0_9 hy1_9 hy2_9 hI hF hP hS hl
      have hs : sp = sX5_valueOf_h9 x0 x1 x2 x3 (sX5_valueOf_l9 x0 x1 x2 x3 n_9) y5_9 y6_9 y7_9 fp_9 L := hs
      refine lv_iload hx hb dX5_valueOf_9 (lv_at hl 7 rfl) ?_
      refine lv_aload_n hx hb dX5_valueOf_11 rfl (lv_at hl 0 rfl) ?_
      refine sl_gX_4_9_5 (v := (fp_9 4 9)) hx hb hts hown hK hP rfl dX5_valueOf_12 ?_
      refine lv_topi (fun v_61 ev_61 => ?_)
      replace hs := hs.trans (spl_e ev_61 rfl)
      have q_62 : 0 ≤ v_61.toInt ∧ v_61.toInt ≤ 121 := by rw [ev_61]; exact hI 4 9
      refine lv_icmp_ge (tgt := 197) hx hb dX5_valueOf_15 (by decide) (fun c => ?_) (fun c => ?_)
      · skip
        have c_63 : v_61.toInt ≤ y7_9.toInt := (by first | exact (bn_le c) | (have z := bn_le c; omega))
        refine lv_iconst (v := 0) hx hb dX5_valueOf_197 ic_0 ?_
        have k99 : (0 : Int32).toInt = 0 := ti_0
        exact hret _ _ _ _ (0) fp_9 L Q dX5_valueOf_198 hP hS ⟨⟨hI, hF, rfl, rfl⟩, trivial, (Eq.trans (Eq.symm (hs.trans ((if_neg (Int.not_lt.mpr c_63)).trans rfl))) hsp)⟩
      · skip
        have c_64 : y7_9.toInt < v_61.toInt := (by first | exact (bn_nle c) | (have z := bn_nle c; omega))
        refine lv_aload_n hx hb dX5_valueOf_18 rfl (lv_at hl 0 rfl) ?_
        refine sl_gX_4_4_5 hx hb hts hown hK hP dX5_valueOf_19 ?_
        refine lv_iload hx hb dX5_valueOf_22 (lv_at hl 7 rfl) ?_
        refine sg_iald hx hb hK hP 7 (by decide) 0 rfl rfl (i := y7_9) (vp_in_iff.mpr ⟨by omega, by omega⟩) dX5_valueOf_24 ?_
        refine lv_topi (fun v_65 ev_65 => ?_)
        replace hs := hs.trans ((if_pos c_64).trans (spl_e ev_65 rfl))
        refine lv_istore (lv' := [(8, .int v_65), (0, .ref (h 4)), (1, .int x0), (2, .int x1), (3, .int x2), (4, .int x3), (5, .int y5_9), (6, .int y6_9), (7, .int y7_9)]) hx hb dX5_valueOf_25 hl (by decide) rfl (fun ls hl => ?_)
        refine lv_iload hx hb dX5_valueOf_27 (lv_at hl 0 rfl) ?_
        refine lv_bipush (v := 59) hx hb dX5_valueOf_29 bp_59 ?_
        refine lv_icmp_ne (tgt := 46) hx hb dX5_valueOf_31 (by decide) (fun c => ?_) (fun c => ?_)
        · skip
          have c_66 : v_65.toInt ≠ 59 := (by first | exact (cm_ne1 ti_59 c) | (have z := bn_ne c; have k1 : (59 : Int32).toInt = 59 := ti_59; omega))
          exact blk_46 y5_9 y6_9 y7_9 v_65 fp_9 _ _ _ (hs.trans ((if_neg c_66).trans rfl)) (by omega) (by have zz4_9 : (fp_9 4 9).toInt = v_61.toInt := (congrArg Int32.toInt (show fp_9 4 9 = v_61 from ev_61.symm)); exact ⟨by omega, by omega⟩) hy0_9 hy1_9 ⟨by omega, by omega⟩ hI hF hP hS (lv_sub hl [1, 2, 3, 4, 5, 6, 7, 8, 0] rfl)
        · skip
          have c_67 : v_65.toInt = 59 := (by first | exact (cm_eq1 ti_59 c) | (have z := Int32.toInt_inj.mpr c; have k1 : (59 : Int32).toInt = 59 := ti_59; omega))
          replace hs := hs.trans ((if_pos c_67).trans rfl)
          refine lv_iload hx hb dX5_valueOf_34 (lv_at hl 6 rfl) ?_
          refine lv_if_ne (tgt := 46) hx hb dX5_valueOf_36 (by decide) (fun c => ?_) (fun c => ?_)
          · skip
            have c_68 : y5_9.toInt ≠ 0 := (by first | exact (cm_ne1 ti_0 c) | (have z := bn_ne c; have k1 : (0 : Int32).toInt = 0 := ti_0; omega))
            exact blk_46 y5_9 y6_9 y7_9 v_65 fp_9 _ _ _ (hs.trans ((if_neg c_68).trans rfl)) (by omega) (by have zz4_9 : (fp_9 4 9).toInt = v_61.toInt := (congrArg Int32.toInt (show fp_9 4 9 = v_61 from ev_61.symm)); exact ⟨by omega, by omega⟩) hy0_9 hy1_9 ⟨by omega, by omega⟩ hI hF hP hS (lv_sub hl [1, 2, 3, 4, 5, 6, 7, 8, 0] rfl)
          · skip
            have c_69 : y5_9.toInt = 0 := (by first | exact (cm_eq1 ti_0 c) | (have z := Int32.toInt_inj.mpr c; have k1 : (0 : Int32).toInt = 0 := ti_0; omega))
            refine lv_aload_n hx hb dX5_valueOf_39 rfl (lv_at hl 1 rfl) ?_
            refine sl_gX_4_5_5 hx hb hts hown hK hP dX5_valueOf_40 ?_
            refine lv_iconst (v := 0) hx hb dX5_valueOf_43 ic_0 ?_
            refine sg_iald hx hb hK hP 8 (by decide) 0 rfl rfl (i := 0) (vp_in_iff.mpr (by decide)) dX5_valueOf_44 ?_
            refine lv_topi (fun v_70 ev_70 => ?_)
            exact hret _ _ _ _ (v_70) fp_9 L Q dX5_valueOf_45 hP hS ⟨⟨hI, hF, rfl, rfl⟩, trivial, (Eq.trans (Eq.symm (hs.trans ((if_pos c_69).trans (spl_e ev_70 rfl)))) hsp)⟩
  refine lv_iconst (v := 0) hx hb dX5_valueOf_0 ic_0 ?_
  refine lv_istore (lv' := [(5, .int 0), (0, .ref (h 4)), (1, .int x0), (2, .int x1), (3, .int x2), (4, .int x3)]) hx hb dX5_valueOf_1 hl (by decide) rfl (fun ls hl => ?_)
  refine lv_iconst (v := 0) hx hb dX5_valueOf_3 ic_0 ?_
  refine lv_istore (lv' := [(6, .int 0), (5, .int 0), (0, .ref (h 4)), (1, .int x0), (2, .int x1), (3, .int x2), (4, .int x3)]) hx hb dX5_valueOf_4 hl (by decide) rfl (fun ls hl => ?_)
  refine lv_iconst (v := 0) hx hb dX5_valueOf_6 ic_0 ?_
  refine lv_istore (lv' := [(7, .int 0), (6, .int 0), (5, .int 0), (0, .ref (h 4)), (1, .int x0), (2, .int x1), (3, .int x2), (4, .int x3)]) hx hb dX5_valueOf_7 hl (by decide) rfl (fun ls hl => ?_)
  exact loop_9 122 0 0 0 f _ _ _ hs (by have kc0 : (0 : Int32).toInt = 0 := ti_0; have kc1 : (0 : Int32).toInt = 0 := ti_0; have kc2 : (0 : Int32).toInt = 0 := ti_0; omega) (by decide) (by decide) (by decide) hI hF hP hS (lv_sub hl [3, 4, 5, 6, 7, 2, 1, 0] rfl)

abbrev WkX0_lossAt : List (Nat × Nat × Option Nat) := [(8, 8, none), (9, 9, none)]
set_option maxHeartbeats 4000000 in
set_option maxRecDepth 100000 in
theorem kX0_lossAt (l : Launch) (D : va_G) (ca : Nat → ClassId) (za h : Nat → Nat) (hh : sgH 52 h) (f : sg_F) (L : sg_L) (Q : sg_Q) (hI : sgI loX hiX f) (x0 : Int32) (x1 : Int32) (x2 : Int32) (b0 : (-1) ≤ x0.toInt ∧ x0.toInt ≤ 7) (b1 : 0 ≤ x1.toInt ∧ x1.toInt ≤ 2) (b2 : 0 ≤ x2.toInt ∧ x2.toInt ≤ 60) (sz : Nat) : Met l yX0_lossAt gwX0_lossAt { frames := 3, cells := 0, slots := 0, locals := 74 } (sgP D vwCl (tyX ca) 52 h (eX ca h) zcX za f L Q sz [.ref (h 1), .int x0, .int x1, .int x2]) (sgQi D vwCl 52 h (eX ca h) sz (fun r f1 L1 Q1 => ((sgI loX hiX f1 ∧ sgK WkX0_lossAt f f1 ∧ L1 = L ∧ Q1 = Q) ∧ (0 ≤ r.toInt ∧ r.toInt ≤ 10000) ∧ (r, f1) = sX0_lossAt x0 x1 x2 f L))) 0 0 (sgA 52 h sz) := by
  refine sg_ofWi (cc := cX0_lossAt) (maxL := 9) RX0 (by decide) rfl rfl (Nat.le_of_ble_eq_true rfl) ?_
  intro p e s m below meth cd Qz ls hx hb hml hown hts hK hZ hP hS hl hret
  have hA := sgY.self (n := 52) (h := h) (sz := s.heap.size)
  have hl : lv_has ls 9 [(0, .ref (h 1)), (1, .int x0), (2, .int x1), (3, .int x2)] := hl
  obtain ⟨H, hH⟩ : ∃ z : Heap, z = s.heap := ⟨_, rfl⟩
  obtain ⟨locs, hlo⟩ : ∃ z : List Loc, z = [] := ⟨_, rfl⟩
  have hP : va_P D vwCl (sgw 52 h (eX ca h) f L Q) H := by rw [hH]; exact hP
  have hS : va_S (sgA 52 h s.heap.size) s.heap H locs := by rw [hH, hlo]; exact hS
  suffices hgo : W p l e ({ frames := 3, cells := 0, slots := 0, locals := 74 }) s m ([.ref (h 1), .int x0, .int x1, .int x2] : List Value).toArray below meth cd H locs 0 0 Qz (F0 m 0 ls []) by rw [hH, hlo] at hgo; exact hgo
  clear hH hlo
  obtain ⟨sp, hsp⟩ : ∃ z : Int32 × sg_F, z = sX0_lossAt x0 x1 x2 f L := ⟨_, rfl⟩
  have hs : sp = sX0_lossAt x0 x1 x2 f L := hsp
  have hF : sgK WkX0_lossAt f f := sgK.rf
  refine lv_iload_n hx hb dX0_lossAt_0 rfl (lv_at hl 1 rfl) ?_
  refine lv_iconst (v := (-1)) hx hb dX0_lossAt_1 ic_m1 ?_
  refine lv_icmp_ne (tgt := 7) hx hb dX0_lossAt_2 (by decide) (fun c => ?_) (fun c => ?_)
  · skip
    have c_1 : x0.toInt ≠ (-1) := (by first | exact (cm_ne1 ti_m1 c) | (have z := bn_ne c; have k1 : ((-1) : Int32).toInt = (-1) := ti_m1; omega))
    refine lv_iload_n hx hb dX0_lossAt_7 rfl (lv_at hl 1 rfl) ?_
    refine lv_sipush (v := 183) hx hb dX0_lossAt_8 (by decide) ?_
    refine lv_imul hx hb dX0_lossAt_11 ?_
    refine lv_topi (fun v_3 ev_3 => ?_)
    have q_4 : v_3.toInt = x0.toInt * 183 := by rw [ev_3]; exact bn_mulI (by decide) (by omega) (by omega)
    refine lv_iload_n hx hb dX0_lossAt_12 rfl (lv_at hl 2 rfl) ?_
    refine lv_bipush (v := 61) hx hb dX0_lossAt_13 bp_61 ?_
    refine lv_imul hx hb dX0_lossAt_15 ?_
    refine lv_topi (fun v_5 ev_5 => ?_)
    have q_6 : v_5.toInt = x1.toInt * 61 := by rw [ev_5]; exact bn_mulI (by decide) (by omega) (by omega)
    refine lv_iadd hx hb dX0_lossAt_16 ?_
    refine lv_topi (fun v_7 ev_7 => ?_)
    have q_8 : v_7.toInt = v_3.toInt + v_5.toInt := by rw [ev_7]; first | exact bn_addI (by omega) (by omega) | exact (bn_addI (by omega) (by omega)).trans (by omega)
    refine lv_iload_n hx hb dX0_lossAt_17 rfl (lv_at hl 3 rfl) ?_
    refine lv_iadd hx hb dX0_lossAt_18 ?_
    refine lv_topi (fun v_9 ev_9 => ?_)
    have q_10 : v_9.toInt = v_7.toInt + x2.toInt := by rw [ev_9]; first | exact bn_addI (by omega) (by omega) | exact (bn_addI (by omega) (by omega)).trans (by omega)
    refine lv_istore (lv' := [(4, .int v_9), (0, .ref (h 1)), (1, .int x0), (2, .int x1), (3, .int x2)]) hx hb dX0_lossAt_19 hl (by decide) rfl (fun ls hl => ?_)
    refine lv_aload_n hx hb dX0_lossAt_21 rfl (lv_at hl 1 rfl) ?_
    refine sl_gX_1_4_0 hx hb hts hown hK hP dX0_lossAt_22 ?_
    refine lv_iload hx hb dX0_lossAt_25 (lv_at hl 0 rfl) ?_
    refine sg_iald hx hb hK hP 9 (by decide) 0 rfl rfl (i := v_9) (vp_in_iff.mpr ⟨by omega, by omega⟩) dX0_lossAt_27 ?_
    refine lv_topi (fun v_11 ev_11 => ?_)
    replace hs := hs.trans ((if_neg c_1).trans (spl_e ev_3 (spl_e ev_5 (spl_e ev_7 (spl_e ev_9 (spl_e ev_11 rfl))))))
    have q_12 : (-1) ≤ v_11.toInt ∧ v_11.toInt ≤ 10000 := by rw [ev_11]; exact hI 9 _
    refine lv_iconst (v := (-1)) hx hb dX0_lossAt_28 ic_m1 ?_
    refine lv_icmp_ne (tgt := 126) hx hb dX0_lossAt_29 (by decide) (fun c => ?_) (fun c => ?_)
    · skip
      have c_13 : v_11.toInt ≠ (-1) := (by first | exact (cm_ne1 ti_m1 c) | (have z := bn_ne c; have k1 : ((-1) : Int32).toInt = (-1) := ti_m1; omega))
      refine lv_aload_n hx hb dX0_lossAt_126 rfl (lv_at hl 1 rfl) ?_
      refine sl_gX_1_4_0 hx hb hts hown hK hP dX0_lossAt_127 ?_
      refine lv_iload hx hb dX0_lossAt_130 (lv_at hl 0 rfl) ?_
      refine sg_iald hx hb hK hP 9 (by decide) 0 rfl rfl (i := v_9) (vp_in_iff.mpr ⟨by omega, by omega⟩) dX0_lossAt_132 ?_
      rw [← ev_11]
      exact hret _ _ _ _ (v_11) f L Q dX0_lossAt_133 hP hS ⟨⟨hI, hF, rfl, rfl⟩, ⟨by omega, by omega⟩, (Eq.trans (Eq.symm (hs.trans ((if_neg c_13).trans rfl))) hsp)⟩
    · skip
      have c_14 : v_11.toInt = (-1) := (by first | exact (cm_eq1 ti_m1 c) | (have z := Int32.toInt_inj.mpr c; have k1 : ((-1) : Int32).toInt = (-1) := ti_m1; omega))
      refine lv_aload_n hx hb dX0_lossAt_32 rfl (lv_at hl 1 rfl) ?_
      refine lv_iload_n hx hb dX0_lossAt_33 rfl (lv_at hl 2 rfl) ?_
      refine lv_iload_n hx hb dX0_lossAt_34 rfl (lv_at hl 3 rfl) ?_
      refine sg_calli (va_runV (As := [.int x0, .int x1]) (rest := []) ⟨hx, hb, hml, hown, hts⟩ (kX0_numberOf l D ca za h hh f L Q hI x0 x1 ⟨by omega, by omega⟩ ⟨by omega, by omega⟩ H.size) (sl_c0_numberOf_0_0_0_0_0 hts ⟨Nat.le_of_ble_eq_true rfl, Nat.le_of_ble_eq_true rfl⟩) (sl_vX_1 hA hK hP hS hZ) rfl rfl hl.1 rfl (lv_room (Nat.le_of_ble_eq_true rfl)) dX0_lossAt_35 ⟨Nat.le_refl _, Nat.le_refl _⟩) hA hS (fun r_18 f_15 L_16 Q_17 H locs hq hP hS => ?_)
      obtain ⟨⟨ef9, eL9, eQ9⟩, hq, u_19⟩ := hq
      rw [ef9, eL9, eQ9] at hP; clear ef9 eL9 eQ9
      refine lv_istore (lv' := [(5, .int r_18), (4, .int v_9), (0, .ref (h 1)), (1, .int x0), (2, .int x1), (3, .int x2)]) hx hb dX0_lossAt_38 hl (by decide) rfl (fun ls hl => ?_)
      refine lv_aload_n hx hb dX0_lossAt_40 rfl (lv_at hl 2 rfl) ?_
      refine lv_iload_n hx hb dX0_lossAt_41 rfl (lv_at hl 3 rfl) ?_
      refine lv_iconst (v := 5) hx hb dX0_lossAt_42 ic_5 ?_
      refine sg_calli (va_runV (As := [.int x0, .int 5]) (rest := []) ⟨hx, hb, hml, hown, hts⟩ (kX0_numberOf l D ca za h hh f L Q hI x0 5 ⟨by omega, by omega⟩ (by decide) H.size) (sl_c0_numberOf_0_0_0_0_0 hts ⟨Nat.le_of_ble_eq_true rfl, Nat.le_of_ble_eq_true rfl⟩) (sl_vX_1 hA hK hP hS hZ) rfl rfl hl.1 rfl (lv_room (Nat.le_of_ble_eq_true rfl)) dX0_lossAt_43 ⟨Nat.le_refl _, Nat.le_refl _⟩) hA hS (fun r_23 f_20 L_21 Q_22 H locs hq hP hS => ?_)
      obtain ⟨⟨ef9, eL9, eQ9⟩, hq, u_24⟩ := hq
      replace hs := hs.trans ((if_pos c_14).trans (spl_e u_19 (spl_e u_24 rfl)))
      rw [ef9, eL9, eQ9] at hP; clear ef9 eL9 eQ9
      refine lv_istore (lv' := [(6, .int r_23), (5, .int r_18), (4, .int v_9), (0, .ref (h 1)), (1, .int x0), (2, .int x1), (3, .int x2)]) hx hb dX0_lossAt_46 hl (by decide) rfl (fun ls hl => ?_)
      refine lv_aload_n hx hb dX0_lossAt_48 rfl (lv_at hl 3 rfl) ?_
      refine lv_iload_n hx hb dX0_lossAt_49 rfl (lv_at hl 4 rfl) ?_
      refine lv_iload_n hx hb dX0_lossAt_50 rfl (lv_at hl 6 rfl) ?_
      refine lv_iload hx hb dX0_lossAt_51 (lv_at hl 1 rfl) ?_
      refine lv_icmp_le (tgt := 60) hx hb dX0_lossAt_53 (by decide) (fun c => ?_) (fun c => ?_)
      · skip
        have c_25 : x2.toInt ≤ r_18.toInt := (by first | exact (bn_le c) | (have z := bn_le c; omega))
        refine lv_iconst (v := 4) hx hb dX0_lossAt_60 ic_4 ?_
        refine sg_calli (va_runV (As := [.int x0, .int 4]) (rest := []) ⟨hx, hb, hml, hown, hts⟩ (kX0_numberOf l D ca za h hh f L Q hI x0 4 ⟨by omega, by omega⟩ (by decide) H.size) (sl_c0_numberOf_0_0_0_0_0 hts ⟨Nat.le_of_ble_eq_true rfl, Nat.le_of_ble_eq_true rfl⟩) (sl_vX_1 hA hK hP hS hZ) rfl rfl hl.1 rfl (lv_room (Nat.le_of_ble_eq_true rfl)) dX0_lossAt_61 ⟨Nat.le_refl _, Nat.le_refl _⟩) hA hS (fun r_30 f_27 L_28 Q_29 H locs hq hP hS => ?_)
        obtain ⟨⟨ef9, eL9, eQ9⟩, hq, u_31⟩ := hq
        rw [ef9, eL9, eQ9] at hP; clear ef9 eL9 eQ9
        refine lv_istore (lv' := [(7, .int r_30), (6, .int r_23), (5, .int r_18), (4, .int v_9), (0, .ref (h 1)), (1, .int x0), (2, .int x1), (3, .int x2)]) hx hb dX0_lossAt_64 hl (by decide) rfl (fun ls hl => ?_)
        refine lv_aload_n hx hb dX0_lossAt_66 rfl (lv_at hl 4 rfl) ?_
        refine sl_gX_1_2_0 hx hb hts hown hK hP dX0_lossAt_67 ?_
        refine sl_gX_4_2_0 (v := (f 4 2)) hx hb hts hown hK hP rfl dX0_lossAt_70 ?_
        refine lv_topi (fun v_32 ev_32 => ?_)
        replace hs := hs.trans ((if_neg (Int.not_lt.mpr c_25)).trans (spl_e u_31 (spl_e ev_32 rfl)))
        have q_33 : 0 ≤ v_32.toInt ∧ v_32.toInt ≤ 1 := by rw [ev_32]; exact hI 4 2
        refine lv_if_eq (tgt := 92) hx hb dX0_lossAt_73 (by decide) (fun c => ?_) (fun c => ?_)
        · skip
          have c_34 : v_32.toInt = 0 := (by first | exact (cm_eq1 ti_0 c) | (have z := Int32.toInt_inj.mpr c; have k1 : (0 : Int32).toInt = 0 := ti_0; omega))
          refine lv_iload_n hx hb dX0_lossAt_92 rfl (lv_at hl 7 rfl) ?_
          refine lv_iload hx hb dX0_lossAt_93 (lv_at hl 2 rfl) ?_
          refine lv_isub hx hb dX0_lossAt_95 ?_
          refine lv_topi (fun v_36 ev_36 => ?_)
          have q_37 : v_36.toInt = x2.toInt - r_18.toInt := by rw [ev_36]; first | exact bn_subI (by omega) (by omega) | exact (bn_subI (by omega) (by omega)).trans (by omega)
          refine va_mabs hx hb (hml.trans hl.1.symm) hown (hts _ (List.mem_cons_of_mem _ mw_262)) (hts _ (List.mem_cons_of_mem _ mw_90)) (hts _ (List.mem_cons_of_mem _ mw_11)) (hts _ (List.mem_cons_of_mem _ mw_91)) (Nat.le_of_ble_eq_true rfl) (Nat.le_of_ble_eq_true rfl) (Nat.le_refl _) (Nat.le_refl _) dX0_lossAt_96 ?_
          refine lv_topi (fun v_38 ev_38 => ?_)
          have q_39 : (0 ≤ v_36.toInt ∧ v_38.toInt = v_36.toInt) ∨ (v_36.toInt < 0 ∧ v_38.toInt = -v_36.toInt) := by rw [ev_38]; exact bn_absI (by omega)
          refine lv_iload hx hb dX0_lossAt_99 (lv_at hl 0 rfl) ?_
          refine lv_imul hx hb dX0_lossAt_101 ?_
          refine lv_topi (fun v_40 ev_40 => ?_)
          refine lv_iload hx hb dX0_lossAt_102 (lv_at hl 1 rfl) ?_
          refine lv_imul hx hb dX0_lossAt_104 ?_
          refine lv_topi (fun v_41 ev_41 => ?_)
          refine lv_istore (lv' := [(8, .int v_41), (7, .int r_30), (6, .int r_23), (5, .int r_18), (4, .int v_9), (0, .ref (h 1)), (1, .int x0), (2, .int x1), (3, .int x2)]) hx hb dX0_lossAt_105 hl (by decide) rfl (fun ls hl => ?_)
          refine lv_aload_n hx hb dX0_lossAt_107 rfl (lv_at hl 5 rfl) ?_
          refine sl_gX_1_4_0 hx hb hts hown hK hP dX0_lossAt_108 ?_
          refine lv_iload hx hb dX0_lossAt_111 (lv_at hl 4 rfl) ?_
          refine lv_iconst (v := 0) hx hb dX0_lossAt_113 ic_0 ?_
          refine lv_sipush (v := 9999) hx hb dX0_lossAt_114 (by decide) ?_
          refine lv_iload hx hb dX0_lossAt_117 (lv_at hl 0 rfl) ?_
          refine va_mmin hx hb (hml.trans hl.1.symm) hown (hts _ (List.mem_cons_of_mem _ mw_316)) (hts _ (List.mem_cons_of_mem _ mw_10)) (hts _ (List.mem_cons_of_mem _ mw_11)) (hts _ (List.mem_cons_of_mem _ mw_12)) (Nat.le_of_ble_eq_true rfl) (Nat.le_of_ble_eq_true rfl) (Nat.le_refl _) (Nat.le_refl _) dX0_lossAt_119 ?_
          refine lv_topi (fun v_42 ev_42 => ?_)
          have q_43 : (v_41.toInt < 9999 ∧ v_42.toInt = v_41.toInt) ∨ (9999 ≤ v_41.toInt ∧ v_42.toInt = 9999) := by have z := bn_minI v_41 (9999 : Int32); rw [← ev_42] at z; have k0 : (9999 : Int32).toInt = 9999 := ti_9999; omega
          refine va_mmax hx hb (hml.trans hl.1.symm) hown (hts _ (List.mem_cons_of_mem _ mw_81)) (hts _ (List.mem_cons_of_mem _ mw_82)) (hts _ (List.mem_cons_of_mem _ mw_11)) (hts _ (List.mem_cons_of_mem _ mw_83)) (Nat.le_of_ble_eq_true rfl) (Nat.le_of_ble_eq_true rfl) (Nat.le_refl _) (Nat.le_refl _) dX0_lossAt_122 ?_
          refine lv_topi (fun v_44 ev_44 => ?_)
          have q_45 : (0 < v_42.toInt ∧ v_44.toInt = v_42.toInt) ∨ (v_42.toInt ≤ 0 ∧ v_44.toInt = 0) := by have z := bn_maxI (0 : Int32) v_42; rw [← ev_44] at z; have k0 : (0 : Int32).toInt = 0 := ti_0; omega
          refine sg_iast hx hb hh hA hK hP hS 9 (by decide) 0 (fun _ => rfl) rfl (i := v_9) (x := v_44) (vp_in_iff.mpr ⟨by omega, by omega⟩) dX0_lossAt_125 (fun f_46 H locs ef_46 hP hS => ?_)
          have hI : sgI loX hiX f_46 := by rw [ef_46]; exact sgI.put hI 9 v_9.toNatClampNeg (show (-1) ≤ (v_44 : Int32).toInt ∧ (v_44 : Int32).toInt ≤ 10000 from ⟨by omega, by omega⟩)
          have hF : sgK WkX0_lossAt f f_46 := sgK.put hF ef_46 (by rfl)
          refine lv_aload_n hx hb dX0_lossAt_126 rfl (lv_at hl 5 rfl) ?_
          refine sl_gX_1_4_0 hx hb hts hown hK hP dX0_lossAt_127 ?_
          refine lv_iload hx hb dX0_lossAt_130 (lv_at hl 4 rfl) ?_
          refine sg_iald hx hb hK hP 9 (by decide) 0 rfl rfl (i := v_9) (vp_in_iff.mpr ⟨by omega, by omega⟩) dX0_lossAt_132 ?_
          refine W.eq (g2 := F0 m 133 ls [.int v_44]) (by rw [show f_46 9 (Int32.toNatClampNeg v_9) = v_44 from (by rw [ef_46, sg_up_s, sgu_s])]) ?_
          exact hret _ _ _ _ (v_44) f_46 L Q dX0_lossAt_133 hP hS ⟨⟨hI, hF, rfl, rfl⟩, ⟨by omega, by omega⟩, (Eq.trans (Eq.symm (hs.trans ((if_pos c_34).trans (spl_e ev_36 (spl_e ev_38 (spl_e ev_40 (spl_e ev_41 (spl_e ev_42 (spl_e ev_44 (spl_e ef_46 rfl)))))))))) hsp)⟩
        · skip
          have c_35 : v_32.toInt ≠ 0 := (by first | exact (cm_ne1 ti_0 c) | (have z := bn_ne c; have k1 : (0 : Int32).toInt = 0 := ti_0; omega))
          refine lv_aload_n hx hb dX0_lossAt_76 rfl (lv_at hl 4 rfl) ?_
          refine sl_gX_1_2_0 hx hb hts hown hK hP dX0_lossAt_77 ?_
          refine lv_iload_n hx hb dX0_lossAt_80 rfl (lv_at hl 7 rfl) ?_
          refine lv_iload hx hb dX0_lossAt_81 (lv_at hl 2 rfl) ?_
          refine lv_iload hx hb dX0_lossAt_83 (lv_at hl 1 rfl) ?_
          refine lv_iload_n hx hb dX0_lossAt_85 rfl (lv_at hl 6 rfl) ?_
          refine sg_calli (va_runV (As := [.int x2, .int r_18, .int r_23, .int x1]) (rest := []) ⟨hx, hb, hml, hown, hts⟩ (kX5_valueOf l D ca za h hh f L Q hI x2 r_18 r_23 x1 b2 ⟨by omega, by omega⟩ ⟨by omega, by omega⟩ b1 H.size) (sl_c5_valueOf_2_0_0_45_0 hts ⟨Nat.le_of_ble_eq_true rfl, Nat.le_of_ble_eq_true rfl⟩) (sl_vX_4 hA hK hP hS hZ) rfl rfl hl.1 rfl (lv_room (Nat.le_of_ble_eq_true rfl)) dX0_lossAt_86 ⟨Nat.le_refl _, Nat.le_refl _⟩) hA hS (fun r_50 f_47 L_48 Q_49 H locs hq hP hS => ?_)
          obtain ⟨⟨hI, hk_f_47, eL9, eQ9⟩, hq, u_51⟩ := hq
          rw [eL9, eQ9] at hP; clear eL9 eQ9
          have hF : sgK WkX0_lossAt f f_47 := sgK.tr hF hk_f_47 (by decide +kernel)
          refine lv_goto (tgt := 105) hx hb dX0_lossAt_89 (by decide) ?_
          refine lv_istore (lv' := [(8, .int r_50), (7, .int r_30), (6, .int r_23), (5, .int r_18), (4, .int v_9), (0, .ref (h 1)), (1, .int x0), (2, .int x1), (3, .int x2)]) hx hb dX0_lossAt_105 hl (by decide) rfl (fun ls hl => ?_)
          refine lv_aload_n hx hb dX0_lossAt_107 rfl (lv_at hl 5 rfl) ?_
          refine sl_gX_1_4_0 hx hb hts hown hK hP dX0_lossAt_108 ?_
          refine lv_iload hx hb dX0_lossAt_111 (lv_at hl 4 rfl) ?_
          refine lv_iconst (v := 0) hx hb dX0_lossAt_113 ic_0 ?_
          refine lv_sipush (v := 9999) hx hb dX0_lossAt_114 (by decide) ?_
          refine lv_iload hx hb dX0_lossAt_117 (lv_at hl 0 rfl) ?_
          refine va_mmin hx hb (hml.trans hl.1.symm) hown (hts _ (List.mem_cons_of_mem _ mw_316)) (hts _ (List.mem_cons_of_mem _ mw_10)) (hts _ (List.mem_cons_of_mem _ mw_11)) (hts _ (List.mem_cons_of_mem _ mw_12)) (Nat.le_of_ble_eq_true rfl) (Nat.le_of_ble_eq_true rfl) (Nat.le_refl _) (Nat.le_refl _) dX0_lossAt_119 ?_
          refine lv_topi (fun v_52 ev_52 => ?_)
          have q_53 : (r_50.toInt < 9999 ∧ v_52.toInt = r_50.toInt) ∨ (9999 ≤ r_50.toInt ∧ v_52.toInt = 9999) := by have z := bn_minI r_50 (9999 : Int32); rw [← ev_52] at z; have k0 : (9999 : Int32).toInt = 9999 := ti_9999; omega
          refine va_mmax hx hb (hml.trans hl.1.symm) hown (hts _ (List.mem_cons_of_mem _ mw_81)) (hts _ (List.mem_cons_of_mem _ mw_82)) (hts _ (List.mem_cons_of_mem _ mw_11)) (hts _ (List.mem_cons_of_mem _ mw_83)) (Nat.le_of_ble_eq_true rfl) (Nat.le_of_ble_eq_true rfl) (Nat.le_refl _) (Nat.le_refl _) dX0_lossAt_122 ?_
          refine lv_topi (fun v_54 ev_54 => ?_)
          have q_55 : (0 < v_52.toInt ∧ v_54.toInt = v_52.toInt) ∨ (v_52.toInt ≤ 0 ∧ v_54.toInt = 0) := by have z := bn_maxI (0 : Int32) v_52; rw [← ev_54] at z; have k0 : (0 : Int32).toInt = 0 := ti_0; omega
          refine sg_iast hx hb hh hA hK hP hS 9 (by decide) 0 (fun _ => rfl) rfl (i := v_9) (x := v_54) (vp_in_iff.mpr ⟨by omega, by omega⟩) dX0_lossAt_125 (fun f_56 H locs ef_56 hP hS => ?_)
          have hI : sgI loX hiX f_56 := by rw [ef_56]; exact sgI.put hI 9 v_9.toNatClampNeg (show (-1) ≤ (v_54 : Int32).toInt ∧ (v_54 : Int32).toInt ≤ 10000 from ⟨by omega, by omega⟩)
          have hF : sgK WkX0_lossAt f f_56 := sgK.put hF ef_56 (by rfl)
          refine lv_aload_n hx hb dX0_lossAt_126 rfl (lv_at hl 5 rfl) ?_
          refine sl_gX_1_4_0 hx hb hts hown hK hP dX0_lossAt_127 ?_
          refine lv_iload hx hb dX0_lossAt_130 (lv_at hl 4 rfl) ?_
          refine sg_iald hx hb hK hP 9 (by decide) 0 rfl rfl (i := v_9) (vp_in_iff.mpr ⟨by omega, by omega⟩) dX0_lossAt_132 ?_
          refine W.eq (g2 := F0 m 133 ls [.int v_54]) (by rw [show f_56 9 (Int32.toNatClampNeg v_9) = v_54 from (by rw [ef_56, sg_up_s, sgu_s])]) ?_
          exact hret _ _ _ _ (v_54) f_56 L Q dX0_lossAt_133 hP hS ⟨⟨hI, hF, rfl, rfl⟩, ⟨by omega, by omega⟩, (Eq.trans (Eq.symm (hs.trans ((if_neg c_35).trans (spl2_e u_51 (spl_e ev_52 (spl_e ev_54 (spl_e ef_56 rfl))))))) hsp)⟩
      · skip
        have c_26 : r_18.toInt < x2.toInt := (by first | exact (bn_nle c) | (have z := bn_nle c; omega))
        refine lv_iconst (v := 3) hx hb dX0_lossAt_56 ic_3 ?_
        refine lv_goto (tgt := 61) hx hb dX0_lossAt_57 (by decide) ?_
        refine sg_calli (va_runV (As := [.int x0, .int 3]) (rest := []) ⟨hx, hb, hml, hown, hts⟩ (kX0_numberOf l D ca za h hh f L Q hI x0 3 ⟨by omega, by omega⟩ (by decide) H.size) (sl_c0_numberOf_0_0_0_0_0 hts ⟨Nat.le_of_ble_eq_true rfl, Nat.le_of_ble_eq_true rfl⟩) (sl_vX_1 hA hK hP hS hZ) rfl rfl hl.1 rfl (lv_room (Nat.le_of_ble_eq_true rfl)) dX0_lossAt_61 ⟨Nat.le_refl _, Nat.le_refl _⟩) hA hS (fun r_60 f_57 L_58 Q_59 H locs hq hP hS => ?_)
        obtain ⟨⟨ef9, eL9, eQ9⟩, hq, u_61⟩ := hq
        rw [ef9, eL9, eQ9] at hP; clear ef9 eL9 eQ9
        refine lv_istore (lv' := [(7, .int r_60), (6, .int r_23), (5, .int r_18), (4, .int v_9), (0, .ref (h 1)), (1, .int x0), (2, .int x1), (3, .int x2)]) hx hb dX0_lossAt_64 hl (by decide) rfl (fun ls hl => ?_)
        refine lv_aload_n hx hb dX0_lossAt_66 rfl (lv_at hl 4 rfl) ?_
        refine sl_gX_1_2_0 hx hb hts hown hK hP dX0_lossAt_67 ?_
        refine sl_gX_4_2_0 (v := (f 4 2)) hx hb hts hown hK hP rfl dX0_lossAt_70 ?_
        refine lv_topi (fun v_62 ev_62 => ?_)
        replace hs := hs.trans ((if_pos c_26).trans (spl_e u_61 (spl_e ev_62 rfl)))
        have q_63 : 0 ≤ v_62.toInt ∧ v_62.toInt ≤ 1 := by rw [ev_62]; exact hI 4 2
        refine lv_if_eq (tgt := 92) hx hb dX0_lossAt_73 (by decide) (fun c => ?_) (fun c => ?_)
        · skip
          have c_64 : v_62.toInt = 0 := (by first | exact (cm_eq1 ti_0 c) | (have z := Int32.toInt_inj.mpr c; have k1 : (0 : Int32).toInt = 0 := ti_0; omega))
          refine lv_iload_n hx hb dX0_lossAt_92 rfl (lv_at hl 7 rfl) ?_
          refine lv_iload hx hb dX0_lossAt_93 (lv_at hl 2 rfl) ?_
          refine lv_isub hx hb dX0_lossAt_95 ?_
          refine lv_topi (fun v_66 ev_66 => ?_)
          have q_67 : v_66.toInt = x2.toInt - r_18.toInt := by rw [ev_66]; first | exact bn_subI (by omega) (by omega) | exact (bn_subI (by omega) (by omega)).trans (by omega)
          refine va_mabs hx hb (hml.trans hl.1.symm) hown (hts _ (List.mem_cons_of_mem _ mw_262)) (hts _ (List.mem_cons_of_mem _ mw_90)) (hts _ (List.mem_cons_of_mem _ mw_11)) (hts _ (List.mem_cons_of_mem _ mw_91)) (Nat.le_of_ble_eq_true rfl) (Nat.le_of_ble_eq_true rfl) (Nat.le_refl _) (Nat.le_refl _) dX0_lossAt_96 ?_
          refine lv_topi (fun v_68 ev_68 => ?_)
          have q_69 : (0 ≤ v_66.toInt ∧ v_68.toInt = v_66.toInt) ∨ (v_66.toInt < 0 ∧ v_68.toInt = -v_66.toInt) := by rw [ev_68]; exact bn_absI (by omega)
          refine lv_iload hx hb dX0_lossAt_99 (lv_at hl 0 rfl) ?_
          refine lv_imul hx hb dX0_lossAt_101 ?_
          refine lv_topi (fun v_70 ev_70 => ?_)
          refine lv_iload hx hb dX0_lossAt_102 (lv_at hl 1 rfl) ?_
          refine lv_imul hx hb dX0_lossAt_104 ?_
          refine lv_topi (fun v_71 ev_71 => ?_)
          refine lv_istore (lv' := [(8, .int v_71), (7, .int r_60), (6, .int r_23), (5, .int r_18), (4, .int v_9), (0, .ref (h 1)), (1, .int x0), (2, .int x1), (3, .int x2)]) hx hb dX0_lossAt_105 hl (by decide) rfl (fun ls hl => ?_)
          refine lv_aload_n hx hb dX0_lossAt_107 rfl (lv_at hl 5 rfl) ?_
          refine sl_gX_1_4_0 hx hb hts hown hK hP dX0_lossAt_108 ?_
          refine lv_iload hx hb dX0_lossAt_111 (lv_at hl 4 rfl) ?_
          refine lv_iconst (v := 0) hx hb dX0_lossAt_113 ic_0 ?_
          refine lv_sipush (v := 9999) hx hb dX0_lossAt_114 (by decide) ?_
          refine lv_iload hx hb dX0_lossAt_117 (lv_at hl 0 rfl) ?_
          refine va_mmin hx hb (hml.trans hl.1.symm) hown (hts _ (List.mem_cons_of_mem _ mw_316)) (hts _ (List.mem_cons_of_mem _ mw_10)) (hts _ (List.mem_cons_of_mem _ mw_11)) (hts _ (List.mem_cons_of_mem _ mw_12)) (Nat.le_of_ble_eq_true rfl) (Nat.le_of_ble_eq_true rfl) (Nat.le_refl _) (Nat.le_refl _) dX0_lossAt_119 ?_
          refine lv_topi (fun v_72 ev_72 => ?_)
          have q_73 : (v_71.toInt < 9999 ∧ v_72.toInt = v_71.toInt) ∨ (9999 ≤ v_71.toInt ∧ v_72.toInt = 9999) := by have z := bn_minI v_71 (9999 : Int32); rw [← ev_72] at z; have k0 : (9999 : Int32).toInt = 9999 := ti_9999; omega
          refine va_mmax hx hb (hml.trans hl.1.symm) hown (hts _ (List.mem_cons_of_mem _ mw_81)) (hts _ (List.mem_cons_of_mem _ mw_82)) (hts _ (List.mem_cons_of_mem _ mw_11)) (hts _ (List.mem_cons_of_mem _ mw_83)) (Nat.le_of_ble_eq_true rfl) (Nat.le_of_ble_eq_true rfl) (Nat.le_refl _) (Nat.le_refl _) dX0_lossAt_122 ?_
          refine lv_topi (fun v_74 ev_74 => ?_)
          have q_75 : (0 < v_72.toInt ∧ v_74.toInt = v_72.toInt) ∨ (v_72.toInt ≤ 0 ∧ v_74.toInt = 0) := by have z := bn_maxI (0 : Int32) v_72; rw [← ev_74] at z; have k0 : (0 : Int32).toInt = 0 := ti_0; omega
          refine sg_iast hx hb hh hA hK hP hS 9 (by decide) 0 (fun _ => rfl) rfl (i := v_9) (x := v_74) (vp_in_iff.mpr ⟨by omega, by omega⟩) dX0_lossAt_125 (fun f_76 H locs ef_76 hP hS => ?_)
          have hI : sgI loX hiX f_76 := by rw [ef_76]; exact sgI.put hI 9 v_9.toNatClampNeg (show (-1) ≤ (v_74 : Int32).toInt ∧ (v_74 : Int32).toInt ≤ 10000 from ⟨by omega, by omega⟩)
          have hF : sgK WkX0_lossAt f f_76 := sgK.put hF ef_76 (by rfl)
          refine lv_aload_n hx hb dX0_lossAt_126 rfl (lv_at hl 5 rfl) ?_
          refine sl_gX_1_4_0 hx hb hts hown hK hP dX0_lossAt_127 ?_
          refine lv_iload hx hb dX0_lossAt_130 (lv_at hl 4 rfl) ?_
          refine sg_iald hx hb hK hP 9 (by decide) 0 rfl rfl (i := v_9) (vp_in_iff.mpr ⟨by omega, by omega⟩) dX0_lossAt_132 ?_
          refine W.eq (g2 := F0 m 133 ls [.int v_74]) (by rw [show f_76 9 (Int32.toNatClampNeg v_9) = v_74 from (by rw [ef_76, sg_up_s, sgu_s])]) ?_
          exact hret _ _ _ _ (v_74) f_76 L Q dX0_lossAt_133 hP hS ⟨⟨hI, hF, rfl, rfl⟩, ⟨by omega, by omega⟩, (Eq.trans (Eq.symm (hs.trans ((if_pos c_64).trans (spl_e ev_66 (spl_e ev_68 (spl_e ev_70 (spl_e ev_71 (spl_e ev_72 (spl_e ev_74 (spl_e ef_76 rfl)))))))))) hsp)⟩
        · skip
          have c_65 : v_62.toInt ≠ 0 := (by first | exact (cm_ne1 ti_0 c) | (have z := bn_ne c; have k1 : (0 : Int32).toInt = 0 := ti_0; omega))
          refine lv_aload_n hx hb dX0_lossAt_76 rfl (lv_at hl 4 rfl) ?_
          refine sl_gX_1_2_0 hx hb hts hown hK hP dX0_lossAt_77 ?_
          refine lv_iload_n hx hb dX0_lossAt_80 rfl (lv_at hl 7 rfl) ?_
          refine lv_iload hx hb dX0_lossAt_81 (lv_at hl 2 rfl) ?_
          refine lv_iload hx hb dX0_lossAt_83 (lv_at hl 1 rfl) ?_
          refine lv_iload_n hx hb dX0_lossAt_85 rfl (lv_at hl 6 rfl) ?_
          refine sg_calli (va_runV (As := [.int x2, .int r_18, .int r_23, .int x1]) (rest := []) ⟨hx, hb, hml, hown, hts⟩ (kX5_valueOf l D ca za h hh f L Q hI x2 r_18 r_23 x1 b2 ⟨by omega, by omega⟩ ⟨by omega, by omega⟩ b1 H.size) (sl_c5_valueOf_2_0_0_45_0 hts ⟨Nat.le_of_ble_eq_true rfl, Nat.le_of_ble_eq_true rfl⟩) (sl_vX_4 hA hK hP hS hZ) rfl rfl hl.1 rfl (lv_room (Nat.le_of_ble_eq_true rfl)) dX0_lossAt_86 ⟨Nat.le_refl _, Nat.le_refl _⟩) hA hS (fun r_80 f_77 L_78 Q_79 H locs hq hP hS => ?_)
          obtain ⟨⟨hI, hk_f_77, eL9, eQ9⟩, hq, u_81⟩ := hq
          rw [eL9, eQ9] at hP; clear eL9 eQ9
          have hF : sgK WkX0_lossAt f f_77 := sgK.tr hF hk_f_77 (by decide +kernel)
          refine lv_goto (tgt := 105) hx hb dX0_lossAt_89 (by decide) ?_
          refine lv_istore (lv' := [(8, .int r_80), (7, .int r_60), (6, .int r_23), (5, .int r_18), (4, .int v_9), (0, .ref (h 1)), (1, .int x0), (2, .int x1), (3, .int x2)]) hx hb dX0_lossAt_105 hl (by decide) rfl (fun ls hl => ?_)
          refine lv_aload_n hx hb dX0_lossAt_107 rfl (lv_at hl 5 rfl) ?_
          refine sl_gX_1_4_0 hx hb hts hown hK hP dX0_lossAt_108 ?_
          refine lv_iload hx hb dX0_lossAt_111 (lv_at hl 4 rfl) ?_
          refine lv_iconst (v := 0) hx hb dX0_lossAt_113 ic_0 ?_
          refine lv_sipush (v := 9999) hx hb dX0_lossAt_114 (by decide) ?_
          refine lv_iload hx hb dX0_lossAt_117 (lv_at hl 0 rfl) ?_
          refine va_mmin hx hb (hml.trans hl.1.symm) hown (hts _ (List.mem_cons_of_mem _ mw_316)) (hts _ (List.mem_cons_of_mem _ mw_10)) (hts _ (List.mem_cons_of_mem _ mw_11)) (hts _ (List.mem_cons_of_mem _ mw_12)) (Nat.le_of_ble_eq_true rfl) (Nat.le_of_ble_eq_true rfl) (Nat.le_refl _) (Nat.le_refl _) dX0_lossAt_119 ?_
          refine lv_topi (fun v_82 ev_82 => ?_)
          have q_83 : (r_80.toInt < 9999 ∧ v_82.toInt = r_80.toInt) ∨ (9999 ≤ r_80.toInt ∧ v_82.toInt = 9999) := by have z := bn_minI r_80 (9999 : Int32); rw [← ev_82] at z; have k0 : (9999 : Int32).toInt = 9999 := ti_9999; omega
          refine va_mmax hx hb (hml.trans hl.1.symm) hown (hts _ (List.mem_cons_of_mem _ mw_81)) (hts _ (List.mem_cons_of_mem _ mw_82)) (hts _ (List.mem_cons_of_mem _ mw_11)) (hts _ (List.mem_cons_of_mem _ mw_83)) (Nat.le_of_ble_eq_true rfl) (Nat.le_of_ble_eq_true rfl) (Nat.le_refl _) (Nat.le_refl _) dX0_lossAt_122 ?_
          refine lv_topi (fun v_84 ev_84 => ?_)
          have q_85 : (0 < v_82.toInt ∧ v_84.toInt = v_82.toInt) ∨ (v_82.toInt ≤ 0 ∧ v_84.toInt = 0) := by have z := bn_maxI (0 : Int32) v_82; rw [← ev_84] at z; have k0 : (0 : Int32).toInt = 0 := ti_0; omega
          refine sg_iast hx hb hh hA hK hP hS 9 (by decide) 0 (fun _ => rfl) rfl (i := v_9) (x := v_84) (vp_in_iff.mpr ⟨by omega, by omega⟩) dX0_lossAt_125 (fun f_86 H locs ef_86 hP hS => ?_)
          have hI : sgI loX hiX f_86 := by rw [ef_86]; exact sgI.put hI 9 v_9.toNatClampNeg (show (-1) ≤ (v_84 : Int32).toInt ∧ (v_84 : Int32).toInt ≤ 10000 from ⟨by omega, by omega⟩)
          have hF : sgK WkX0_lossAt f f_86 := sgK.put hF ef_86 (by rfl)
          refine lv_aload_n hx hb dX0_lossAt_126 rfl (lv_at hl 5 rfl) ?_
          refine sl_gX_1_4_0 hx hb hts hown hK hP dX0_lossAt_127 ?_
          refine lv_iload hx hb dX0_lossAt_130 (lv_at hl 4 rfl) ?_
          refine sg_iald hx hb hK hP 9 (by decide) 0 rfl rfl (i := v_9) (vp_in_iff.mpr ⟨by omega, by omega⟩) dX0_lossAt_132 ?_
          refine W.eq (g2 := F0 m 133 ls [.int v_84]) (by rw [show f_86 9 (Int32.toNatClampNeg v_9) = v_84 from (by rw [ef_86, sg_up_s, sgu_s])]) ?_
          exact hret _ _ _ _ (v_84) f_86 L Q dX0_lossAt_133 hP hS ⟨⟨hI, hF, rfl, rfl⟩, ⟨by omega, by omega⟩, (Eq.trans (Eq.symm (hs.trans ((if_neg c_65).trans (spl2_e u_81 (spl_e ev_82 (spl_e ev_84 (spl_e ef_86 rfl))))))) hsp)⟩
  · skip
    have c_2 : x0.toInt = (-1) := (by first | exact (cm_eq1 ti_m1 c) | (have z := Int32.toInt_inj.mpr c; have k1 : ((-1) : Int32).toInt = (-1) := ti_m1; omega))
    refine lv_iconst (v := 0) hx hb dX0_lossAt_5 ic_0 ?_
    have k99 : (0 : Int32).toInt = 0 := ti_0
    exact hret _ _ _ _ (0) f L Q dX0_lossAt_6 hP hS ⟨⟨hI, hF, rfl, rfl⟩, (by decide), (Eq.trans (Eq.symm (hs.trans (((if_pos c_2).trans rfl)))) hsp)⟩

abbrev WkX11_loss : List (Nat × Nat × Option Nat) := [(8, 8, none), (9, 9, none)]
set_option maxHeartbeats 4000000 in
set_option maxRecDepth 100000 in
theorem kX11_loss (l : Launch) (D : va_G) (ca : Nat → ClassId) (za h : Nat → Nat) (hh : sgH 52 h) (f : sg_F) (L : sg_L) (Q : sg_Q) (hI : sgI loX hiX f) (x0 : Int32) (x1 : Int32) (x2 : Int32) (sz : Nat) : Met l yX11_loss gwX11_loss { frames := 4, cells := 0, slots := 0, locals := 102 } (sgP D vwCl (tyX ca) 52 h (eX ca h) zcX za f L Q sz [.ref (h 0), .int x0, .int x1, .int x2]) (sgQi D vwCl 52 h (eX ca h) sz (fun r f1 L1 Q1 => ((sgI loX hiX f1 ∧ sgK WkX11_loss f f1 ∧ L1 = L ∧ Q1 = Q) ∧ ((-1) ≤ r.toInt ∧ r.toInt ≤ 10000) ∧ (r, f1) = sX11_loss x0 x1 x2 f L))) 0 0 (sgA 52 h sz) := by
  refine sg_ofWi (cc := cX11_loss) (maxL := 4) RX11 (by decide) rfl rfl (Nat.le_of_ble_eq_true rfl) ?_
  intro p e s m below meth cd Qz ls hx hb hml hown hts hK hZ hP hS hl hret
  have hA := sgY.self (n := 52) (h := h) (sz := s.heap.size)
  have hl : lv_has ls 4 [(0, .ref (h 0)), (1, .int x0), (2, .int x1), (3, .int x2)] := hl
  obtain ⟨H, hH⟩ : ∃ z : Heap, z = s.heap := ⟨_, rfl⟩
  obtain ⟨locs, hlo⟩ : ∃ z : List Loc, z = [] := ⟨_, rfl⟩
  have hP : va_P D vwCl (sgw 52 h (eX ca h) f L Q) H := by rw [hH]; exact hP
  have hS : va_S (sgA 52 h s.heap.size) s.heap H locs := by rw [hH, hlo]; exact hS
  suffices hgo : W p l e ({ frames := 4, cells := 0, slots := 0, locals := 102 }) s m ([.ref (h 0), .int x0, .int x1, .int x2] : List Value).toArray below meth cd H locs 0 0 Qz (F0 m 0 ls []) by rw [hH, hlo] at hgo; exact hgo
  clear hH hlo
  obtain ⟨sp, hsp⟩ : ∃ z : Int32 × sg_F, z = sX11_loss x0 x1 x2 f L := ⟨_, rfl⟩
  have hs : sp = sX11_loss x0 x1 x2 f L := hsp
  have hF : sgK WkX11_loss f f := sgK.rf
  refine lv_aload_n hx hb dX11_loss_0 rfl (lv_at hl 0 rfl) ?_
  refine sl_gX_0_0_11 hx hb hts hown hK hP dX11_loss_1 ?_
  refine lv_iload_n hx hb dX11_loss_4 rfl (lv_at hl 1 rfl) ?_
  obtain ⟨v_1, ev_1⟩ : ∃ z : Int32, z = f 1 3 := ⟨_, rfl⟩
  have q_2 : 0 ≤ v_1.toInt ∧ v_1.toInt ≤ 8 := by rw [ev_1]; exact hI 1 3
  have q_3 : (f 1 3).toInt = v_1.toInt := (congrArg Int32.toInt (show f 1 3 = v_1 from ev_1.symm))
  refine sg_calli (va_runV (As := [.int x0]) (rest := []) ⟨hx, hb, hml, hown, hts⟩ (kX0_has l D ca za h hh f L Q hI x0 H.size) (sl_c0_has_0_0_0_0_11 hts ⟨Nat.le_of_ble_eq_true rfl, Nat.le_of_ble_eq_true rfl⟩) (sl_vX_1 hA hK hP hS hZ) rfl rfl hl.1 rfl (lv_room (Nat.le_of_ble_eq_true rfl)) dX11_loss_5 ⟨Nat.le_refl _, Nat.le_refl _⟩) hA hS (fun r_8 f_5 L_6 Q_7 H locs hq hP hS => ?_)
  obtain ⟨⟨ef9, eL9, eQ9⟩, hq, u_9⟩ := hq
  replace hs := hs.trans (spl_e ev_1 (spl_e u_9 rfl))
  rw [ef9, eL9, eQ9] at hP; clear ef9 eL9 eQ9
  rcases hq with ⟨rfl, hq⟩ | ⟨rfl, hq⟩
  · skip
    have hc_10 := hq
    refine lv_if_eq (tgt := 25) hx hb dX11_loss_8 (by decide) (fun c => absurd c (by decide)) (fun c => ?_)
    refine lv_iload_n hx hb dX11_loss_11 rfl (lv_at hl 2 rfl) ?_
    refine sg_calli (va_runS (As := [.int x1]) (rest := []) ⟨hx, hb, hml, hown, hts⟩ (kX11_isPart l D ca za h hh f L Q hI x1 H.size) (va_cwS 1 hts (gw_S (fun _ h => List.mem_cons_of_mem _ h) mw_58 mw_59 mw_37 mw_57) rfl rfl rfl hd_yX11_isPart.2 ⟨Nat.le_of_ble_eq_true rfl, Nat.le_of_ble_eq_true rfl⟩) (sg_preS hA hK hP hS hZ) rfl rfl hl.1 rfl (lv_room (Nat.le_of_ble_eq_true rfl)) dX11_loss_12 ⟨Nat.le_refl _, Nat.le_refl _⟩) hA hS (fun r_14 f_11 L_12 Q_13 H locs hq hP hS => ?_)
    obtain ⟨⟨ef9, eL9, eQ9⟩, hq, u_15⟩ := hq
    replace hs := hs.trans ((if_pos rfl).trans (spl_e u_15 rfl))
    rw [ef9, eL9, eQ9] at hP; clear ef9 eL9 eQ9
    rcases hq with ⟨rfl, hq⟩ | ⟨rfl, hq⟩
    · skip
      have hc_16 := hq
      refine lv_if_eq (tgt := 25) hx hb dX11_loss_15 (by decide) (fun c => absurd c (by decide)) (fun c => ?_)
      refine lv_iload_n hx hb dX11_loss_18 rfl (lv_at hl 3 rfl) ?_
      refine sg_calli (va_runS (As := [.int x2]) (rest := []) ⟨hx, hb, hml, hown, hts⟩ (kX11_isSetting l D ca za h hh f L Q hI x2 H.size) (va_cwS 1 hts (gw_S (fun _ h => List.mem_cons_of_mem _ h) mw_61 mw_62 mw_37 mw_60) rfl rfl rfl hd_yX11_isSetting.2 ⟨Nat.le_of_ble_eq_true rfl, Nat.le_of_ble_eq_true rfl⟩) (sg_preS hA hK hP hS hZ) rfl rfl hl.1 rfl (lv_room (Nat.le_of_ble_eq_true rfl)) dX11_loss_19 ⟨Nat.le_refl _, Nat.le_refl _⟩) hA hS (fun r_20 f_17 L_18 Q_19 H locs hq hP hS => ?_)
      obtain ⟨⟨ef9, eL9, eQ9⟩, hq, u_21⟩ := hq
      replace hs := hs.trans ((if_pos rfl).trans (spl_e u_21 rfl))
      rw [ef9, eL9, eQ9] at hP; clear ef9 eL9 eQ9
      rcases hq with ⟨rfl, hq⟩ | ⟨rfl, hq⟩
      · skip
        have hc_22 := hq
        refine lv_if_ne (tgt := 27) hx hb dX11_loss_22 (by decide) (fun c => ?_) (fun c => absurd c (by decide))
        refine lv_aload_n hx hb dX11_loss_27 rfl (lv_at hl 0 rfl) ?_
        refine sl_gX_0_0_11 hx hb hts hown hK hP dX11_loss_28 ?_
        refine lv_iload_n hx hb dX11_loss_31 rfl (lv_at hl 1 rfl) ?_
        refine lv_iload_n hx hb dX11_loss_32 rfl (lv_at hl 2 rfl) ?_
        refine lv_iload_n hx hb dX11_loss_33 rfl (lv_at hl 3 rfl) ?_
        refine sg_calli (va_runV (As := [.int x0, .int x1, .int x2]) (rest := []) ⟨hx, hb, hml, hown, hts⟩ (kX0_lossAt l D ca za h hh f L Q hI x0 x1 x2 ⟨by omega, by omega⟩ ⟨by omega, by omega⟩ ⟨by omega, by omega⟩ H.size) (sl_c0_lossAt_3_0_0_74_11 hts ⟨Nat.le_of_ble_eq_true rfl, Nat.le_of_ble_eq_true rfl⟩) (sl_vX_1 hA hK hP hS hZ) rfl rfl hl.1 rfl (lv_room (Nat.le_of_ble_eq_true rfl)) dX11_loss_34 ⟨Nat.le_refl _, Nat.le_refl _⟩) hA hS (fun r_26 f_23 L_24 Q_25 H locs hq hP hS => ?_)
        obtain ⟨⟨hI, hk_f_23, eL9, eQ9⟩, hq, u_27⟩ := hq
        rw [eL9, eQ9] at hP; clear eL9 eQ9
        have hF : sgK WkX11_loss f f_23 := sgK.tr hF hk_f_23 (by decide +kernel)
        exact hret _ _ _ _ (r_26) f_23 L Q dX11_loss_37 hP hS ⟨⟨hI, hF, rfl, rfl⟩, ⟨by omega, by omega⟩, (Eq.trans (Eq.symm (hs.trans ((if_pos rfl).trans (spl2_e u_27 rfl)))) hsp)⟩
      · skip
        have hc_22 := hq
        refine lv_if_ne (tgt := 27) hx hb dX11_loss_22 (by decide) (fun c => absurd c (by decide)) (fun c => ?_)
        refine lv_iconst (v := (-1)) hx hb dX11_loss_25 ic_m1 ?_
        have k99 : ((-1) : Int32).toInt = (-1) := ti_m1
        exact hret _ _ _ _ (-1) f L Q dX11_loss_26 hP hS ⟨⟨hI, hF, rfl, rfl⟩, (by decide), (Eq.trans (Eq.symm (hs.trans ((if_neg (by decide)).trans rfl))) hsp)⟩
    · skip
      have hc_16 := hq
      refine lv_if_eq (tgt := 25) hx hb dX11_loss_15 (by decide) (fun c => ?_) (fun c => absurd c (by decide))
      refine lv_iconst (v := (-1)) hx hb dX11_loss_25 ic_m1 ?_
      have k99 : ((-1) : Int32).toInt = (-1) := ti_m1
      exact hret _ _ _ _ (-1) f L Q dX11_loss_26 hP hS ⟨⟨hI, hF, rfl, rfl⟩, (by decide), (Eq.trans (Eq.symm (hs.trans ((if_neg (by decide)).trans rfl))) hsp)⟩
  · skip
    have hc_10 := hq
    refine lv_if_eq (tgt := 25) hx hb dX11_loss_8 (by decide) (fun c => ?_) (fun c => absurd c (by decide))
    refine lv_iconst (v := (-1)) hx hb dX11_loss_25 ic_m1 ?_
    have k99 : ((-1) : Int32).toInt = (-1) := ti_m1
    exact hret _ _ _ _ (-1) f L Q dX11_loss_26 hP hS ⟨⟨hI, hF, rfl, rfl⟩, (by decide), (Eq.trans (Eq.symm (hs.trans ((if_neg (by decide)).trans rfl))) hsp)⟩

set_option maxHeartbeats 4000000 in
set_option maxRecDepth 100000 in
theorem kX11_refusalOf (l : Launch) (D : va_G) (ca : Nat → ClassId) (za h : Nat → Nat) (hh : sgH 52 h) (f : sg_F) (L : sg_L) (Q : sg_Q) (hI : sgI loX hiX f) (x0 : Int32) (b0 : 0 ≤ x0.toInt ∧ x0.toInt ≤ 5) (sz : Nat) : Met l yX11_refusalOf gwX11_refusalOf { frames := 0, cells := 0, slots := 0, locals := 0 } (sgP D vwCl (tyX ca) 52 h (eX ca h) zcX za f L Q sz [.ref (h 0), .int x0]) (sgQi D vwCl 52 h (eX ca h) sz (fun r f1 L1 Q1 => ((f1 = f ∧ L1 = L ∧ Q1 = Q) ∧ ((-12) ≤ r.toInt ∧ r.toInt ≤ 0) ∧ (r) = sX11_refusalOf x0 f L))) 0 0 (sgA 52 h sz) := by
  refine sg_ofWi (cc := cX11_refusalOf) (maxL := 2) RX11 (by decide) rfl rfl (Nat.le_of_ble_eq_true rfl) ?_
  intro p e s m below meth cd Qz ls hx hb hml hown hts hK hZ hP hS hl hret
  have hA := sgY.self (n := 52) (h := h) (sz := s.heap.size)
  have hl : lv_has ls 2 [(0, .ref (h 0)), (1, .int x0)] := hl
  obtain ⟨H, hH⟩ : ∃ z : Heap, z = s.heap := ⟨_, rfl⟩
  obtain ⟨locs, hlo⟩ : ∃ z : List Loc, z = [] := ⟨_, rfl⟩
  have hP : va_P D vwCl (sgw 52 h (eX ca h) f L Q) H := by rw [hH]; exact hP
  have hS : va_S (sgA 52 h s.heap.size) s.heap H locs := by rw [hH, hlo]; exact hS
  suffices hgo : W p l e ({ frames := 0, cells := 0, slots := 0, locals := 0 }) s m ([.ref (h 0), .int x0] : List Value).toArray below meth cd H locs 0 0 Qz (F0 m 0 ls []) by rw [hH, hlo] at hgo; exact hgo
  clear hH hlo
  obtain ⟨sp, hsp⟩ : ∃ z : Int32, z = sX11_refusalOf x0 f L := ⟨_, rfl⟩
  have hs : sp = sX11_refusalOf x0 f L := hsp
  refine lv_aload_n hx hb dX11_refusalOf_0 rfl (lv_at hl 0 rfl) ?_
  refine sl_gX_0_9_11 hx hb hts hown hK hP dX11_refusalOf_1 ?_
  refine lv_iload_n hx hb dX11_refusalOf_4 rfl (lv_at hl 1 rfl) ?_
  obtain ⟨t_1, et_1⟩ : ∃ z : Nat, z = x0.toNatClampNeg := ⟨_, rfl⟩
  have ht_t_1 : t_1 < 6 := by rw [et_1]; exact bn_kI (by omega) (by omega)
  refine sg_aald hx hb hK hP 39 (by decide) 3 rfl rfl (i := x0) (a := (h (40 + 2 * t_1))) (vp_in_iff.mpr ⟨by omega, by omega⟩) (show (if x0.toNatClampNeg < 6 then some (h (40 + 2 * x0.toNatClampNeg)) else none) = some (h (40 + 2 * t_1)) from by rw [← et_1, if_pos ht_t_1]) dX11_refusalOf_5 ?_
  refine sg_get (ci := 7) (v := .int (f (40 + 2 * t_1) 1)) (C := RX7) (T := TX7) (N := 4) hx hb hts (fun w h => List.mem_cons_of_mem _ (gx_7 w h)) hown hK hP (40 + 2 * t_1) (by have := ht_t_1; omega) (eX_sh ca h ht_t_1 _ _ _) rfl 1 (by decide) (hts _ (List.mem_cons_of_mem _ mw_42)) (fun _ h9 => h9) rfl dX11_refusalOf_6 ?_
  refine lv_topi (fun v_2 ev_2 => ?_)
  replace hs := hs.trans (spl_e et_1 (spl_e ev_2 rfl))
  have q_3 : (-2) ≤ v_2.toInt ∧ v_2.toInt ≤ 4 := by rw [ev_2]; exact shb_1 hI ht_t_1
  refine lv_iconst (v := (-1)) hx hb dX11_refusalOf_9 ic_m1 ?_
  refine lv_icmp_ne (tgt := 16) hx hb dX11_refusalOf_10 (by decide) (fun c => ?_) (fun c => ?_)
  · skip
    have c_4 : v_2.toInt ≠ (-1) := (by first | exact (cm_ne1 ti_m1 c) | (have z := bn_ne c; have k1 : ((-1) : Int32).toInt = (-1) := ti_m1; omega))
    replace hs := hs.trans ((if_neg c_4).trans rfl)
    refine lv_aload_n hx hb dX11_refusalOf_16 rfl (lv_at hl 0 rfl) ?_
    refine sl_gX_0_9_11 hx hb hts hown hK hP dX11_refusalOf_17 ?_
    refine lv_iload_n hx hb dX11_refusalOf_20 rfl (lv_at hl 1 rfl) ?_
    refine sg_aald hx hb hK hP 39 (by decide) 3 rfl rfl (i := x0) (a := (h (40 + 2 * t_1))) (vp_in_iff.mpr ⟨by omega, by omega⟩) (show (if x0.toNatClampNeg < 6 then some (h (40 + 2 * x0.toNatClampNeg)) else none) = some (h (40 + 2 * t_1)) from by rw [← et_1, if_pos ht_t_1]) dX11_refusalOf_21 ?_
    refine sg_get (ci := 7) (v := .int v_2) (C := RX7) (T := TX7) (N := 4) hx hb hts (fun w h => List.mem_cons_of_mem _ (gx_7 w h)) hown hK hP (40 + 2 * t_1) (by have := ht_t_1; omega) (eX_sh ca h ht_t_1 _ _ _) rfl 1 (by decide) (hts _ (List.mem_cons_of_mem _ mw_42)) (fun _ h9 => h9) (congrArg (fun z => some (Value.int z)) (show f (40 + 2 * t_1) 1 = v_2 from ev_2.symm)) dX11_refusalOf_22 ?_
    refine lv_if_ne (tgt := 32) hx hb dX11_refusalOf_25 (by decide) (fun c => ?_) (fun c => ?_)
    · skip
      have c_6 : v_2.toInt ≠ 0 := (by first | exact (cm_ne1 ti_0 c) | (have z := bn_ne c; have k1 : (0 : Int32).toInt = 0 := ti_0; omega))
      refine lv_bipush (v := (-12)) hx hb dX11_refusalOf_32 bp_m12 ?_
      have k99 : ((-12) : Int32).toInt = (-12) := ti_m12
      exact hret _ _ _ _ (-12) f L Q dX11_refusalOf_34 hP hS ⟨⟨rfl, rfl, rfl⟩, (by decide), (Eq.trans (Eq.symm (hs.trans ((if_neg c_6).trans rfl))) hsp)⟩
    · skip
      have c_7 : v_2.toInt = 0 := (by first | exact (cm_eq1 ti_0 c) | (have z := Int32.toInt_inj.mpr c; have k1 : (0 : Int32).toInt = 0 := ti_0; omega))
      refine lv_iconst (v := 0) hx hb dX11_refusalOf_28 ic_0 ?_
      refine lv_goto (tgt := 34) hx hb dX11_refusalOf_29 (by decide) ?_
      have k99 : (0 : Int32).toInt = 0 := ti_0
      exact hret _ _ _ _ (0) f L Q dX11_refusalOf_34 hP hS ⟨⟨rfl, rfl, rfl⟩, (by decide), (Eq.trans (Eq.symm (hs.trans ((if_pos c_7).trans rfl))) hsp)⟩
  · skip
    have c_5 : v_2.toInt = (-1) := (by first | exact (cm_eq1 ti_m1 c) | (have z := Int32.toInt_inj.mpr c; have k1 : ((-1) : Int32).toInt = (-1) := ti_m1; omega))
    refine lv_bipush (v := (-11)) hx hb dX11_refusalOf_13 bp_m11 ?_
    have k99 : ((-11) : Int32).toInt = (-11) := ti_m11
    exact hret _ _ _ _ (-11) f L Q dX11_refusalOf_15 hP hS ⟨⟨rfl, rfl, rfl⟩, (by decide), (Eq.trans (Eq.symm (hs.trans ((if_pos c_5).trans rfl))) hsp)⟩

abbrev WkX10_reads : List (Nat × Nat × Option Nat) := [(10, 10, some 2), (10, 10, some 3), (11, 11, none), (12, 12, none)]
set_option maxHeartbeats 4000000 in
set_option maxRecDepth 100000 in
theorem kX10_reads (l : Launch) (D : va_G) (ca : Nat → ClassId) (za h : Nat → Nat) (hh : sgH 52 h) (f : sg_F) (L : sg_L) (Q : sg_Q) (hI : sgI loX hiX f) (t : Nat) (ht_t : t < 6) (x1 : Int32) (b1 : 0 ≤ x1.toInt ∧ x1.toInt ≤ 8) (sz : Nat) : Met l yX10_reads gwX10_reads { frames := 1, cells := 0, slots := 0, locals := 21 } (sgP D vwCl (tyX ca) 52 h (eX ca h) zcX za f L Q sz [.ref (h 10), .ref (h (40 + 2 * t)), .int x1]) (sgQv D vwCl 52 h (eX ca h) sz (fun f1 L1 Q1 => ((sgI loX hiX f1 ∧ sgK WkX10_reads f f1 ∧ L1 = L ∧ Q1 = Q) ∧ (f1) = sX10_reads t x1 f L))) 0 0 (sgA 52 h sz) := by
  refine sg_ofWv (cc := cX10_reads) (maxL := 5) RX10 (by decide) rfl rfl (Nat.le_of_ble_eq_true rfl) ?_
  intro p e s m below meth cd Qz ls hx hb hml hown hts hK hZ hP hS hl hret
  have hA := sgY.self (n := 52) (h := h) (sz := s.heap.size)
  have hl : lv_has ls 5 [(0, .ref (h 10)), (1, .ref (h (40 + 2 * t))), (2, .int x1)] := hl
  obtain ⟨H, hH⟩ : ∃ z : Heap, z = s.heap := ⟨_, rfl⟩
  obtain ⟨locs, hlo⟩ : ∃ z : List Loc, z = [] := ⟨_, rfl⟩
  have hP : va_P D vwCl (sgw 52 h (eX ca h) f L Q) H := by rw [hH]; exact hP
  have hS : va_S (sgA 52 h s.heap.size) s.heap H locs := by rw [hH, hlo]; exact hS
  suffices hgo : W p l e ({ frames := 1, cells := 0, slots := 0, locals := 21 }) s m ([.ref (h 10), .ref (h (40 + 2 * t)), .int x1] : List Value).toArray below meth cd H locs 0 0 Qz (F0 m 0 ls []) by rw [hH, hlo] at hgo; exact hgo
  clear hH hlo
  obtain ⟨sp, hsp⟩ : ∃ z : sg_F, z = sX10_reads t x1 f L := ⟨_, rfl⟩
  have hs : sp = sX10_reads t x1 f L := hsp
  have hF : sgK WkX10_reads f f := sgK.rf
  have loop_41 : ∀ (n_41 : Nat) (y3_41 : Int32) (fp_41 : sg_F) (H : Heap) (locs : List Loc) (ls : Array Slot), sp = sX10_reads_l41 t x1 n_41 y3_41 fp_41 L → 21 - y3_41.toInt < (n_41 : Int) → 0 ≤ y3_41.toInt ∧ y3_41.toInt ≤ 21 → sgI loX hiX fp_41 → sgK WkX10_reads f fp_41 → va_P D vwCl (sgw 52 h (eX ca h) fp_41 L Q) H → va_S (sgA 52 h s.heap.size) s.heap H locs → lv_has ls 5 [(0, .ref (h 10)), (1, .ref (h (40 + 2 * t))), (2, .int x1), (3, .int y3_41)] → W p l e ({ frames := 1, cells := 0, slots := 0, locals := 21 }) s m ([.ref (h 10), .ref (h (40 + 2 * t)), .int x1] : List Value).toArray below meth cd H locs 0 0 Qz (F0 m 41 ls []) := by
    intro n_41
    induction n_41 with
    | zero => intro y3_41 fp_41 H locs ls hs hm_41 hy0_41 hI hF hP hS hl; exact absurd hm_41 (by omega)
    | succ n_41 ih_41 =>
      have blk_112 : ∀ (y3_112 : Int32) (fp_112 : sg_F) (H : Heap) (locs : List Loc) (ls : Array Slot), sp = sX10_reads_b112 (sX10_reads_l41 t x1 n_41) t x1 y3_112 fp_112 L → 21 - y3_112.toInt < ((n_41 + 1 : Nat) : Int) → 1 ≤ (fp_112 10 2).toInt ∧ (fp_112 10 2).toInt ≤ 21 → 0 ≤ y3_112.toInt ∧ y3_112.toInt ≤ 20 → sgI loX hiX fp_112 → sgK WkX10_reads f fp_112 → va_P D vwCl (sgw 52 h (eX ca h) fp_112 L Q) H → va_S (sgA 52 h s.heap.size) s.heap H locs → lv_has ls 5 [(0, .ref (h 10)), (1, .ref (h (40 + 2 * t))), (2, .int x1), (3, .int y3_112)] → W p l e ({ frames := 1, cells := 0, slots := 0, locals := 21 }) s m ([.ref (h 10), .ref (h (40 + 2 * t)), .int x1] : List Value).toArray below meth cd H locs 0 0 Qz (F0 m 112 ls []) := by
        intro y3_112 fp_112 H locs ls hs hm_41 hy0_112 hy1_112 hI hF hP hS hl
        obtain ⟨v_1, ev_1⟩ : ∃ z : Int32, z = fp_112 10 2 := ⟨_, rfl⟩
        have q_2 : 0 ≤ v_1.toInt ∧ v_1.toInt ≤ 21 := by rw [ev_1]; exact hI 10 2
        have q_3 : (fp_112 10 2).toInt = v_1.toInt := by rw [ev_1]
        obtain ⟨v_4, ev_4⟩ : ∃ z : Int32, z = y3_112 + 1 := ⟨_, rfl⟩
        have q_5 : v_4.toInt = y3_112.toInt + 1 := by rw [ev_4]; exact (bn_addc y3_112 1 (by decide) (by omega) (by omega))
        refine lv_iinc (v := v_4) (lv' := [(3, .int v_4), (0, .ref (h 10)), (1, .ref (h (40 + 2 * t))), (2, .int x1)]) hx hb dX10_reads_112 hl (k := 3) rfl (by rw [ev_4]; rfl) (by decide) rfl (fun ls hl => ?_)
        refine lv_goto (tgt := 41) hx hb dX10_reads_115 (by decide) ?_
        exact ih_41 v_4 fp_112 _ _ _ (hs.trans ((spl_e ev_1 (spl_e ev_4 rfl)))) (by omega) ⟨by omega, by omega⟩ hI hF hP hS (lv_sub hl [1, 2, 3, 0] rfl)
      intro y3_41 fp_41 H locs ls hs hm_41 hy0_41 hI hF hP hS hl
      have hs : sp = sX10_reads_h41 t x1 (sX10_reads_l41 t x1 n_41) y3_41 fp_41 L := hs
      refine lv_iload_n hx hb dX10_reads_41 rfl (lv_at hl 3 rfl) ?_
      refine lv_aload_n hx hb dX10_reads_42 rfl (lv_at hl 0 rfl) ?_
      refine sl_gX_10_2_10 (v := (fp_41 10 2)) hx hb hts hown hK hP rfl dX10_reads_43 ?_
      refine lv_topi (fun v_6 ev_6 => ?_)
      replace hs := hs.trans (spl_e ev_6 rfl)
      have q_7 : 0 ≤ v_6.toInt ∧ v_6.toInt ≤ 21 := by rw [ev_6]; exact hI 10 2
      refine lv_icmp_ge (tgt := 118) hx hb dX10_reads_46 (by decide) (fun c => ?_) (fun c => ?_)
      · skip
        have c_8 : v_6.toInt ≤ y3_41.toInt := (by first | exact (bn_le c) | (have z := bn_le c; omega))
        exact hret _ _ _ _ fp_41 L Q dX10_reads_118 hP hS ⟨⟨hI, hF, rfl, rfl⟩, (Eq.trans (Eq.symm (hs.trans ((if_neg (Int.not_lt.mpr c_8)).trans rfl))) hsp)⟩
      · skip
        have c_9 : y3_41.toInt < v_6.toInt := (by first | exact (bn_nle c) | (have z := bn_nle c; omega))
        refine lv_aload_n hx hb dX10_reads_49 rfl (lv_at hl 1 rfl) ?_
        refine sg_get (ci := 7) (v := .ref (h (41 + 2 * t))) (C := RX7) (T := TX7) (N := 4) hx hb hts (fun w h => List.mem_cons_of_mem _ (gx_7 w h)) hown hK hP (40 + 2 * t) (by have := ht_t; omega) (eX_sh ca h ht_t _ _ _) rfl 0 (by decide) (hts _ (List.mem_cons_of_mem _ mw_159)) (fun _ h9 => h9) rfl dX10_reads_50 ?_
        refine lv_iload_n hx hb dX10_reads_53 rfl (lv_at hl 3 rfl) ?_
        refine sg_lald hx hb hK hP (41 + 2 * t) (by have := ht_t; omega) 1 (eX_el ca h ht_t _ _ _) rfl (i := y3_41) (vp_in_iff.mpr ⟨by omega, by omega⟩) dX10_reads_54 ?_
        obtain ⟨w_10, ew_10⟩ : ∃ z : Int64, z = L (41 + 2 * t) (Int32.toNatClampNeg y3_41) := ⟨_, rfl⟩
        rw [← ew_10]
        obtain ⟨v_11, ev_11⟩ : ∃ z : Int32, z = Int64.toInt32 w_10 := ⟨_, rfl⟩
        replace hs := hs.trans ((if_pos c_9).trans (spl_e ew_10 (spl_e ev_11 rfl)))
        refine lv_l2i (v := v_11) hx hb dX10_reads_55 ev_11.symm ?_
        refine lv_istore (lv' := [(4, .int v_11), (0, .ref (h 10)), (1, .ref (h (40 + 2 * t))), (2, .int x1), (3, .int y3_41)]) hx hb dX10_reads_56 hl (by decide) rfl (fun ls hl => ?_)
        refine lv_aload_n hx hb dX10_reads_58 rfl (lv_at hl 1 rfl) ?_
        refine sl_gX_10_0_10 hx hb hts hown hK hP dX10_reads_59 ?_
        refine lv_iload_n hx hb dX10_reads_62 rfl (lv_at hl 4 rfl) ?_
        refine lv_iload hx hb dX10_reads_63 (lv_at hl 0 rfl) ?_
        refine lv_if_lt (tgt := 79) hx hb dX10_reads_65 (by decide) (fun c => ?_) (fun c => ?_)
        · skip
          have c_12 : v_11.toInt < 0 := (by first | exact (cm_lt1 ti_0 c) | (have z := bn_lt c; have k1 : (0 : Int32).toInt = 0 := ti_0; omega))
          refine lv_iconst (v := (-1)) hx hb dX10_reads_79 ic_m1 ?_
          refine sg_iast hx hb hh hA hK hP hS 11 (by decide) 0 (fun _ => rfl) rfl (i := y3_41) (x := (-1)) (vp_in_iff.mpr ⟨by omega, by omega⟩) dX10_reads_80 (fun f_14 H locs ef_14 hP hS => ?_)
          have hI : sgI loX hiX f_14 := by rw [ef_14]; exact sgI.put hI 11 y3_41.toNatClampNeg (show (-1) ≤ ((-1) : Int32).toInt ∧ ((-1) : Int32).toInt ≤ 7 from by decide)
          have hF : sgK WkX10_reads f f_14 := sgK.put hF ef_14 (by rfl)
          refine lv_aload_n hx hb dX10_reads_81 rfl (lv_at hl 1 rfl) ?_
          refine sl_gX_10_0_10 hx hb hts hown hK hP dX10_reads_82 ?_
          refine lv_iload_n hx hb dX10_reads_85 rfl (lv_at hl 4 rfl) ?_
          refine sg_iald hx hb hK hP 11 (by decide) 0 rfl rfl (i := y3_41) (vp_in_iff.mpr ⟨by omega, by omega⟩) dX10_reads_86 ?_
          refine W.eq (g2 := F0 m 87 ls [.int (-1)]) (by rw [show f_14 11 (Int32.toNatClampNeg y3_41) = (-1) from (by rw [ef_14, sg_up_s, sgu_s])]) ?_
          refine lv_iconst (v := (-1)) hx hb dX10_reads_87 ic_m1 ?_
          refine lv_icmp_eq (tgt := 112) hx hb dX10_reads_88 (by decide) (fun c => ?_) (fun c => absurd c (by decide))
          exact blk_112 y3_41 f_14 _ _ _ (hs.trans ((if_pos c_12).trans (spl_e ef_14 rfl))) (by omega) (by have zz10_2 : (f_14 10 2).toInt = v_6.toInt := (congrArg Int32.toInt (show f_14 10 2 = v_6 from (by rw [ef_14, sg_up_n (by decide)]; exact ev_6.symm))); exact ⟨by omega, by omega⟩) ⟨by omega, by omega⟩ hI hF hP hS (lv_sub hl [1, 2, 3, 4] rfl)
        · skip
          have c_13 : 0 ≤ v_11.toInt := (by first | exact (cm_nlt1 ti_0 c) | (have z := bn_nlt c; have k1 : (0 : Int32).toInt = 0 := ti_0; omega))
          replace hs := hs.trans ((if_neg (Int.not_lt.mpr c_13)).trans rfl)
          refine lv_iload hx hb dX10_reads_68 (lv_at hl 0 rfl) ?_
          refine lv_iload_n hx hb dX10_reads_70 rfl (lv_at hl 3 rfl) ?_
          refine lv_icmp_ge (tgt := 79) hx hb dX10_reads_71 (by decide) (fun c => ?_) (fun c => ?_)
          · skip
            have c_15 : x1.toInt ≤ v_11.toInt := (by first | exact (bn_le c) | (have z := bn_le c; omega))
            refine lv_iconst (v := (-1)) hx hb dX10_reads_79 ic_m1 ?_
            refine sg_iast hx hb hh hA hK hP hS 11 (by decide) 0 (fun _ => rfl) rfl (i := y3_41) (x := (-1)) (vp_in_iff.mpr ⟨by omega, by omega⟩) dX10_reads_80 (fun f_17 H locs ef_17 hP hS => ?_)
            have hI : sgI loX hiX f_17 := by rw [ef_17]; exact sgI.put hI 11 y3_41.toNatClampNeg (show (-1) ≤ ((-1) : Int32).toInt ∧ ((-1) : Int32).toInt ≤ 7 from by decide)
            have hF : sgK WkX10_reads f f_17 := sgK.put hF ef_17 (by rfl)
            refine lv_aload_n hx hb dX10_reads_81 rfl (lv_at hl 1 rfl) ?_
            refine sl_gX_10_0_10 hx hb hts hown hK hP dX10_reads_82 ?_
            refine lv_iload_n hx hb dX10_reads_85 rfl (lv_at hl 4 rfl) ?_
            refine sg_iald hx hb hK hP 11 (by decide) 0 rfl rfl (i := y3_41) (vp_in_iff.mpr ⟨by omega, by omega⟩) dX10_reads_86 ?_
            refine W.eq (g2 := F0 m 87 ls [.int (-1)]) (by rw [show f_17 11 (Int32.toNatClampNeg y3_41) = (-1) from (by rw [ef_17, sg_up_s, sgu_s])]) ?_
            refine lv_iconst (v := (-1)) hx hb dX10_reads_87 ic_m1 ?_
            refine lv_icmp_eq (tgt := 112) hx hb dX10_reads_88 (by decide) (fun c => ?_) (fun c => absurd c (by decide))
            exact blk_112 y3_41 f_17 _ _ _ (hs.trans ((if_neg (Int.not_lt.mpr c_15)).trans (spl_e ef_17 rfl))) (by omega) (by have zz10_2 : (f_17 10 2).toInt = v_6.toInt := (congrArg Int32.toInt (show f_17 10 2 = v_6 from (by rw [ef_17, sg_up_n (by decide)]; exact ev_6.symm))); exact ⟨by omega, by omega⟩) ⟨by omega, by omega⟩ hI hF hP hS (lv_sub hl [1, 2, 3, 4] rfl)
          · skip
            have c_16 : v_11.toInt < x1.toInt := (by first | exact (bn_nle c) | (have z := bn_nle c; omega))
            refine lv_iload hx hb dX10_reads_74 (lv_at hl 0 rfl) ?_
            refine lv_goto (tgt := 80) hx hb dX10_reads_76 (by decide) ?_
            refine sg_iast hx hb hh hA hK hP hS 11 (by decide) 0 (fun _ => rfl) rfl (i := y3_41) (x := v_11) (vp_in_iff.mpr ⟨by omega, by omega⟩) dX10_reads_80 (fun f_18 H locs ef_18 hP hS => ?_)
            have hI : sgI loX hiX f_18 := by rw [ef_18]; exact sgI.put hI 11 y3_41.toNatClampNeg (show (-1) ≤ (v_11 : Int32).toInt ∧ (v_11 : Int32).toInt ≤ 7 from ⟨by omega, by omega⟩)
            have hF : sgK WkX10_reads f f_18 := sgK.put hF ef_18 (by rfl)
            refine lv_aload_n hx hb dX10_reads_81 rfl (lv_at hl 1 rfl) ?_
            refine sl_gX_10_0_10 hx hb hts hown hK hP dX10_reads_82 ?_
            refine lv_iload_n hx hb dX10_reads_85 rfl (lv_at hl 4 rfl) ?_
            refine sg_iald hx hb hK hP 11 (by decide) 0 rfl rfl (i := y3_41) (vp_in_iff.mpr ⟨by omega, by omega⟩) dX10_reads_86 ?_
            refine W.eq (g2 := F0 m 87 ls [.int v_11]) (by rw [show f_18 11 (Int32.toNatClampNeg y3_41) = v_11 from (by rw [ef_18, sg_up_s, sgu_s])]) ?_
            refine lv_iconst (v := (-1)) hx hb dX10_reads_87 ic_m1 ?_
            refine lv_icmp_eq (tgt := 112) hx hb dX10_reads_88 (by decide) (fun c => ?_) (fun c => ?_)
            · skip
              exfalso; have c_19 : v_11.toInt = (-1) := (by first | exact (cm_eq1 ti_m1 c) | (have z := Int32.toInt_inj.mpr c; have k1 : ((-1) : Int32).toInt = (-1) := ti_m1; omega)); first | exact absurd c_19 (by assumption) | omega
            · skip
              have c_20 : v_11.toInt ≠ (-1) := (by first | exact (cm_ne1 ti_m1 c) | (have z := bn_ne c; have k1 : ((-1) : Int32).toInt = (-1) := ti_m1; omega))
              refine lv_aload_n hx hb dX10_reads_91 rfl (lv_at hl 1 rfl) ?_
              refine sl_gX_10_1_10 hx hb hts hown hK hP dX10_reads_92 ?_
              refine lv_iload hx hb dX10_reads_95 (lv_at hl 0 rfl) ?_
              refine lv_dup2_11 hx hb dX10_reads_97 rfl rfl ?_
              refine sg_iald hx hb hK hP 12 (by decide) 0 rfl rfl (i := v_11) (vp_in_iff.mpr ⟨by omega, by omega⟩) dX10_reads_98 ?_
              refine lv_topi (fun v_21 ev_21 => ?_)
              refine lv_iconst (v := 1) hx hb dX10_reads_99 ic_1 ?_
              refine lv_iadd hx hb dX10_reads_100 ?_
              refine lv_topi (fun v_22 ev_22 => ?_)
              refine sg_iast hx hb hh hA hK hP hS 12 (by decide) 0 (fun _ => rfl) rfl (i := v_11) (x := v_22) (vp_in_iff.mpr ⟨by omega, by omega⟩) dX10_reads_101 (fun f_23 H locs ef_23 hP hS => ?_)
              have hI : sgI loX hiX f_23 := by rw [ef_23]; exact sgI.put hI 12 v_11.toNatClampNeg (bn_top _)
              have hF : sgK WkX10_reads f f_23 := sgK.put hF ef_23 (by rfl)
              refine lv_aload_n hx hb dX10_reads_102 rfl (lv_at hl 1 rfl) ?_
              refine lv_dup hx hb dX10_reads_103 rfl ?_
              refine sl_gX_10_3_10 (v := (f_23 10 3)) hx hb hts hown hK hP rfl dX10_reads_104 ?_
              refine lv_topi (fun v_24 ev_24 => ?_)
              refine lv_iconst (v := 1) hx hb dX10_reads_107 ic_1 ?_
              refine lv_iadd hx hb dX10_reads_108 ?_
              refine lv_topi (fun v_25 ev_25 => ?_)
              refine sl_pX_10_3_10 (x := v_25) hx hb hts hown hh hA hK hP hS dX10_reads_109 (fun f_26 H locs ef_26 hP hS => ?_)
              have hI : sgI loX hiX f_26 := by rw [ef_26]; exact sgI.put hI 10 3 (bn_top _)
              have hF : sgK WkX10_reads f f_26 := sgK.put hF ef_26 (by rfl)
              exact blk_112 y3_41 f_26 _ _ _ (hs.trans ((if_pos c_16).trans (spl_e ef_18 (spl_e ev_21 (spl_e ev_22 (spl_e ef_23 (spl_e ev_24 (spl_e ev_25 (spl_e ef_26 rfl))))))))) (by omega) (by have zz10_2 : (f_26 10 2).toInt = v_6.toInt := (congrArg Int32.toInt (show f_26 10 2 = v_6 from (by rw [ef_26, sg_up_s, sgu_n (by decide)]; exact (by rw [ef_23, sg_up_n (by decide)]; exact (by rw [ef_18, sg_up_n (by decide)]; exact ev_6.symm))))); exact ⟨by omega, by omega⟩) ⟨by omega, by omega⟩ hI hF hP hS (lv_sub hl [1, 2, 3, 4] rfl)
  have loop_20 : ∀ (n_20 : Nat) (y3_20 : Int32) (fp_20 : sg_F) (H : Heap) (locs : List Loc) (ls : Array Slot), sp = sX10_reads_l20 t x1 n_20 y3_20 fp_20 L → 8 - y3_20.toInt < (n_20 : Int) → 0 ≤ (fp_20 10 3).toInt ∧ (fp_20 10 3).toInt ≤ 0 → 0 ≤ y3_20.toInt ∧ y3_20.toInt ≤ 8 → sgI loX hiX fp_20 → sgK WkX10_reads f fp_20 → va_P D vwCl (sgw 52 h (eX ca h) fp_20 L Q) H → va_S (sgA 52 h s.heap.size) s.heap H locs → lv_has ls 5 [(0, .ref (h 10)), (1, .ref (h (40 + 2 * t))), (2, .int x1), (3, .int y3_20)] → W p l e ({ frames := 1, cells := 0, slots := 0, locals := 21 }) s m ([.ref (h 10), .ref (h (40 + 2 * t)), .int x1] : List Value).toArray below meth cd H locs 0 0 Qz (F0 m 20 ls []) := by
    intro n_20
    induction n_20 with
    | zero => intro y3_20 fp_20 H locs ls hs hm_20 hy0_20 hy1_20 hI hF hP hS hl; exact absurd hm_20 (by omega)
    | succ n_20 ih_20 =>
      intro y3_20 fp_20 H locs ls hs hm_20 hy0_20 hy1_20 hI hF hP hS hl
      have hs : sp = sX10_reads_h20 t x1 (sX10_reads_l20 t x1 n_20) y3_20 fp_20 L := hs
      obtain ⟨v_27, ev_27⟩ : ∃ z : Int32, z = fp_20 10 3 := ⟨_, rfl⟩
      replace hs := hs.trans (spl_e ev_27 rfl)
      have q_28 : (fp_20 10 3).toInt = v_27.toInt := by rw [ev_27]
      refine lv_iload_n hx hb dX10_reads_20 rfl (lv_at hl 3 rfl) ?_
      refine lv_bipush (v := 8) hx hb dX10_reads_21 bp_8 ?_
      refine lv_icmp_ge (tgt := 39) hx hb dX10_reads_23 (by decide) (fun c => ?_) (fun c => ?_)
      · skip
        have c_29 : 8 ≤ y3_20.toInt := (by first | exact (cm_le0 ti_8 c) | (have z := bn_le c; have k1 : (8 : Int32).toInt = 8 := ti_8; omega))
        refine lv_iconst (v := 0) hx hb dX10_reads_39 ic_0 ?_
        refine lv_istore_n (lv' := [(3, .int 0), (0, .ref (h 10)), (1, .ref (h (40 + 2 * t))), (2, .int x1)]) hx hb dX10_reads_40 rfl hl (by decide) rfl (fun ls hl => ?_)
        exact loop_41 22 0 fp_20 _ _ _ (hs.trans ((if_neg (Int.not_lt.mpr c_29)).trans rfl)) (by have kc0 : (0 : Int32).toInt = 0 := ti_0; omega) (by decide) hI hF hP hS (lv_sub hl [1, 2, 3, 0] rfl)
      · skip
        have c_30 : y3_20.toInt < 8 := (by first | exact (cm_nle0 ti_8 c) | (have z := bn_nle c; have k1 : (8 : Int32).toInt = 8 := ti_8; omega))
        refine lv_aload_n hx hb dX10_reads_26 rfl (lv_at hl 0 rfl) ?_
        refine sl_gX_10_1_10 hx hb hts hown hK hP dX10_reads_27 ?_
        refine lv_iload_n hx hb dX10_reads_30 rfl (lv_at hl 3 rfl) ?_
        refine lv_iconst (v := 0) hx hb dX10_reads_31 ic_0 ?_
        refine sg_iast hx hb hh hA hK hP hS 12 (by decide) 0 (fun _ => rfl) rfl (i := y3_20) (x := 0) (vp_in_iff.mpr ⟨by omega, by omega⟩) dX10_reads_32 (fun f_31 H locs ef_31 hP hS => ?_)
        have hI : sgI loX hiX f_31 := by rw [ef_31]; exact sgI.put hI 12 y3_20.toNatClampNeg (bn_top _)
        have hF : sgK WkX10_reads f f_31 := sgK.put hF ef_31 (by rfl)
        obtain ⟨v_32, ev_32⟩ : ∃ z : Int32, z = y3_20 + 1 := ⟨_, rfl⟩
        have q_33 : v_32.toInt = y3_20.toInt + 1 := by rw [ev_32]; exact (bn_addc y3_20 1 (by decide) (by omega) (by omega))
        refine lv_iinc (v := v_32) (lv' := [(3, .int v_32), (0, .ref (h 10)), (1, .ref (h (40 + 2 * t))), (2, .int x1)]) hx hb dX10_reads_33 hl (k := 3) rfl (by rw [ev_32]; rfl) (by decide) rfl (fun ls hl => ?_)
        refine lv_goto (tgt := 20) hx hb dX10_reads_36 (by decide) ?_
        exact ih_20 v_32 f_31 _ _ _ (hs.trans ((if_pos c_30).trans (spl_e ef_31 (spl_e ev_32 rfl)))) (by omega) (by have zz10_3 : (f_31 10 3).toInt = v_27.toInt := (congrArg Int32.toInt (show f_31 10 3 = v_27 from (by rw [ef_31, sg_up_n (by decide)]; exact ev_27.symm))); exact ⟨by omega, by omega⟩) ⟨by omega, by omega⟩ hI hF hP hS (lv_sub hl [1, 2, 3, 0] rfl)
  refine lv_aload_n hx hb dX10_reads_0 rfl (lv_at hl 0 rfl) ?_
  refine lv_bipush (v := 21) hx hb dX10_reads_1 bp_21 ?_
  refine lv_aload_n hx hb dX10_reads_3 rfl (lv_at hl 1 rfl) ?_
  refine sg_get (ci := 7) (v := .int (f (40 + 2 * t) 2)) (C := RX7) (T := TX7) (N := 4) hx hb hts (fun w h => List.mem_cons_of_mem _ (gx_7 w h)) hown hK hP (40 + 2 * t) (by have := ht_t; omega) (eX_sh ca h ht_t _ _ _) rfl 2 (by decide) (hts _ (List.mem_cons_of_mem _ mw_154)) (fun _ h9 => h9) rfl dX10_reads_4 ?_
  refine lv_topi (fun v_34 ev_34 => ?_)
  have q_35 : 0 ≤ v_34.toInt ∧ v_34.toInt ≤ 60 := by rw [ev_34]; exact shb_2 hI ht_t
  refine va_mmin hx hb (hml.trans hl.1.symm) hown (hts _ (List.mem_cons_of_mem _ mw_155)) (hts _ (List.mem_cons_of_mem _ mw_10)) (hts _ (List.mem_cons_of_mem _ mw_11)) (hts _ (List.mem_cons_of_mem _ mw_12)) (Nat.le_of_ble_eq_true rfl) (Nat.le_of_ble_eq_true rfl) (Nat.le_refl _) (Nat.le_refl _) dX10_reads_7 ?_
  refine lv_topi (fun v_36 ev_36 => ?_)
  have q_37 : (v_34.toInt < 21 ∧ v_36.toInt = v_34.toInt) ∨ (21 ≤ v_34.toInt ∧ v_36.toInt = 21) := by have z := bn_minI v_34 (21 : Int32); rw [← ev_36] at z; have k0 : (21 : Int32).toInt = 21 := ti_21; omega
  refine sl_pX_10_2_10 (x := v_36) hx hb hts hown hh hA hK hP hS dX10_reads_10 (fun f_38 H locs ef_38 hP hS => ?_)
  have hI : sgI loX hiX f_38 := by rw [ef_38]; exact sgI.put hI 10 2 (show 0 ≤ (v_36 : Int32).toInt ∧ (v_36 : Int32).toInt ≤ 21 from ⟨by omega, by omega⟩)
  have hF : sgK WkX10_reads f f_38 := sgK.put hF ef_38 (by rfl)
  refine lv_aload_n hx hb dX10_reads_13 rfl (lv_at hl 0 rfl) ?_
  refine lv_iconst (v := 0) hx hb dX10_reads_14 ic_0 ?_
  refine sl_pX_10_3_10 (x := 0) hx hb hts hown hh hA hK hP hS dX10_reads_15 (fun f_39 H locs ef_39 hP hS => ?_)
  have hI : sgI loX hiX f_39 := by rw [ef_39]; exact sgI.put hI 10 3 (bn_top _)
  have hF : sgK WkX10_reads f f_39 := sgK.put hF ef_39 (by rfl)
  refine lv_iconst (v := 0) hx hb dX10_reads_18 ic_0 ?_
  refine lv_istore_n (lv' := [(3, .int 0), (0, .ref (h 10)), (1, .ref (h (40 + 2 * t))), (2, .int x1)]) hx hb dX10_reads_19 rfl hl (by decide) rfl (fun ls hl => ?_)
  exact loop_20 9 0 f_39 _ _ _ (hs.trans ((spl_e ev_34 (spl_e ev_36 (spl_e ef_38 (spl_e ef_39 rfl)))))) (by have kc0 : (0 : Int32).toInt = 0 := ti_0; omega) (by have zz10_3 : (f_39 10 3).toInt = 0 := (congrArg Int32.toInt (show f_39 10 3 = 0 from (by rw [ef_39, sg_up_s, sgu_s]))).trans (by decide); exact ⟨by omega, by omega⟩) (by decide) hI hF hP hS (lv_sub hl [1, 2, 3, 0] rfl)

abbrev WkX11_readWeek : List (Nat × Nat × Option Nat) := [(10, 10, some 2), (10, 10, some 3), (11, 11, none), (12, 12, none)]
set_option maxHeartbeats 4000000 in
set_option maxRecDepth 100000 in
theorem kX11_readWeek (l : Launch) (D : va_G) (ca : Nat → ClassId) (za h : Nat → Nat) (hh : sgH 52 h) (f : sg_F) (L : sg_L) (Q : sg_Q) (hI : sgI loX hiX f) (x0 : Int32) (b0 : 0 ≤ x0.toInt ∧ x0.toInt ≤ 5) (sz : Nat) : Met l yX11_readWeek gwX11_readWeek { frames := 2, cells := 0, slots := 0, locals := 45 } (sgP D vwCl (tyX ca) 52 h (eX ca h) zcX za f L Q sz [.ref (h 0), .int x0]) (sgQi D vwCl 52 h (eX ca h) sz (fun r f1 L1 Q1 => ((sgI loX hiX f1 ∧ sgK WkX11_readWeek f f1 ∧ L1 = L ∧ Q1 = Q) ∧ ((-12) ≤ r.toInt ∧ r.toInt ≤ 0) ∧ (r, f1) = sX11_readWeek x0 f L))) 0 0 (sgA 52 h sz) := by
  refine sg_ofWi (cc := cX11_readWeek) (maxL := 3) RX11 (by decide) rfl rfl (Nat.le_of_ble_eq_true rfl) ?_
  intro p e s m below meth cd Qz ls hx hb hml hown hts hK hZ hP hS hl hret
  have hA := sgY.self (n := 52) (h := h) (sz := s.heap.size)
  have hl : lv_has ls 3 [(0, .ref (h 0)), (1, .int x0)] := hl
  obtain ⟨H, hH⟩ : ∃ z : Heap, z = s.heap := ⟨_, rfl⟩
  obtain ⟨locs, hlo⟩ : ∃ z : List Loc, z = [] := ⟨_, rfl⟩
  have hP : va_P D vwCl (sgw 52 h (eX ca h) f L Q) H := by rw [hH]; exact hP
  have hS : va_S (sgA 52 h s.heap.size) s.heap H locs := by rw [hH, hlo]; exact hS
  suffices hgo : W p l e ({ frames := 2, cells := 0, slots := 0, locals := 45 }) s m ([.ref (h 0), .int x0] : List Value).toArray below meth cd H locs 0 0 Qz (F0 m 0 ls []) by rw [hH, hlo] at hgo; exact hgo
  clear hH hlo
  obtain ⟨sp, hsp⟩ : ∃ z : Int32 × sg_F, z = sX11_readWeek x0 f L := ⟨_, rfl⟩
  have hs : sp = sX11_readWeek x0 f L := hsp
  have hF : sgK WkX11_readWeek f f := sgK.rf
  refine lv_aload_n hx hb dX11_readWeek_0 rfl (lv_at hl 0 rfl) ?_
  refine lv_iload_n hx hb dX11_readWeek_1 rfl (lv_at hl 1 rfl) ?_
  refine sg_calli (va_runV (As := [.int x0]) (rest := []) ⟨hx, hb, hml, hown, hts⟩ (kX11_refusalOf l D ca za h hh f L Q hI x0 b0 H.size) (sl_c11_refusalOf_0_0_0_0_11 hts ⟨Nat.le_of_ble_eq_true rfl, Nat.le_of_ble_eq_true rfl⟩) (sl_vX_0 hA hK hP hS hZ) rfl rfl hl.1 rfl (lv_room (Nat.le_of_ble_eq_true rfl)) dX11_readWeek_2 ⟨Nat.le_refl _, Nat.le_refl _⟩) hA hS (fun r_4 f_1 L_2 Q_3 H locs hq hP hS => ?_)
  obtain ⟨⟨ef9, eL9, eQ9⟩, hq, u_5⟩ := hq
  replace hs := hs.trans (spl_e u_5 rfl)
  rw [ef9, eL9, eQ9] at hP; clear ef9 eL9 eQ9
  refine lv_istore_n (lv' := [(2, .int r_4), (0, .ref (h 0)), (1, .int x0)]) hx hb dX11_readWeek_5 rfl hl (by decide) rfl (fun ls hl => ?_)
  refine lv_iload_n hx hb dX11_readWeek_6 rfl (lv_at hl 0 rfl) ?_
  refine lv_if_ne (tgt := 30) hx hb dX11_readWeek_7 (by decide) (fun c => ?_) (fun c => ?_)
  · skip
    have c_6 : r_4.toInt ≠ 0 := (by first | exact (cm_ne1 ti_0 c) | (have z := bn_ne c; have k1 : (0 : Int32).toInt = 0 := ti_0; omega))
    refine lv_iload_n hx hb dX11_readWeek_30 rfl (lv_at hl 0 rfl) ?_
    exact hret _ _ _ _ (r_4) f L Q dX11_readWeek_31 hP hS ⟨⟨hI, hF, rfl, rfl⟩, ⟨by omega, by omega⟩, (Eq.trans (Eq.symm (hs.trans ((if_neg c_6).trans rfl))) hsp)⟩
  · skip
    have c_7 : r_4.toInt = 0 := (by first | exact (cm_eq1 ti_0 c) | (have z := Int32.toInt_inj.mpr c; have k1 : (0 : Int32).toInt = 0 := ti_0; omega))
    refine lv_aload_n hx hb dX11_readWeek_10 rfl (lv_at hl 1 rfl) ?_
    refine sl_gX_0_1_11 hx hb hts hown hK hP dX11_readWeek_11 ?_
    refine lv_aload_n hx hb dX11_readWeek_14 rfl (lv_at hl 1 rfl) ?_
    refine sl_gX_0_9_11 hx hb hts hown hK hP dX11_readWeek_15 ?_
    refine lv_iload_n hx hb dX11_readWeek_18 rfl (lv_at hl 2 rfl) ?_
    obtain ⟨t_8, et_8⟩ : ∃ z : Nat, z = x0.toNatClampNeg := ⟨_, rfl⟩
    have ht_t_8 : t_8 < 6 := by rw [et_8]; exact bn_kI (by omega) (by omega)
    refine sg_aald hx hb hK hP 39 (by decide) 3 rfl rfl (i := x0) (a := (h (40 + 2 * t_8))) (vp_in_iff.mpr ⟨by omega, by omega⟩) (show (if x0.toNatClampNeg < 6 then some (h (40 + 2 * x0.toNatClampNeg)) else none) = some (h (40 + 2 * t_8)) from by rw [← et_8, if_pos ht_t_8]) dX11_readWeek_19 ?_
    refine lv_aload_n hx hb dX11_readWeek_20 rfl (lv_at hl 1 rfl) ?_
    refine sl_gX_0_0_11 hx hb hts hown hK hP dX11_readWeek_21 ?_
    refine sl_gX_1_3_11 (v := (f 1 3)) hx hb hts hown hK hP rfl dX11_readWeek_24 ?_
    refine lv_topi (fun v_9 ev_9 => ?_)
    have q_10 : 0 ≤ v_9.toInt ∧ v_9.toInt ≤ 8 := by rw [ev_9]; exact hI 1 3
    refine sg_callv (va_runV (As := [.ref (h (40 + 2 * t_8)), .int v_9]) (rest := []) ⟨hx, hb, hml, hown, hts⟩ (kX10_reads l D ca za h hh f L Q hI t_8 ht_t_8 v_9 q_10 H.size) (sl_c10_reads_1_0_0_21_11 hts ⟨Nat.le_of_ble_eq_true rfl, Nat.le_of_ble_eq_true rfl⟩) (sl_vX_10 hA hK hP hS hZ) rfl rfl hl.1 rfl (lv_room (Nat.le_of_ble_eq_true rfl)) dX11_readWeek_27 ⟨Nat.le_refl _, Nat.le_refl _⟩) hA hS (fun f_11 L_12 Q_13 H locs hq hP hS => ?_)
    obtain ⟨⟨hI, hk_f_11, eL9, eQ9⟩, u_14⟩ := hq
    rw [eL9, eQ9] at hP; clear eL9 eQ9
    have hF : sgK WkX11_readWeek f f_11 := sgK.tr hF hk_f_11 (by decide +kernel)
    refine lv_iload_n hx hb dX11_readWeek_30 rfl (lv_at hl 0 rfl) ?_
    exact hret _ _ _ _ (r_4) f_11 L Q dX11_readWeek_31 hP hS ⟨⟨hI, hF, rfl, rfl⟩, ⟨by omega, by omega⟩, (Eq.trans (Eq.symm (hs.trans ((if_pos c_7).trans (spl_e et_8 (spl_e ev_9 (spl_e u_14 rfl)))))) hsp)⟩

abbrev WkX8_allLosses : List (Nat × Nat × Option Nat) := [(8, 8, none), (9, 9, none)]
set_option maxHeartbeats 4000000 in
set_option maxRecDepth 100000 in
theorem kX8_allLosses (l : Launch) (D : va_G) (ca : Nat → ClassId) (za h : Nat → Nat) (hh : sgH 52 h) (f : sg_F) (L : sg_L) (Q : sg_Q) (hI : sgI loX hiX f) (x0 : Int32) (x1 : Int32) (b0 : 0 ≤ x0.toInt ∧ x0.toInt ≤ 2) (b1 : 0 ≤ x1.toInt ∧ x1.toInt ≤ 60) (sz : Nat) : Met l yX8_allLosses gwX8_allLosses { frames := 4, cells := 0, slots := 0, locals := 102 } (sgP D vwCl (tyX ca) 52 h (eX ca h) zcX za f L Q sz [.ref (h 17), .int x0, .int x1]) (sgQi D vwCl 52 h (eX ca h) sz (fun r f1 L1 Q1 => ((sgI loX hiX f1 ∧ sgK WkX8_allLosses f f1 ∧ L1 = L ∧ Q1 = Q) ∧ True ∧ (r, f1) = sX8_allLosses x0 x1 f L))) 0 0 (sgA 52 h sz) := by
  refine sg_ofWi (cc := cX8_allLosses) (maxL := 5) RX8 (by decide) rfl rfl (Nat.le_of_ble_eq_true rfl) ?_
  intro p e s m below meth cd Qz ls hx hb hml hown hts hK hZ hP hS hl hret
  have hA := sgY.self (n := 52) (h := h) (sz := s.heap.size)
  have hl : lv_has ls 5 [(0, .ref (h 17)), (1, .int x0), (2, .int x1)] := hl
  obtain ⟨H, hH⟩ : ∃ z : Heap, z = s.heap := ⟨_, rfl⟩
  obtain ⟨locs, hlo⟩ : ∃ z : List Loc, z = [] := ⟨_, rfl⟩
  have hP : va_P D vwCl (sgw 52 h (eX ca h) f L Q) H := by rw [hH]; exact hP
  have hS : va_S (sgA 52 h s.heap.size) s.heap H locs := by rw [hH, hlo]; exact hS
  suffices hgo : W p l e ({ frames := 4, cells := 0, slots := 0, locals := 102 }) s m ([.ref (h 17), .int x0, .int x1] : List Value).toArray below meth cd H locs 0 0 Qz (F0 m 0 ls []) by rw [hH, hlo] at hgo; exact hgo
  clear hH hlo
  obtain ⟨sp, hsp⟩ : ∃ z : Int32 × sg_F, z = sX8_allLosses x0 x1 f L := ⟨_, rfl⟩
  have hs : sp = sX8_allLosses x0 x1 f L := hsp
  have hF : sgK WkX8_allLosses f f := sgK.rf
  have loop_5 : ∀ (n_5 : Nat) (y3_5 : Int32) (y4_5 : Int32) (fp_5 : sg_F) (H : Heap) (locs : List Loc) (ls : Array Slot), sp = sX8_allLosses_l5 x0 x1 n_5 y3_5 y4_5 fp_5 L → 8 - y4_5.toInt < (n_5 : Int) → 0 ≤ y4_5.toInt ∧ y4_5.toInt ≤ 8 → sgI loX hiX fp_5 → sgK WkX8_allLosses f fp_5 → va_P D vwCl (sgw 52 h (eX ca h) fp_5 L Q) H → va_S (sgA 52 h s.heap.size) s.heap H locs → lv_has ls 5 [(0, .ref (h 17)), (1, .int x0), (2, .int x1), (3, .int y3_5), (4, .int y4_5)] → W p l e ({ frames := 4, cells := 0, slots := 0, locals := 102 }) s m ([.ref (h 17), .int x0, .int x1] : List Value).toArray below meth cd H locs 0 0 Qz (F0 m 5 ls []) := by
    intro n_5
    induction n_5 with
    | zero => intro y3_5 y4_5 fp_5 H locs ls hs hm_5 hy0_5 hI hF hP hS hl; exact absurd hm_5 (by omega)
    | succ n_5 ih_5 =>
      have blk_50 : ∀ (y3_50 : Int32) (y4_50 : Int32) (fp_50 : sg_F) (H : Heap) (locs : List Loc) (ls : Array Slot), sp = sX8_allLosses_b50 (sX8_allLosses_l5 x0 x1 n_5) x0 x1 y3_50 y4_50 fp_50 L → 8 - y4_50.toInt < ((n_5 + 1 : Nat) : Int) → 0 ≤ y4_50.toInt ∧ y4_50.toInt ≤ 7 → sgI loX hiX fp_50 → sgK WkX8_allLosses f fp_50 → va_P D vwCl (sgw 52 h (eX ca h) fp_50 L Q) H → va_S (sgA 52 h s.heap.size) s.heap H locs → lv_has ls 5 [(0, .ref (h 17)), (1, .int x0), (2, .int x1), (3, .int y3_50), (4, .int y4_50)] → W p l e ({ frames := 4, cells := 0, slots := 0, locals := 102 }) s m ([.ref (h 17), .int x0, .int x1] : List Value).toArray below meth cd H locs 0 0 Qz (F0 m 50 ls []) := by
        intro y3_50 y4_50 fp_50 H locs ls hs hm_5 hy0_50 hI hF hP hS hl
        obtain ⟨v_1, ev_1⟩ : ∃ z : Int32, z = y4_50 + 1 := ⟨_, rfl⟩
        have q_2 : v_1.toInt = y4_50.toInt + 1 := by rw [ev_1]; exact (bn_addc y4_50 1 (by decide) (by omega) (by omega))
        refine lv_iinc (v := v_1) (lv' := [(4, .int v_1), (0, .ref (h 17)), (1, .int x0), (2, .int x1), (3, .int y3_50)]) hx hb dX8_allLosses_50 hl (k := 4) rfl (by rw [ev_1]; rfl) (by decide) rfl (fun ls hl => ?_)
        refine lv_goto (tgt := 5) hx hb dX8_allLosses_53 (by decide) ?_
        exact ih_5 y3_50 v_1 fp_50 _ _ _ (hs.trans ((spl_e ev_1 rfl))) (by omega) ⟨by omega, by omega⟩ hI hF hP hS (lv_sub hl [1, 2, 3, 4, 0] rfl)
      intro y3_5 y4_5 fp_5 H locs ls hs hm_5 hy0_5 hI hF hP hS hl
      have hs : sp = sX8_allLosses_h5 x0 x1 (sX8_allLosses_l5 x0 x1 n_5) y3_5 y4_5 fp_5 L := hs
      refine lv_iload hx hb dX8_allLosses_5 (lv_at hl 4 rfl) ?_
      refine lv_bipush (v := 8) hx hb dX8_allLosses_7 bp_8 ?_
      refine lv_icmp_ge (tgt := 56) hx hb dX8_allLosses_9 (by decide) (fun c => ?_) (fun c => ?_)
      · skip
        have c_3 : 8 ≤ y4_5.toInt := (by first | exact (cm_le0 ti_8 c) | (have z := bn_le c; have k1 : (8 : Int32).toInt = 8 := ti_8; omega))
        refine lv_iload_n hx hb dX8_allLosses_56 rfl (lv_at hl 3 rfl) ?_
        exact hret _ _ _ _ (y3_5) fp_5 L Q dX8_allLosses_57 hP hS ⟨⟨hI, hF, rfl, rfl⟩, trivial, (Eq.trans (Eq.symm (hs.trans (((if_neg (Int.not_lt.mpr c_3)).trans rfl)))) hsp)⟩
      · skip
        have c_4 : y4_5.toInt < 8 := (by first | exact (cm_nle0 ti_8 c) | (have z := bn_nle c; have k1 : (8 : Int32).toInt = 8 := ti_8; omega))
        refine lv_aload_n hx hb dX8_allLosses_12 rfl (lv_at hl 0 rfl) ?_
        refine sl_gX_17_1_8 hx hb hts hown hK hP dX8_allLosses_13 ?_
        refine sl_gX_10_1_8 hx hb hts hown hK hP dX8_allLosses_16 ?_
        refine lv_iload hx hb dX8_allLosses_19 (lv_at hl 4 rfl) ?_
        refine sg_iald hx hb hK hP 12 (by decide) 0 rfl rfl (i := y4_5) (vp_in_iff.mpr ⟨by omega, by omega⟩) dX8_allLosses_21 ?_
        refine lv_topi (fun v_5 ev_5 => ?_)
        replace hs := hs.trans ((if_pos c_4).trans (spl_e ev_5 rfl))
        refine lv_if_le (tgt := 50) hx hb dX8_allLosses_22 (by decide) (fun c => ?_) (fun c => ?_)
        · skip
          have c_6 : v_5.toInt ≤ 0 := (by first | exact (cm_le1 ti_0 c) | (have z := bn_le c; have k1 : (0 : Int32).toInt = 0 := ti_0; omega))
          exact blk_50 y3_5 y4_5 fp_5 _ _ _ (hs.trans ((if_neg (Int.not_lt.mpr c_6)).trans rfl)) (by omega) ⟨by omega, by omega⟩ hI hF hP hS (lv_sub hl [0, 1, 2, 3, 4] rfl)
        · skip
          have c_7 : 0 < v_5.toInt := (by first | exact (cm_nle1 ti_0 c) | (have z := bn_nle c; have k1 : (0 : Int32).toInt = 0 := ti_0; omega))
          refine lv_iload_n hx hb dX8_allLosses_25 rfl (lv_at hl 3 rfl) ?_
          refine lv_aload_n hx hb dX8_allLosses_26 rfl (lv_at hl 0 rfl) ?_
          refine sl_gX_17_1_8 hx hb hts hown hK hP dX8_allLosses_27 ?_
          refine sl_gX_10_1_8 hx hb hts hown hK hP dX8_allLosses_30 ?_
          refine lv_iload hx hb dX8_allLosses_33 (lv_at hl 4 rfl) ?_
          refine sg_iald hx hb hK hP 12 (by decide) 0 rfl rfl (i := y4_5) (vp_in_iff.mpr ⟨by omega, by omega⟩) dX8_allLosses_35 ?_
          rw [← ev_5]
          refine lv_aload_n hx hb dX8_allLosses_36 rfl (lv_at hl 0 rfl) ?_
          refine sl_gX_17_0_8 hx hb hts hown hK hP dX8_allLosses_37 ?_
          refine lv_iload hx hb dX8_allLosses_40 (lv_at hl 4 rfl) ?_
          refine lv_iload_n hx hb dX8_allLosses_42 rfl (lv_at hl 1 rfl) ?_
          refine lv_iload_n hx hb dX8_allLosses_43 rfl (lv_at hl 2 rfl) ?_
          refine sg_calli (va_runV (As := [.int y4_5, .int x0, .int x1]) (rest := [.int v_5, .int y3_5]) ⟨hx, hb, hml, hown, hts⟩ (kX0_lossAt l D ca za h hh fp_5 L Q hI y4_5 x0 x1 ⟨by omega, by omega⟩ b0 b1 H.size) (sl_c0_lossAt_3_0_0_74_8 hts ⟨Nat.le_of_ble_eq_true rfl, Nat.le_of_ble_eq_true rfl⟩) (sl_vX_1 hA hK hP hS hZ) rfl rfl hl.1 rfl (lv_room (Nat.le_of_ble_eq_true rfl)) dX8_allLosses_44 ⟨Nat.le_refl _, Nat.le_refl _⟩) hA hS (fun r_11 f_8 L_9 Q_10 H locs hq hP hS => ?_)
          obtain ⟨⟨hI, hk_f_8, eL9, eQ9⟩, hq, u_12⟩ := hq
          rw [eL9, eQ9] at hP; clear eL9 eQ9
          have hF : sgK WkX8_allLosses f f_8 := sgK.tr hF hk_f_8 (by decide +kernel)
          refine lv_imul hx hb dX8_allLosses_47 ?_
          refine lv_topi (fun v_13 ev_13 => ?_)
          refine lv_iadd hx hb dX8_allLosses_48 ?_
          refine lv_topi (fun v_14 ev_14 => ?_)
          refine lv_istore_n (lv' := [(3, .int v_14), (0, .ref (h 17)), (1, .int x0), (2, .int x1), (4, .int y4_5)]) hx hb dX8_allLosses_49 rfl hl (by decide) rfl (fun ls hl => ?_)
          exact blk_50 v_14 y4_5 f_8 _ _ _ (hs.trans ((if_pos c_7).trans (spl2_e u_12 (spl_e ev_13 (spl_e ev_14 rfl))))) (by omega) ⟨by omega, by omega⟩ hI hF hP hS (lv_sub hl [1, 2, 3, 0, 4] rfl)
  refine lv_iconst (v := 0) hx hb dX8_allLosses_0 ic_0 ?_
  refine lv_istore_n (lv' := [(3, .int 0), (0, .ref (h 17)), (1, .int x0), (2, .int x1)]) hx hb dX8_allLosses_1 rfl hl (by decide) rfl (fun ls hl => ?_)
  refine lv_iconst (v := 0) hx hb dX8_allLosses_2 ic_0 ?_
  refine lv_istore (lv' := [(4, .int 0), (3, .int 0), (0, .ref (h 17)), (1, .int x0), (2, .int x1)]) hx hb dX8_allLosses_3 hl (by decide) rfl (fun ls hl => ?_)
  exact loop_5 9 0 0 f _ _ _ hs (by have kc0 : (0 : Int32).toInt = 0 := ti_0; have kc1 : (0 : Int32).toInt = 0 := ti_0; omega) (by decide) hI hF hP hS (lv_sub hl [2, 3, 4, 1, 0] rfl)

abbrev WkX11_never : List (Nat × Nat × Option Nat) := [(8, 8, none), (9, 9, none), (10, 10, some 2), (10, 10, some 3), (11, 11, none), (12, 12, none)]
set_option maxHeartbeats 4000000 in
set_option maxRecDepth 100000 in
theorem kX11_never (l : Launch) (D : va_G) (ca : Nat → ClassId) (za h : Nat → Nat) (hh : sgH 52 h) (f : sg_F) (L : sg_L) (Q : sg_Q) (hI : sgI loX hiX f) (x0 : Int32) (x1 : Int32) (x2 : Int32) (sz : Nat) : Met l yX11_never gwX11_never { frames := 5, cells := 0, slots := 0, locals := 126 } (sgP D vwCl (tyX ca) 52 h (eX ca h) zcX za f L Q sz [.ref (h 0), .int x0, .int x1, .int x2]) (sgQi D vwCl 52 h (eX ca h) sz (fun r f1 L1 Q1 => ((sgI loX hiX f1 ∧ sgK WkX11_never f f1 ∧ L1 = L ∧ Q1 = Q) ∧ True ∧ (r, f1) = sX11_never x0 x1 x2 f L))) 0 0 (sgA 52 h sz) := by
  refine sg_ofWi (cc := cX11_never) (maxL := 5) RX11 (by decide) rfl rfl (Nat.le_of_ble_eq_true rfl) ?_
  intro p e s m below meth cd Qz ls hx hb hml hown hts hK hZ hP hS hl hret
  have hA := sgY.self (n := 52) (h := h) (sz := s.heap.size)
  have hl : lv_has ls 5 [(0, .ref (h 0)), (1, .int x0), (2, .int x1), (3, .int x2)] := hl
  obtain ⟨H, hH⟩ : ∃ z : Heap, z = s.heap := ⟨_, rfl⟩
  obtain ⟨locs, hlo⟩ : ∃ z : List Loc, z = [] := ⟨_, rfl⟩
  have hP : va_P D vwCl (sgw 52 h (eX ca h) f L Q) H := by rw [hH]; exact hP
  have hS : va_S (sgA 52 h s.heap.size) s.heap H locs := by rw [hH, hlo]; exact hS
  suffices hgo : W p l e ({ frames := 5, cells := 0, slots := 0, locals := 126 }) s m ([.ref (h 0), .int x0, .int x1, .int x2] : List Value).toArray below meth cd H locs 0 0 Qz (F0 m 0 ls []) by rw [hH, hlo] at hgo; exact hgo
  clear hH hlo
  obtain ⟨sp, hsp⟩ : ∃ z : Int32 × sg_F, z = sX11_never x0 x1 x2 f L := ⟨_, rfl⟩
  have hs : sp = sX11_never x0 x1 x2 f L := hsp
  have hF : sgK WkX11_never f f := sgK.rf
  refine lv_iload_n hx hb dX11_never_0 rfl (lv_at hl 1 rfl) ?_
  refine sg_calli (va_runS (As := [.int x0]) (rest := []) ⟨hx, hb, hml, hown, hts⟩ (kX11_isShelf l D ca za h hh f L Q hI x0 H.size) (va_cwS 1 hts (gw_S (fun _ h => List.mem_cons_of_mem _ h) mw_35 mw_36 mw_37 mw_34) rfl rfl rfl hd_yX11_isShelf.2 ⟨Nat.le_of_ble_eq_true rfl, Nat.le_of_ble_eq_true rfl⟩) (sg_preS hA hK hP hS hZ) rfl rfl hl.1 rfl (lv_room (Nat.le_of_ble_eq_true rfl)) dX11_never_1 ⟨Nat.le_refl _, Nat.le_refl _⟩) hA hS (fun r_4 f_1 L_2 Q_3 H locs hq hP hS => ?_)
  obtain ⟨⟨ef9, eL9, eQ9⟩, hq, u_5⟩ := hq
  replace hs := hs.trans (spl_e u_5 rfl)
  rw [ef9, eL9, eQ9] at hP; clear ef9 eL9 eQ9
  rcases hq with ⟨rfl, hq⟩ | ⟨rfl, hq⟩
  · skip
    have hc_6 := hq
    refine lv_if_eq (tgt := 21) hx hb dX11_never_4 (by decide) (fun c => absurd c (by decide)) (fun c => ?_)
    refine lv_iload_n hx hb dX11_never_7 rfl (lv_at hl 2 rfl) ?_
    refine sg_calli (va_runS (As := [.int x1]) (rest := []) ⟨hx, hb, hml, hown, hts⟩ (kX11_isPart l D ca za h hh f L Q hI x1 H.size) (va_cwS 1 hts (gw_S (fun _ h => List.mem_cons_of_mem _ h) mw_58 mw_59 mw_37 mw_57) rfl rfl rfl hd_yX11_isPart.2 ⟨Nat.le_of_ble_eq_true rfl, Nat.le_of_ble_eq_true rfl⟩) (sg_preS hA hK hP hS hZ) rfl rfl hl.1 rfl (lv_room (Nat.le_of_ble_eq_true rfl)) dX11_never_8 ⟨Nat.le_refl _, Nat.le_refl _⟩) hA hS (fun r_10 f_7 L_8 Q_9 H locs hq hP hS => ?_)
    obtain ⟨⟨ef9, eL9, eQ9⟩, hq, u_11⟩ := hq
    replace hs := hs.trans ((if_pos rfl).trans (spl_e u_11 rfl))
    rw [ef9, eL9, eQ9] at hP; clear ef9 eL9 eQ9
    rcases hq with ⟨rfl, hq⟩ | ⟨rfl, hq⟩
    · skip
      have hc_12 := hq
      refine lv_if_eq (tgt := 21) hx hb dX11_never_11 (by decide) (fun c => absurd c (by decide)) (fun c => ?_)
      refine lv_iload_n hx hb dX11_never_14 rfl (lv_at hl 3 rfl) ?_
      refine sg_calli (va_runS (As := [.int x2]) (rest := []) ⟨hx, hb, hml, hown, hts⟩ (kX11_isSetting l D ca za h hh f L Q hI x2 H.size) (va_cwS 1 hts (gw_S (fun _ h => List.mem_cons_of_mem _ h) mw_61 mw_62 mw_37 mw_60) rfl rfl rfl hd_yX11_isSetting.2 ⟨Nat.le_of_ble_eq_true rfl, Nat.le_of_ble_eq_true rfl⟩) (sg_preS hA hK hP hS hZ) rfl rfl hl.1 rfl (lv_room (Nat.le_of_ble_eq_true rfl)) dX11_never_15 ⟨Nat.le_refl _, Nat.le_refl _⟩) hA hS (fun r_16 f_13 L_14 Q_15 H locs hq hP hS => ?_)
      obtain ⟨⟨ef9, eL9, eQ9⟩, hq, u_17⟩ := hq
      replace hs := hs.trans ((if_pos rfl).trans (spl_e u_17 rfl))
      rw [ef9, eL9, eQ9] at hP; clear ef9 eL9 eQ9
      rcases hq with ⟨rfl, hq⟩ | ⟨rfl, hq⟩
      · skip
        have hc_18 := hq
        refine lv_if_ne (tgt := 23) hx hb dX11_never_18 (by decide) (fun c => ?_) (fun c => absurd c (by decide))
        refine lv_aload_n hx hb dX11_never_23 rfl (lv_at hl 0 rfl) ?_
        refine lv_iload_n hx hb dX11_never_24 rfl (lv_at hl 1 rfl) ?_
        refine sg_calli (va_runV (As := [.int x0]) (rest := []) ⟨hx, hb, hml, hown, hts⟩ (kX11_readWeek l D ca za h hh f L Q hI x0 ⟨by omega, by omega⟩ H.size) (sl_c11_readWeek_2_0_0_45_11 hts ⟨Nat.le_of_ble_eq_true rfl, Nat.le_of_ble_eq_true rfl⟩) (sl_vX_0 hA hK hP hS hZ) rfl rfl hl.1 rfl (lv_room (Nat.le_of_ble_eq_true rfl)) dX11_never_25 ⟨Nat.le_refl _, Nat.le_refl _⟩) hA hS (fun r_22 f_19 L_20 Q_21 H locs hq hP hS => ?_)
        obtain ⟨⟨hI, hk_f_19, eL9, eQ9⟩, hq, u_23⟩ := hq
        replace hs := hs.trans ((if_pos rfl).trans (spl2_e u_23 rfl))
        rw [eL9, eQ9] at hP; clear eL9 eQ9
        have hF : sgK WkX11_never f f_19 := sgK.tr hF hk_f_19 (by decide +kernel)
        refine lv_istore (lv' := [(4, .int r_22), (0, .ref (h 0)), (1, .int x0), (2, .int x1), (3, .int x2)]) hx hb dX11_never_28 hl (by decide) rfl (fun ls hl => ?_)
        refine lv_iload hx hb dX11_never_30 (lv_at hl 0 rfl) ?_
        refine lv_if_eq (tgt := 40) hx hb dX11_never_32 (by decide) (fun c => ?_) (fun c => ?_)
        · skip
          have c_24 : r_22.toInt = 0 := (by first | exact (cm_eq1 ti_0 c) | (have z := Int32.toInt_inj.mpr c; have k1 : (0 : Int32).toInt = 0 := ti_0; omega))
          refine lv_aload_n hx hb dX11_never_40 rfl (lv_at hl 1 rfl) ?_
          refine sl_gX_0_3_11 hx hb hts hown hK hP dX11_never_41 ?_
          refine lv_iload_n hx hb dX11_never_44 rfl (lv_at hl 3 rfl) ?_
          refine lv_iload_n hx hb dX11_never_45 rfl (lv_at hl 4 rfl) ?_
          refine sg_calli (va_runV (As := [.int x1, .int x2]) (rest := []) ⟨hx, hb, hml, hown, hts⟩ (kX8_allLosses l D ca za h hh f_19 L Q hI x1 x2 ⟨by omega, by omega⟩ ⟨by omega, by omega⟩ H.size) (sl_c8_allLosses_4_0_0_102_11 hts ⟨Nat.le_of_ble_eq_true rfl, Nat.le_of_ble_eq_true rfl⟩) (sl_vX_17 hA hK hP hS hZ) rfl rfl hl.1 rfl (lv_room (Nat.le_of_ble_eq_true rfl)) dX11_never_46 ⟨Nat.le_refl _, Nat.le_refl _⟩) hA hS (fun r_29 f_26 L_27 Q_28 H locs hq hP hS => ?_)
          obtain ⟨⟨hI, hk_f_26, eL9, eQ9⟩, hq, u_30⟩ := hq
          rw [eL9, eQ9] at hP; clear eL9 eQ9
          have hF : sgK WkX11_never f f_26 := sgK.tr hF hk_f_26 (by decide +kernel)
          exact hret _ _ _ _ (r_29) f_26 L Q dX11_never_49 hP hS ⟨⟨hI, hF, rfl, rfl⟩, trivial, (Eq.trans (Eq.symm (hs.trans ((if_pos c_24).trans (spl2_e u_30 rfl)))) hsp)⟩
        · skip
          have c_25 : r_22.toInt ≠ 0 := (by first | exact (cm_ne1 ti_0 c) | (have z := bn_ne c; have k1 : (0 : Int32).toInt = 0 := ti_0; omega))
          refine lv_iload hx hb dX11_never_35 (lv_at hl 0 rfl) ?_
          refine lv_goto (tgt := 49) hx hb dX11_never_37 (by decide) ?_
          exact hret _ _ _ _ (r_22) f_19 L Q dX11_never_49 hP hS ⟨⟨hI, hF, rfl, rfl⟩, trivial, (Eq.trans (Eq.symm (hs.trans ((if_neg c_25).trans rfl))) hsp)⟩
      · skip
        have hc_18 := hq
        refine lv_if_ne (tgt := 23) hx hb dX11_never_18 (by decide) (fun c => absurd c (by decide)) (fun c => ?_)
        refine lv_iconst (v := (-1)) hx hb dX11_never_21 ic_m1 ?_
        have k99 : ((-1) : Int32).toInt = (-1) := ti_m1
        exact hret _ _ _ _ (-1) f L Q dX11_never_22 hP hS ⟨⟨hI, hF, rfl, rfl⟩, trivial, (Eq.trans (Eq.symm (hs.trans ((if_neg (by decide)).trans rfl))) hsp)⟩
    · skip
      have hc_12 := hq
      refine lv_if_eq (tgt := 21) hx hb dX11_never_11 (by decide) (fun c => ?_) (fun c => absurd c (by decide))
      refine lv_iconst (v := (-1)) hx hb dX11_never_21 ic_m1 ?_
      have k99 : ((-1) : Int32).toInt = (-1) := ti_m1
      exact hret _ _ _ _ (-1) f L Q dX11_never_22 hP hS ⟨⟨hI, hF, rfl, rfl⟩, trivial, (Eq.trans (Eq.symm (hs.trans ((if_neg (by decide)).trans rfl))) hsp)⟩
  · skip
    have hc_6 := hq
    refine lv_if_eq (tgt := 21) hx hb dX11_never_4 (by decide) (fun c => ?_) (fun c => absurd c (by decide))
    refine lv_iconst (v := (-1)) hx hb dX11_never_21 ic_m1 ?_
    have k99 : ((-1) : Int32).toInt = (-1) := ti_m1
    exact hret _ _ _ _ (-1) f L Q dX11_never_22 hP hS ⟨⟨hI, hF, rfl, rfl⟩, trivial, (Eq.trans (Eq.symm (hs.trans ((if_neg (by decide)).trans rfl))) hsp)⟩

abbrev WkX8_worstLoss : List (Nat × Nat × Option Nat) := [(8, 8, none), (9, 9, none)]
set_option maxHeartbeats 4000000 in
set_option maxRecDepth 100000 in
theorem kX8_worstLoss (l : Launch) (D : va_G) (ca : Nat → ClassId) (za h : Nat → Nat) (hh : sgH 52 h) (f : sg_F) (L : sg_L) (Q : sg_Q) (hI : sgI loX hiX f) (x0 : Int32) (x1 : Int32) (b0 : 0 ≤ x0.toInt ∧ x0.toInt ≤ 2) (b1 : 0 ≤ x1.toInt ∧ x1.toInt ≤ 60) (sz : Nat) : Met l yX8_worstLoss gwX8_worstLoss { frames := 4, cells := 0, slots := 0, locals := 102 } (sgP D vwCl (tyX ca) 52 h (eX ca h) zcX za f L Q sz [.ref (h 17), .int x0, .int x1]) (sgQi D vwCl 52 h (eX ca h) sz (fun r f1 L1 Q1 => ((sgI loX hiX f1 ∧ sgK WkX8_worstLoss f f1 ∧ L1 = L ∧ Q1 = Q) ∧ (0 ≤ r.toInt ∧ r.toInt ≤ 10000) ∧ (r, f1) = sX8_worstLoss x0 x1 f L))) 0 0 (sgA 52 h sz) := by
  refine sg_ofWi (cc := cX8_worstLoss) (maxL := 5) RX8 (by decide) rfl rfl (Nat.le_of_ble_eq_true rfl) ?_
  intro p e s m below meth cd Qz ls hx hb hml hown hts hK hZ hP hS hl hret
  have hA := sgY.self (n := 52) (h := h) (sz := s.heap.size)
  have hl : lv_has ls 5 [(0, .ref (h 17)), (1, .int x0), (2, .int x1)] := hl
  obtain ⟨H, hH⟩ : ∃ z : Heap, z = s.heap := ⟨_, rfl⟩
  obtain ⟨locs, hlo⟩ : ∃ z : List Loc, z = [] := ⟨_, rfl⟩
  have hP : va_P D vwCl (sgw 52 h (eX ca h) f L Q) H := by rw [hH]; exact hP
  have hS : va_S (sgA 52 h s.heap.size) s.heap H locs := by rw [hH, hlo]; exact hS
  suffices hgo : W p l e ({ frames := 4, cells := 0, slots := 0, locals := 102 }) s m ([.ref (h 17), .int x0, .int x1] : List Value).toArray below meth cd H locs 0 0 Qz (F0 m 0 ls []) by rw [hH, hlo] at hgo; exact hgo
  clear hH hlo
  obtain ⟨sp, hsp⟩ : ∃ z : Int32 × sg_F, z = sX8_worstLoss x0 x1 f L := ⟨_, rfl⟩
  have hs : sp = sX8_worstLoss x0 x1 f L := hsp
  have hF : sgK WkX8_worstLoss f f := sgK.rf
  have loop_5 : ∀ (n_5 : Nat) (y3_5 : Int32) (y4_5 : Int32) (fp_5 : sg_F) (H : Heap) (locs : List Loc) (ls : Array Slot), sp = sX8_worstLoss_l5 x0 x1 n_5 y3_5 y4_5 fp_5 L → 8 - y4_5.toInt < (n_5 : Int) → 0 ≤ y3_5.toInt ∧ y3_5.toInt ≤ 10000 → 0 ≤ y4_5.toInt ∧ y4_5.toInt ≤ 8 → sgI loX hiX fp_5 → sgK WkX8_worstLoss f fp_5 → va_P D vwCl (sgw 52 h (eX ca h) fp_5 L Q) H → va_S (sgA 52 h s.heap.size) s.heap H locs → lv_has ls 5 [(0, .ref (h 17)), (1, .int x0), (2, .int x1), (3, .int y3_5), (4, .int y4_5)] → W p l e ({ frames := 4, cells := 0, slots := 0, locals := 102 }) s m ([.ref (h 17), .int x0, .int x1] : List Value).toArray below meth cd H locs 0 0 Qz (F0 m 5 ls []) := by
    intro n_5
    induction n_5 with
    | zero => intro y3_5 y4_5 fp_5 H locs ls hs hm_5 hy0_5 hy1_5 hI hF hP hS hl; exact absurd hm_5 (by omega)
    | succ n_5 ih_5 =>
      have blk_41 : ∀ (y3_41 : Int32) (y4_41 : Int32) (fp_41 : sg_F) (H : Heap) (locs : List Loc) (ls : Array Slot), sp = sX8_worstLoss_b41 (sX8_worstLoss_l5 x0 x1 n_5) x0 x1 y3_41 y4_41 fp_41 L → 8 - y4_41.toInt < ((n_5 + 1 : Nat) : Int) → 0 ≤ y3_41.toInt ∧ y3_41.toInt ≤ 10000 → 0 ≤ y4_41.toInt ∧ y4_41.toInt ≤ 7 → sgI loX hiX fp_41 → sgK WkX8_worstLoss f fp_41 → va_P D vwCl (sgw 52 h (eX ca h) fp_41 L Q) H → va_S (sgA 52 h s.heap.size) s.heap H locs → lv_has ls 5 [(0, .ref (h 17)), (1, .int x0), (2, .int x1), (3, .int y3_41), (4, .int y4_41)] → W p l e ({ frames := 4, cells := 0, slots := 0, locals := 102 }) s m ([.ref (h 17), .int x0, .int x1] : List Value).toArray below meth cd H locs 0 0 Qz (F0 m 41 ls []) := by
        intro y3_41 y4_41 fp_41 H locs ls hs hm_5 hy0_41 hy1_41 hI hF hP hS hl
        obtain ⟨v_1, ev_1⟩ : ∃ z : Int32, z = y4_41 + 1 := ⟨_, rfl⟩
        have q_2 : v_1.toInt = y4_41.toInt + 1 := by rw [ev_1]; exact (bn_addc y4_41 1 (by decide) (by omega) (by omega))
        refine lv_iinc (v := v_1) (lv' := [(4, .int v_1), (0, .ref (h 17)), (1, .int x0), (2, .int x1), (3, .int y3_41)]) hx hb dX8_worstLoss_41 hl (k := 4) rfl (by rw [ev_1]; rfl) (by decide) rfl (fun ls hl => ?_)
        refine lv_goto (tgt := 5) hx hb dX8_worstLoss_44 (by decide) ?_
        exact ih_5 y3_41 v_1 fp_41 _ _ _ (hs.trans ((spl_e ev_1 rfl))) (by omega) hy0_41 ⟨by omega, by omega⟩ hI hF hP hS (lv_sub hl [1, 2, 3, 4, 0] rfl)
      intro y3_5 y4_5 fp_5 H locs ls hs hm_5 hy0_5 hy1_5 hI hF hP hS hl
      have hs : sp = sX8_worstLoss_h5 x0 x1 (sX8_worstLoss_l5 x0 x1 n_5) y3_5 y4_5 fp_5 L := hs
      refine lv_iload hx hb dX8_worstLoss_5 (lv_at hl 4 rfl) ?_
      refine lv_bipush (v := 8) hx hb dX8_worstLoss_7 bp_8 ?_
      refine lv_icmp_ge (tgt := 47) hx hb dX8_worstLoss_9 (by decide) (fun c => ?_) (fun c => ?_)
      · skip
        have c_3 : 8 ≤ y4_5.toInt := (by first | exact (cm_le0 ti_8 c) | (have z := bn_le c; have k1 : (8 : Int32).toInt = 8 := ti_8; omega))
        refine lv_iload_n hx hb dX8_worstLoss_47 rfl (lv_at hl 3 rfl) ?_
        exact hret _ _ _ _ (y3_5) fp_5 L Q dX8_worstLoss_48 hP hS ⟨⟨hI, hF, rfl, rfl⟩, ⟨by omega, by omega⟩, (Eq.trans (Eq.symm (hs.trans (((if_neg (Int.not_lt.mpr c_3)).trans rfl)))) hsp)⟩
      · skip
        have c_4 : y4_5.toInt < 8 := (by first | exact (cm_nle0 ti_8 c) | (have z := bn_nle c; have k1 : (8 : Int32).toInt = 8 := ti_8; omega))
        refine lv_aload_n hx hb dX8_worstLoss_12 rfl (lv_at hl 0 rfl) ?_
        refine sl_gX_17_1_8 hx hb hts hown hK hP dX8_worstLoss_13 ?_
        refine sl_gX_10_1_8 hx hb hts hown hK hP dX8_worstLoss_16 ?_
        refine lv_iload hx hb dX8_worstLoss_19 (lv_at hl 4 rfl) ?_
        refine sg_iald hx hb hK hP 12 (by decide) 0 rfl rfl (i := y4_5) (vp_in_iff.mpr ⟨by omega, by omega⟩) dX8_worstLoss_21 ?_
        refine lv_topi (fun v_5 ev_5 => ?_)
        replace hs := hs.trans ((if_pos c_4).trans (spl_e ev_5 rfl))
        refine lv_if_le (tgt := 41) hx hb dX8_worstLoss_22 (by decide) (fun c => ?_) (fun c => ?_)
        · skip
          have c_6 : v_5.toInt ≤ 0 := (by first | exact (cm_le1 ti_0 c) | (have z := bn_le c; have k1 : (0 : Int32).toInt = 0 := ti_0; omega))
          exact blk_41 y3_5 y4_5 fp_5 _ _ _ (hs.trans ((if_neg (Int.not_lt.mpr c_6)).trans rfl)) (by omega) hy0_5 ⟨by omega, by omega⟩ hI hF hP hS (lv_sub hl [0, 1, 2, 3, 4] rfl)
        · skip
          have c_7 : 0 < v_5.toInt := (by first | exact (cm_nle1 ti_0 c) | (have z := bn_nle c; have k1 : (0 : Int32).toInt = 0 := ti_0; omega))
          refine lv_iload_n hx hb dX8_worstLoss_25 rfl (lv_at hl 3 rfl) ?_
          refine lv_aload_n hx hb dX8_worstLoss_26 rfl (lv_at hl 0 rfl) ?_
          refine sl_gX_17_0_8 hx hb hts hown hK hP dX8_worstLoss_27 ?_
          refine lv_iload hx hb dX8_worstLoss_30 (lv_at hl 4 rfl) ?_
          refine lv_iload_n hx hb dX8_worstLoss_32 rfl (lv_at hl 1 rfl) ?_
          refine lv_iload_n hx hb dX8_worstLoss_33 rfl (lv_at hl 2 rfl) ?_
          refine sg_calli (va_runV (As := [.int y4_5, .int x0, .int x1]) (rest := [.int y3_5]) ⟨hx, hb, hml, hown, hts⟩ (kX0_lossAt l D ca za h hh fp_5 L Q hI y4_5 x0 x1 ⟨by omega, by omega⟩ b0 b1 H.size) (sl_c0_lossAt_3_0_0_74_8 hts ⟨Nat.le_of_ble_eq_true rfl, Nat.le_of_ble_eq_true rfl⟩) (sl_vX_1 hA hK hP hS hZ) rfl rfl hl.1 rfl (lv_room (Nat.le_of_ble_eq_true rfl)) dX8_worstLoss_34 ⟨Nat.le_refl _, Nat.le_refl _⟩) hA hS (fun r_11 f_8 L_9 Q_10 H locs hq hP hS => ?_)
          obtain ⟨⟨hI, hk_f_8, eL9, eQ9⟩, hq, u_12⟩ := hq
          rw [eL9, eQ9] at hP; clear eL9 eQ9
          have hF : sgK WkX8_worstLoss f f_8 := sgK.tr hF hk_f_8 (by decide +kernel)
          refine va_mmax hx hb (hml.trans hl.1.symm) hown (hts _ (List.mem_cons_of_mem _ mw_380)) (hts _ (List.mem_cons_of_mem _ mw_82)) (hts _ (List.mem_cons_of_mem _ mw_11)) (hts _ (List.mem_cons_of_mem _ mw_83)) (Nat.le_of_ble_eq_true rfl) (Nat.le_of_ble_eq_true rfl) (Nat.le_refl _) (Nat.le_refl _) dX8_worstLoss_37 ?_
          refine lv_topi (fun v_13 ev_13 => ?_)
          have q_14 : (y3_5.toInt < r_11.toInt ∧ v_13.toInt = r_11.toInt) ∨ (r_11.toInt ≤ y3_5.toInt ∧ v_13.toInt = y3_5.toInt) := by have z := bn_maxI y3_5 r_11; rw [← ev_13] at z; omega
          refine lv_istore_n (lv' := [(3, .int v_13), (0, .ref (h 17)), (1, .int x0), (2, .int x1), (4, .int y4_5)]) hx hb dX8_worstLoss_40 rfl hl (by decide) rfl (fun ls hl => ?_)
          exact blk_41 v_13 y4_5 f_8 _ _ _ (hs.trans ((if_pos c_7).trans (spl2_e u_12 (spl_e ev_13 rfl)))) (by omega) ⟨by omega, by omega⟩ ⟨by omega, by omega⟩ hI hF hP hS (lv_sub hl [1, 2, 3, 0, 4] rfl)
  refine lv_iconst (v := 0) hx hb dX8_worstLoss_0 ic_0 ?_
  refine lv_istore_n (lv' := [(3, .int 0), (0, .ref (h 17)), (1, .int x0), (2, .int x1)]) hx hb dX8_worstLoss_1 rfl hl (by decide) rfl (fun ls hl => ?_)
  refine lv_iconst (v := 0) hx hb dX8_worstLoss_2 ic_0 ?_
  refine lv_istore (lv' := [(4, .int 0), (3, .int 0), (0, .ref (h 17)), (1, .int x0), (2, .int x1)]) hx hb dX8_worstLoss_3 hl (by decide) rfl (fun ls hl => ?_)
  exact loop_5 9 0 0 f _ _ _ hs (by have kc0 : (0 : Int32).toInt = 0 := ti_0; have kc1 : (0 : Int32).toInt = 0 := ti_0; omega) (by decide) (by decide) hI hF hP hS (lv_sub hl [2, 3, 4, 1, 0] rfl)

abbrev WkX8_bestOf : List (Nat × Nat × Option Nat) := [(8, 8, none), (9, 9, none)]
set_option maxHeartbeats 4000000 in
set_option maxRecDepth 100000 in
theorem kX8_bestOf (l : Launch) (D : va_G) (ca : Nat → ClassId) (za h : Nat → Nat) (hh : sgH 52 h) (f : sg_F) (L : sg_L) (Q : sg_Q) (hI : sgI loX hiX f) (x0 : Int32) (x1 : Int32) (b0 : 0 ≤ x0.toInt ∧ x0.toInt ≤ 2) (b1 : 0 ≤ x1.toInt ∧ x1.toInt ≤ 3) (sz : Nat) : Met l yX8_bestOf gwX8_bestOf { frames := 5, cells := 0, slots := 0, locals := 126 } (sgP D vwCl (tyX ca) 52 h (eX ca h) zcX za f L Q sz [.ref (h 17), .int x0, .int x1]) (sgQi D vwCl 52 h (eX ca h) sz (fun r f1 L1 Q1 => ((sgI loX hiX f1 ∧ sgK WkX8_bestOf f f1 ∧ L1 = L ∧ Q1 = Q) ∧ True ∧ (r, f1) = sX8_bestOf x0 x1 f L))) 0 0 (sgA 52 h sz) := by
  refine sg_ofWi (cc := cX8_bestOf) (maxL := 7) RX8 (by decide) rfl rfl (Nat.le_of_ble_eq_true rfl) ?_
  intro p e s m below meth cd Qz ls hx hb hml hown hts hK hZ hP hS hl hret
  have hA := sgY.self (n := 52) (h := h) (sz := s.heap.size)
  have hl : lv_has ls 7 [(0, .ref (h 17)), (1, .int x0), (2, .int x1)] := hl
  obtain ⟨H, hH⟩ : ∃ z : Heap, z = s.heap := ⟨_, rfl⟩
  obtain ⟨locs, hlo⟩ : ∃ z : List Loc, z = [] := ⟨_, rfl⟩
  have hP : va_P D vwCl (sgw 52 h (eX ca h) f L Q) H := by rw [hH]; exact hP
  have hS : va_S (sgA 52 h s.heap.size) s.heap H locs := by rw [hH, hlo]; exact hS
  suffices hgo : W p l e ({ frames := 5, cells := 0, slots := 0, locals := 126 }) s m ([.ref (h 17), .int x0, .int x1] : List Value).toArray below meth cd H locs 0 0 Qz (F0 m 0 ls []) by rw [hH, hlo] at hgo; exact hgo
  clear hH hlo
  obtain ⟨sp, hsp⟩ : ∃ z : Int32 × sg_F, z = sX8_bestOf x0 x1 f L := ⟨_, rfl⟩
  have hs : sp = sX8_bestOf x0 x1 f L := hsp
  have hF : sgK WkX8_bestOf f f := sgK.rf
  have loop_8 : ∀ (n_8 : Nat) (y3_8 : Int32) (y4_8 : Int32) (y5_8 : Int32) (fp_8 : sg_F) (H : Heap) (locs : List Loc) (ls : Array Slot), sp = sX8_bestOf_l8 x0 x1 n_8 y3_8 y4_8 y5_8 fp_8 L → 61 - y5_8.toInt < (n_8 : Int) → 0 ≤ y3_8.toInt ∧ y3_8.toInt ≤ 60 → 0 ≤ y5_8.toInt ∧ y5_8.toInt ≤ 61 → sgI loX hiX fp_8 → sgK WkX8_bestOf f fp_8 → va_P D vwCl (sgw 52 h (eX ca h) fp_8 L Q) H → va_S (sgA 52 h s.heap.size) s.heap H locs → lv_has ls 7 [(0, .ref (h 17)), (1, .int x0), (2, .int x1), (3, .int y3_8), (4, .int y4_8), (5, .int y5_8)] → W p l e ({ frames := 5, cells := 0, slots := 0, locals := 126 }) s m ([.ref (h 17), .int x0, .int x1] : List Value).toArray below meth cd H locs 0 0 Qz (F0 m 8 ls []) := by
    intro n_8
    induction n_8 with
    | zero => intro y3_8 y4_8 y5_8 fp_8 H locs ls hs hm_8 hy0_8 hy1_8 hI hF hP hS hl; exact absurd hm_8 (by omega)
    | succ n_8 ih_8 =>
      have blk_58 : ∀ (y3_58 : Int32) (y4_58 : Int32) (y5_58 : Int32) (fp_58 : sg_F) (H : Heap) (locs : List Loc) (ls : Array Slot), sp = sX8_bestOf_b58 (sX8_bestOf_l8 x0 x1 n_8) x0 x1 y3_58 y4_58 y5_58 fp_58 L → 61 - y5_58.toInt < ((n_8 + 1 : Nat) : Int) → 0 ≤ y3_58.toInt ∧ y3_58.toInt ≤ 60 → 0 ≤ y5_58.toInt ∧ y5_58.toInt ≤ 60 → sgI loX hiX fp_58 → sgK WkX8_bestOf f fp_58 → va_P D vwCl (sgw 52 h (eX ca h) fp_58 L Q) H → va_S (sgA 52 h s.heap.size) s.heap H locs → lv_has ls 7 [(0, .ref (h 17)), (1, .int x0), (2, .int x1), (3, .int y3_58), (4, .int y4_58), (5, .int y5_58)] → W p l e ({ frames := 5, cells := 0, slots := 0, locals := 126 }) s m ([.ref (h 17), .int x0, .int x1] : List Value).toArray below meth cd H locs 0 0 Qz (F0 m 58 ls []) := by
        intro y3_58 y4_58 y5_58 fp_58 H locs ls hs hm_8 hy0_58 hy1_58 hI hF hP hS hl
        obtain ⟨v_1, ev_1⟩ : ∃ z : Int32, z = y5_58 + 1 := ⟨_, rfl⟩
        have q_2 : v_1.toInt = y5_58.toInt + 1 := by rw [ev_1]; exact (bn_addc y5_58 1 (by decide) (by omega) (by omega))
        refine lv_iinc (v := v_1) (lv' := [(5, .int v_1), (0, .ref (h 17)), (1, .int x0), (2, .int x1), (3, .int y3_58), (4, .int y4_58)]) hx hb dX8_bestOf_58 hl (k := 5) rfl (by rw [ev_1]; rfl) (by decide) rfl (fun ls hl => ?_)
        refine lv_goto (tgt := 8) hx hb dX8_bestOf_61 (by decide) ?_
        exact ih_8 y3_58 y4_58 v_1 fp_58 _ _ _ (hs.trans ((spl_e ev_1 rfl))) (by omega) hy0_58 ⟨by omega, by omega⟩ hI hF hP hS (lv_sub hl [1, 2, 3, 4, 5, 0] rfl)
      have blk_51 : ∀ (y5_51 : Int32) (y6_51 : Int32) (fp_51 : sg_F) (H : Heap) (locs : List Loc) (ls : Array Slot), sp = sX8_bestOf_b51 (sX8_bestOf_l8 x0 x1 n_8) x0 x1 y5_51 y6_51 fp_51 L → 61 - y5_51.toInt < ((n_8 + 1 : Nat) : Int) → 0 ≤ y5_51.toInt ∧ y5_51.toInt ≤ 60 → sgI loX hiX fp_51 → sgK WkX8_bestOf f fp_51 → va_P D vwCl (sgw 52 h (eX ca h) fp_51 L Q) H → va_S (sgA 52 h s.heap.size) s.heap H locs → lv_has ls 7 [(0, .ref (h 17)), (1, .int x0), (2, .int x1), (5, .int y5_51), (6, .int y6_51)] → W p l e ({ frames := 5, cells := 0, slots := 0, locals := 126 }) s m ([.ref (h 17), .int x0, .int x1] : List Value).toArray below meth cd H locs 0 0 Qz (F0 m 51 ls []) := by
        intro y5_51 y6_51 fp_51 H locs ls hs hm_8 hy0_51 hI hF hP hS hl
        refine lv_iload hx hb dX8_bestOf_51 (lv_at hl 3 rfl) ?_
        refine lv_istore_n (lv' := [(3, .int y5_51), (0, .ref (h 17)), (1, .int x0), (2, .int x1), (5, .int y5_51), (6, .int y6_51)]) hx hb dX8_bestOf_53 rfl hl (by decide) rfl (fun ls hl => ?_)
        refine lv_iload hx hb dX8_bestOf_54 (lv_at hl 5 rfl) ?_
        refine lv_istore (lv' := [(4, .int y6_51), (3, .int y5_51), (0, .ref (h 17)), (1, .int x0), (2, .int x1), (5, .int y5_51), (6, .int y6_51)]) hx hb dX8_bestOf_56 hl (by decide) rfl (fun ls hl => ?_)
        exact blk_58 y5_51 y6_51 y5_51 fp_51 _ _ _ hs hm_8 hy0_51 hy0_51 hI hF hP hS (lv_sub hl [2, 3, 4, 1, 0, 5] rfl)
      intro y3_8 y4_8 y5_8 fp_8 H locs ls hs hm_8 hy0_8 hy1_8 hI hF hP hS hl
      have hs : sp = sX8_bestOf_h8 x0 x1 (sX8_bestOf_l8 x0 x1 n_8) y3_8 y4_8 y5_8 fp_8 L := hs
      refine lv_iload hx hb dX8_bestOf_8 (lv_at hl 5 rfl) ?_
      refine lv_bipush (v := 60) hx hb dX8_bestOf_10 bp_60 ?_
      refine lv_icmp_gt (tgt := 64) hx hb dX8_bestOf_12 (by decide) (fun c => ?_) (fun c => ?_)
      · skip
        have c_3 : 60 < y5_8.toInt := (by first | exact (cm_lt0 ti_60 c) | (have z := bn_lt c; have k1 : (60 : Int32).toInt = 60 := ti_60; omega))
        refine lv_iload_n hx hb dX8_bestOf_64 rfl (lv_at hl 2 rfl) ?_
        refine lv_iconst (v := 2) hx hb dX8_bestOf_65 ic_2 ?_
        refine lv_irem hx hb dX8_bestOf_66 (by decide) ?_
        refine lv_topi (fun v_5 ev_5 => ?_)
        replace hs := hs.trans ((if_pos c_3).trans (spl_e ev_5 rfl))
        have q_6 : v_5.toInt = x1.toInt % 2 := by rw [ev_5]; exact bn_remI (by omega) (by decide) (by decide)
        refine lv_if_ne (tgt := 74) hx hb dX8_bestOf_67 (by decide) (fun c => ?_) (fun c => ?_)
        · skip
          have c_7 : v_5.toInt ≠ 0 := (by first | exact (cm_ne1 ti_0 c) | (have z := bn_ne c; have k1 : (0 : Int32).toInt = 0 := ti_0; omega))
          refine lv_iload hx hb dX8_bestOf_74 (lv_at hl 4 rfl) ?_
          exact hret _ _ _ _ (y4_8) fp_8 L Q dX8_bestOf_76 hP hS ⟨⟨hI, hF, rfl, rfl⟩, trivial, (Eq.trans (Eq.symm (hs.trans ((if_neg c_7).trans rfl))) hsp)⟩
        · skip
          have c_8 : v_5.toInt = 0 := (by first | exact (cm_eq1 ti_0 c) | (have z := Int32.toInt_inj.mpr c; have k1 : (0 : Int32).toInt = 0 := ti_0; omega))
          refine lv_iload_n hx hb dX8_bestOf_70 rfl (lv_at hl 3 rfl) ?_
          refine lv_goto (tgt := 76) hx hb dX8_bestOf_71 (by decide) ?_
          exact hret _ _ _ _ (y3_8) fp_8 L Q dX8_bestOf_76 hP hS ⟨⟨hI, hF, rfl, rfl⟩, trivial, (Eq.trans (Eq.symm (hs.trans ((if_pos c_8).trans rfl))) hsp)⟩
      · skip
        have c_4 : y5_8.toInt ≤ 60 := (by first | exact (cm_nlt0 ti_60 c) | (have z := bn_nlt c; have k1 : (60 : Int32).toInt = 60 := ti_60; omega))
        replace hs := hs.trans ((if_neg (Int.not_lt.mpr c_4)).trans rfl)
        refine lv_iload_n hx hb dX8_bestOf_15 rfl (lv_at hl 2 rfl) ?_
        refine lv_iconst (v := 2) hx hb dX8_bestOf_16 ic_2 ?_
        refine lv_icmp_ge (tgt := 30) hx hb dX8_bestOf_17 (by decide) (fun c => ?_) (fun c => ?_)
        · skip
          have c_9 : 2 ≤ x1.toInt := (by first | exact (cm_le0 ti_2 c) | (have z := bn_le c; have k1 : (2 : Int32).toInt = 2 := ti_2; omega))
          refine lv_aload_n hx hb dX8_bestOf_30 rfl (lv_at hl 0 rfl) ?_
          refine lv_iload_n hx hb dX8_bestOf_31 rfl (lv_at hl 1 rfl) ?_
          refine lv_iload hx hb dX8_bestOf_32 (lv_at hl 5 rfl) ?_
          refine sg_calli (va_runV (As := [.int x0, .int y5_8]) (rest := []) ⟨hx, hb, hml, hown, hts⟩ (kX8_worstLoss l D ca za h hh fp_8 L Q hI x0 y5_8 b0 ⟨by omega, by omega⟩ H.size) (sl_c8_worstLoss_4_0_0_102_8 hts ⟨Nat.le_of_ble_eq_true rfl, Nat.le_of_ble_eq_true rfl⟩) (sl_vX_17 hA hK hP hS hZ) rfl rfl hl.1 rfl (lv_room (Nat.le_of_ble_eq_true rfl)) dX8_bestOf_34 ⟨Nat.le_refl _, Nat.le_refl _⟩) hA hS (fun r_14 f_11 L_12 Q_13 H locs hq hP hS => ?_)
          obtain ⟨⟨hI, hk_f_11, eL9, eQ9⟩, hq, u_15⟩ := hq
          replace hs := hs.trans ((if_neg (Int.not_lt.mpr c_9)).trans (spl2_e u_15 rfl))
          rw [eL9, eQ9] at hP; clear eL9 eQ9
          have hF : sgK WkX8_bestOf f f_11 := sgK.tr hF hk_f_11 (by decide +kernel)
          refine lv_istore (lv' := [(6, .int r_14), (0, .ref (h 17)), (1, .int x0), (2, .int x1), (3, .int y3_8), (4, .int y4_8), (5, .int y5_8)]) hx hb dX8_bestOf_37 hl (by decide) rfl (fun ls hl => ?_)
          refine lv_iload hx hb dX8_bestOf_39 (lv_at hl 6 rfl) ?_
          refine lv_if_eq (tgt := 51) hx hb dX8_bestOf_41 (by decide) (fun c => ?_) (fun c => ?_)
          · skip
            have c_16 : y5_8.toInt = 0 := (by first | exact (cm_eq1 ti_0 c) | (have z := Int32.toInt_inj.mpr c; have k1 : (0 : Int32).toInt = 0 := ti_0; omega))
            exact blk_51 y5_8 r_14 f_11 _ _ _ (hs.trans ((if_pos c_16).trans rfl)) (by omega) ⟨by omega, by omega⟩ hI hF hP hS (lv_sub hl [1, 2, 3, 6, 0] rfl)
          · skip
            have c_17 : y5_8.toInt ≠ 0 := (by first | exact (cm_ne1 ti_0 c) | (have z := bn_ne c; have k1 : (0 : Int32).toInt = 0 := ti_0; omega))
            replace hs := hs.trans ((if_neg c_17).trans rfl)
            refine lv_iload hx hb dX8_bestOf_44 (lv_at hl 0 rfl) ?_
            refine lv_iload hx hb dX8_bestOf_46 (lv_at hl 5 rfl) ?_
            refine lv_icmp_ge (tgt := 58) hx hb dX8_bestOf_48 (by decide) (fun c => ?_) (fun c => ?_)
            · skip
              have c_18 : y4_8.toInt ≤ r_14.toInt := (by first | exact (bn_le c) | (have z := bn_le c; omega))
              exact blk_58 y3_8 y4_8 y5_8 f_11 _ _ _ (hs.trans ((if_neg (Int.not_lt.mpr c_18)).trans rfl)) (by omega) hy0_8 ⟨by omega, by omega⟩ hI hF hP hS (lv_sub hl [1, 2, 3, 4, 5, 6] rfl)
            · skip
              have c_19 : r_14.toInt < y4_8.toInt := (by first | exact (bn_nle c) | (have z := bn_nle c; omega))
              exact blk_51 y5_8 r_14 f_11 _ _ _ (hs.trans ((if_pos c_19).trans rfl)) (by omega) ⟨by omega, by omega⟩ hI hF hP hS (lv_sub hl [1, 2, 3, 6, 0] rfl)
        · skip
          have c_10 : x1.toInt < 2 := (by first | exact (cm_nle0 ti_2 c) | (have z := bn_nle c; have k1 : (2 : Int32).toInt = 2 := ti_2; omega))
          refine lv_aload_n hx hb dX8_bestOf_20 rfl (lv_at hl 0 rfl) ?_
          refine lv_iload_n hx hb dX8_bestOf_21 rfl (lv_at hl 1 rfl) ?_
          refine lv_iload hx hb dX8_bestOf_22 (lv_at hl 5 rfl) ?_
          refine sg_calli (va_runV (As := [.int x0, .int y5_8]) (rest := []) ⟨hx, hb, hml, hown, hts⟩ (kX8_allLosses l D ca za h hh fp_8 L Q hI x0 y5_8 b0 ⟨by omega, by omega⟩ H.size) (sl_c8_allLosses_4_0_0_102_8 hts ⟨Nat.le_of_ble_eq_true rfl, Nat.le_of_ble_eq_true rfl⟩) (sl_vX_17 hA hK hP hS hZ) rfl rfl hl.1 rfl (lv_room (Nat.le_of_ble_eq_true rfl)) dX8_bestOf_24 ⟨Nat.le_refl _, Nat.le_refl _⟩) hA hS (fun r_23 f_20 L_21 Q_22 H locs hq hP hS => ?_)
          obtain ⟨⟨hI, hk_f_20, eL9, eQ9⟩, hq, u_24⟩ := hq
          replace hs := hs.trans ((if_pos c_10).trans (spl2_e u_24 rfl))
          rw [eL9, eQ9] at hP; clear eL9 eQ9
          have hF : sgK WkX8_bestOf f f_20 := sgK.tr hF hk_f_20 (by decide +kernel)
          refine lv_goto (tgt := 37) hx hb dX8_bestOf_27 (by decide) ?_
          refine lv_istore (lv' := [(6, .int r_23), (0, .ref (h 17)), (1, .int x0), (2, .int x1), (3, .int y3_8), (4, .int y4_8), (5, .int y5_8)]) hx hb dX8_bestOf_37 hl (by decide) rfl (fun ls hl => ?_)
          refine lv_iload hx hb dX8_bestOf_39 (lv_at hl 6 rfl) ?_
          refine lv_if_eq (tgt := 51) hx hb dX8_bestOf_41 (by decide) (fun c => ?_) (fun c => ?_)
          · skip
            have c_25 : y5_8.toInt = 0 := (by first | exact (cm_eq1 ti_0 c) | (have z := Int32.toInt_inj.mpr c; have k1 : (0 : Int32).toInt = 0 := ti_0; omega))
            exact blk_51 y5_8 r_23 f_20 _ _ _ (hs.trans ((if_pos c_25).trans rfl)) (by omega) ⟨by omega, by omega⟩ hI hF hP hS (lv_sub hl [1, 2, 3, 6, 0] rfl)
          · skip
            have c_26 : y5_8.toInt ≠ 0 := (by first | exact (cm_ne1 ti_0 c) | (have z := bn_ne c; have k1 : (0 : Int32).toInt = 0 := ti_0; omega))
            replace hs := hs.trans ((if_neg c_26).trans rfl)
            refine lv_iload hx hb dX8_bestOf_44 (lv_at hl 0 rfl) ?_
            refine lv_iload hx hb dX8_bestOf_46 (lv_at hl 5 rfl) ?_
            refine lv_icmp_ge (tgt := 58) hx hb dX8_bestOf_48 (by decide) (fun c => ?_) (fun c => ?_)
            · skip
              have c_27 : y4_8.toInt ≤ r_23.toInt := (by first | exact (bn_le c) | (have z := bn_le c; omega))
              exact blk_58 y3_8 y4_8 y5_8 f_20 _ _ _ (hs.trans ((if_neg (Int.not_lt.mpr c_27)).trans rfl)) (by omega) hy0_8 ⟨by omega, by omega⟩ hI hF hP hS (lv_sub hl [1, 2, 3, 4, 5, 6] rfl)
            · skip
              have c_28 : r_23.toInt < y4_8.toInt := (by first | exact (bn_nle c) | (have z := bn_nle c; omega))
              exact blk_51 y5_8 r_23 f_20 _ _ _ (hs.trans ((if_pos c_28).trans rfl)) (by omega) ⟨by omega, by omega⟩ hI hF hP hS (lv_sub hl [1, 2, 3, 6, 0] rfl)
  refine lv_iconst (v := 0) hx hb dX8_bestOf_0 ic_0 ?_
  refine lv_istore_n (lv' := [(3, .int 0), (0, .ref (h 17)), (1, .int x0), (2, .int x1)]) hx hb dX8_bestOf_1 rfl hl (by decide) rfl (fun ls hl => ?_)
  refine lv_iconst (v := 0) hx hb dX8_bestOf_2 ic_0 ?_
  refine lv_istore (lv' := [(4, .int 0), (3, .int 0), (0, .ref (h 17)), (1, .int x0), (2, .int x1)]) hx hb dX8_bestOf_3 hl (by decide) rfl (fun ls hl => ?_)
  refine lv_iconst (v := 0) hx hb dX8_bestOf_5 ic_0 ?_
  refine lv_istore (lv' := [(5, .int 0), (4, .int 0), (3, .int 0), (0, .ref (h 17)), (1, .int x0), (2, .int x1)]) hx hb dX8_bestOf_6 hl (by decide) rfl (fun ls hl => ?_)
  exact loop_8 62 0 0 0 f _ _ _ hs (by have kc0 : (0 : Int32).toInt = 0 := ti_0; have kc1 : (0 : Int32).toInt = 0 := ti_0; have kc2 : (0 : Int32).toInt = 0 := ti_0; omega) (by decide) (by decide) hI hF hP hS (lv_sub hl [3, 4, 5, 2, 1, 0] rfl)

abbrev WkX11_best : List (Nat × Nat × Option Nat) := [(8, 8, none), (9, 9, none), (10, 10, some 2), (10, 10, some 3), (11, 11, none), (12, 12, none)]
set_option maxHeartbeats 4000000 in
set_option maxRecDepth 100000 in
theorem kX11_best (l : Launch) (D : va_G) (ca : Nat → ClassId) (za h : Nat → Nat) (hh : sgH 52 h) (f : sg_F) (L : sg_L) (Q : sg_Q) (hI : sgI loX hiX f) (x0 : Int32) (x1 : Int32) (x2 : Int32) (sz : Nat) : Met l yX11_best gwX11_best { frames := 6, cells := 0, slots := 0, locals := 152 } (sgP D vwCl (tyX ca) 52 h (eX ca h) zcX za f L Q sz [.ref (h 0), .int x0, .int x1, .int x2]) (sgQi D vwCl 52 h (eX ca h) sz (fun r f1 L1 Q1 => ((sgI loX hiX f1 ∧ sgK WkX11_best f f1 ∧ L1 = L ∧ Q1 = Q) ∧ True ∧ (r, f1) = sX11_best x0 x1 x2 f L))) 0 0 (sgA 52 h sz) := by
  refine sg_ofWi (cc := cX11_best) (maxL := 5) RX11 (by decide) rfl rfl (Nat.le_of_ble_eq_true rfl) ?_
  intro p e s m below meth cd Qz ls hx hb hml hown hts hK hZ hP hS hl hret
  have hA := sgY.self (n := 52) (h := h) (sz := s.heap.size)
  have hl : lv_has ls 5 [(0, .ref (h 0)), (1, .int x0), (2, .int x1), (3, .int x2)] := hl
  obtain ⟨H, hH⟩ : ∃ z : Heap, z = s.heap := ⟨_, rfl⟩
  obtain ⟨locs, hlo⟩ : ∃ z : List Loc, z = [] := ⟨_, rfl⟩
  have hP : va_P D vwCl (sgw 52 h (eX ca h) f L Q) H := by rw [hH]; exact hP
  have hS : va_S (sgA 52 h s.heap.size) s.heap H locs := by rw [hH, hlo]; exact hS
  suffices hgo : W p l e ({ frames := 6, cells := 0, slots := 0, locals := 152 }) s m ([.ref (h 0), .int x0, .int x1, .int x2] : List Value).toArray below meth cd H locs 0 0 Qz (F0 m 0 ls []) by rw [hH, hlo] at hgo; exact hgo
  clear hH hlo
  obtain ⟨sp, hsp⟩ : ∃ z : Int32 × sg_F, z = sX11_best x0 x1 x2 f L := ⟨_, rfl⟩
  have hs : sp = sX11_best x0 x1 x2 f L := hsp
  have hF : sgK WkX11_best f f := sgK.rf
  refine lv_iload_n hx hb dX11_best_0 rfl (lv_at hl 1 rfl) ?_
  refine sg_calli (va_runS (As := [.int x0]) (rest := []) ⟨hx, hb, hml, hown, hts⟩ (kX11_isShelf l D ca za h hh f L Q hI x0 H.size) (va_cwS 1 hts (gw_S (fun _ h => List.mem_cons_of_mem _ h) mw_35 mw_36 mw_37 mw_34) rfl rfl rfl hd_yX11_isShelf.2 ⟨Nat.le_of_ble_eq_true rfl, Nat.le_of_ble_eq_true rfl⟩) (sg_preS hA hK hP hS hZ) rfl rfl hl.1 rfl (lv_room (Nat.le_of_ble_eq_true rfl)) dX11_best_1 ⟨Nat.le_refl _, Nat.le_refl _⟩) hA hS (fun r_4 f_1 L_2 Q_3 H locs hq hP hS => ?_)
  obtain ⟨⟨ef9, eL9, eQ9⟩, hq, u_5⟩ := hq
  replace hs := hs.trans (spl_e u_5 rfl)
  rw [ef9, eL9, eQ9] at hP; clear ef9 eL9 eQ9
  rcases hq with ⟨rfl, hq⟩ | ⟨rfl, hq⟩
  · skip
    have hc_6 := hq
    refine lv_if_eq (tgt := 23) hx hb dX11_best_4 (by decide) (fun c => absurd c (by decide)) (fun c => ?_)
    refine lv_iload_n hx hb dX11_best_7 rfl (lv_at hl 2 rfl) ?_
    refine sg_calli (va_runS (As := [.int x1]) (rest := []) ⟨hx, hb, hml, hown, hts⟩ (kX11_isPart l D ca za h hh f L Q hI x1 H.size) (va_cwS 1 hts (gw_S (fun _ h => List.mem_cons_of_mem _ h) mw_58 mw_59 mw_37 mw_57) rfl rfl rfl hd_yX11_isPart.2 ⟨Nat.le_of_ble_eq_true rfl, Nat.le_of_ble_eq_true rfl⟩) (sg_preS hA hK hP hS hZ) rfl rfl hl.1 rfl (lv_room (Nat.le_of_ble_eq_true rfl)) dX11_best_8 ⟨Nat.le_refl _, Nat.le_refl _⟩) hA hS (fun r_10 f_7 L_8 Q_9 H locs hq hP hS => ?_)
    obtain ⟨⟨ef9, eL9, eQ9⟩, hq, u_11⟩ := hq
    replace hs := hs.trans ((if_pos rfl).trans (spl_e u_11 rfl))
    rw [ef9, eL9, eQ9] at hP; clear ef9 eL9 eQ9
    rcases hq with ⟨rfl, hq⟩ | ⟨rfl, hq⟩
    · skip
      have hc_12 := hq
      refine lv_if_eq (tgt := 23) hx hb dX11_best_11 (by decide) (fun c => absurd c (by decide)) (fun c => ?_)
      refine lv_iload_n hx hb dX11_best_14 rfl (lv_at hl 3 rfl) ?_
      refine lv_if_lt (tgt := 23) hx hb dX11_best_15 (by decide) (fun c => ?_) (fun c => ?_)
      · skip
        have c_13 : x2.toInt < 0 := (by first | exact (cm_lt1 ti_0 c) | (have z := bn_lt c; have k1 : (0 : Int32).toInt = 0 := ti_0; omega))
        refine lv_iconst (v := (-1)) hx hb dX11_best_23 ic_m1 ?_
        have k99 : ((-1) : Int32).toInt = (-1) := ti_m1
        exact hret _ _ _ _ (-1) f L Q dX11_best_24 hP hS ⟨⟨hI, hF, rfl, rfl⟩, trivial, (Eq.trans (Eq.symm (hs.trans ((if_pos rfl).trans ((if_pos c_13).trans rfl)))) hsp)⟩
      · skip
        have c_14 : 0 ≤ x2.toInt := (by first | exact (cm_nlt1 ti_0 c) | (have z := bn_nlt c; have k1 : (0 : Int32).toInt = 0 := ti_0; omega))
        replace hs := hs.trans ((if_pos rfl).trans ((if_neg (Int.not_lt.mpr c_14)).trans rfl))
        refine lv_iload_n hx hb dX11_best_18 rfl (lv_at hl 3 rfl) ?_
        refine lv_iconst (v := 3) hx hb dX11_best_19 ic_3 ?_
        refine lv_icmp_le (tgt := 25) hx hb dX11_best_20 (by decide) (fun c => ?_) (fun c => ?_)
        · skip
          have c_15 : x2.toInt ≤ 3 := (by first | exact (cm_le1 ti_3 c) | (have z := bn_le c; have k1 : (3 : Int32).toInt = 3 := ti_3; omega))
          refine lv_aload_n hx hb dX11_best_25 rfl (lv_at hl 0 rfl) ?_
          refine lv_iload_n hx hb dX11_best_26 rfl (lv_at hl 1 rfl) ?_
          refine sg_calli (va_runV (As := [.int x0]) (rest := []) ⟨hx, hb, hml, hown, hts⟩ (kX11_readWeek l D ca za h hh f L Q hI x0 ⟨by omega, by omega⟩ H.size) (sl_c11_readWeek_2_0_0_45_11 hts ⟨Nat.le_of_ble_eq_true rfl, Nat.le_of_ble_eq_true rfl⟩) (sl_vX_0 hA hK hP hS hZ) rfl rfl hl.1 rfl (lv_room (Nat.le_of_ble_eq_true rfl)) dX11_best_27 ⟨Nat.le_refl _, Nat.le_refl _⟩) hA hS (fun r_20 f_17 L_18 Q_19 H locs hq hP hS => ?_)
          obtain ⟨⟨hI, hk_f_17, eL9, eQ9⟩, hq, u_21⟩ := hq
          replace hs := hs.trans ((if_neg (Int.not_lt.mpr c_15)).trans (spl2_e u_21 rfl))
          rw [eL9, eQ9] at hP; clear eL9 eQ9
          have hF : sgK WkX11_best f f_17 := sgK.tr hF hk_f_17 (by decide +kernel)
          refine lv_istore (lv' := [(4, .int r_20), (0, .ref (h 0)), (1, .int x0), (2, .int x1), (3, .int x2)]) hx hb dX11_best_30 hl (by decide) rfl (fun ls hl => ?_)
          refine lv_iload hx hb dX11_best_32 (lv_at hl 0 rfl) ?_
          refine lv_if_eq (tgt := 40) hx hb dX11_best_34 (by decide) (fun c => ?_) (fun c => ?_)
          · skip
            have c_22 : r_20.toInt = 0 := (by first | exact (cm_eq1 ti_0 c) | (have z := Int32.toInt_inj.mpr c; have k1 : (0 : Int32).toInt = 0 := ti_0; omega))
            refine lv_aload_n hx hb dX11_best_40 rfl (lv_at hl 1 rfl) ?_
            refine sl_gX_0_1_11 hx hb hts hown hK hP dX11_best_41 ?_
            refine sl_gX_10_3_11 (v := (f_17 10 3)) hx hb hts hown hK hP rfl dX11_best_44 ?_
            refine lv_topi (fun v_24 ev_24 => ?_)
            replace hs := hs.trans ((if_pos c_22).trans (spl_e ev_24 rfl))
            refine lv_if_ne (tgt := 55) hx hb dX11_best_47 (by decide) (fun c => ?_) (fun c => ?_)
            · skip
              have c_25 : v_24.toInt ≠ 0 := (by first | exact (cm_ne1 ti_0 c) | (have z := bn_ne c; have k1 : (0 : Int32).toInt = 0 := ti_0; omega))
              refine lv_aload_n hx hb dX11_best_55 rfl (lv_at hl 1 rfl) ?_
              refine sl_gX_0_3_11 hx hb hts hown hK hP dX11_best_56 ?_
              refine lv_iload_n hx hb dX11_best_59 rfl (lv_at hl 3 rfl) ?_
              refine lv_iload_n hx hb dX11_best_60 rfl (lv_at hl 4 rfl) ?_
              refine sg_calli (va_runV (As := [.int x1, .int x2]) (rest := []) ⟨hx, hb, hml, hown, hts⟩ (kX8_bestOf l D ca za h hh f_17 L Q hI x1 x2 ⟨by omega, by omega⟩ ⟨by omega, by omega⟩ H.size) (sl_c8_bestOf_5_0_0_126_11 hts ⟨Nat.le_of_ble_eq_true rfl, Nat.le_of_ble_eq_true rfl⟩) (sl_vX_17 hA hK hP hS hZ) rfl rfl hl.1 rfl (lv_room (Nat.le_of_ble_eq_true rfl)) dX11_best_61 ⟨Nat.le_refl _, Nat.le_refl _⟩) hA hS (fun r_30 f_27 L_28 Q_29 H locs hq hP hS => ?_)
              obtain ⟨⟨hI, hk_f_27, eL9, eQ9⟩, hq, u_31⟩ := hq
              rw [eL9, eQ9] at hP; clear eL9 eQ9
              have hF : sgK WkX11_best f f_27 := sgK.tr hF hk_f_27 (by decide +kernel)
              exact hret _ _ _ _ (r_30) f_27 L Q dX11_best_64 hP hS ⟨⟨hI, hF, rfl, rfl⟩, trivial, (Eq.trans (Eq.symm (hs.trans ((if_neg c_25).trans (spl2_e u_31 rfl)))) hsp)⟩
            · skip
              have c_26 : v_24.toInt = 0 := (by first | exact (cm_eq1 ti_0 c) | (have z := Int32.toInt_inj.mpr c; have k1 : (0 : Int32).toInt = 0 := ti_0; omega))
              refine lv_bipush (v := (-2)) hx hb dX11_best_50 bp_m2 ?_
              refine lv_goto (tgt := 64) hx hb dX11_best_52 (by decide) ?_
              have k99 : ((-2) : Int32).toInt = (-2) := ti_m2
              exact hret _ _ _ _ (-2) f_17 L Q dX11_best_64 hP hS ⟨⟨hI, hF, rfl, rfl⟩, trivial, (Eq.trans (Eq.symm (hs.trans ((if_pos c_26).trans rfl))) hsp)⟩
          · skip
            have c_23 : r_20.toInt ≠ 0 := (by first | exact (cm_ne1 ti_0 c) | (have z := bn_ne c; have k1 : (0 : Int32).toInt = 0 := ti_0; omega))
            refine lv_iload hx hb dX11_best_37 (lv_at hl 0 rfl) ?_
            exact hret _ _ _ _ (r_20) f_17 L Q dX11_best_39 hP hS ⟨⟨hI, hF, rfl, rfl⟩, trivial, (Eq.trans (Eq.symm (hs.trans ((if_neg c_23).trans rfl))) hsp)⟩
        · skip
          have c_16 : 3 < x2.toInt := (by first | exact (cm_nle1 ti_3 c) | (have z := bn_nle c; have k1 : (3 : Int32).toInt = 3 := ti_3; omega))
          refine lv_iconst (v := (-1)) hx hb dX11_best_23 ic_m1 ?_
          have k99 : ((-1) : Int32).toInt = (-1) := ti_m1
          exact hret _ _ _ _ (-1) f L Q dX11_best_24 hP hS ⟨⟨hI, hF, rfl, rfl⟩, trivial, (Eq.trans (Eq.symm (hs.trans ((if_pos c_16).trans rfl))) hsp)⟩
    · skip
      have hc_12 := hq
      refine lv_if_eq (tgt := 23) hx hb dX11_best_11 (by decide) (fun c => ?_) (fun c => absurd c (by decide))
      refine lv_iconst (v := (-1)) hx hb dX11_best_23 ic_m1 ?_
      have k99 : ((-1) : Int32).toInt = (-1) := ti_m1
      exact hret _ _ _ _ (-1) f L Q dX11_best_24 hP hS ⟨⟨hI, hF, rfl, rfl⟩, trivial, (Eq.trans (Eq.symm (hs.trans ((if_neg (by decide)).trans rfl))) hsp)⟩
  · skip
    have hc_6 := hq
    refine lv_if_eq (tgt := 23) hx hb dX11_best_4 (by decide) (fun c => ?_) (fun c => absurd c (by decide))
    refine lv_iconst (v := (-1)) hx hb dX11_best_23 ic_m1 ?_
    have k99 : ((-1) : Int32).toInt = (-1) := ti_m1
    exact hret _ _ _ _ (-1) f L Q dX11_best_24 hP hS ⟨⟨hI, hF, rfl, rfl⟩, trivial, (Eq.trans (Eq.symm (hs.trans ((if_neg (by decide)).trans rfl))) hsp)⟩

abbrev WkX8_weighWants : List (Nat × Nat × Option Nat) := [(18, 18, none), (19, 19, none)]
set_option maxHeartbeats 4000000 in
set_option maxRecDepth 100000 in
theorem kX8_weighWants (l : Launch) (D : va_G) (ca : Nat → ClassId) (za h : Nat → Nat) (hh : sgH 52 h) (f : sg_F) (L : sg_L) (Q : sg_Q) (hI : sgI loX hiX f) (x0 : Int32) (b0 : 0 ≤ x0.toInt ∧ x0.toInt ≤ 2) (sz : Nat) : Met l yX8_weighWants gwX8_weighWants { frames := 1, cells := 0, slots := 0, locals := 22 } (sgP D vwCl (tyX ca) 52 h (eX ca h) zcX za f L Q sz [.ref (h 17), .int x0]) (sgQi D vwCl 52 h (eX ca h) sz (fun r f1 L1 Q1 => ((sgI loX hiX f1 ∧ sgK WkX8_weighWants f f1 ∧ L1 = L ∧ Q1 = Q) ∧ True ∧ (r, f1) = sX8_weighWants x0 f L))) 0 0 (sgA 52 h sz) := by
  refine sg_ofWi (cc := cX8_weighWants) (maxL := 7) RX8 (by decide) rfl rfl (Nat.le_of_ble_eq_true rfl) ?_
  intro p e s m below meth cd Qz ls hx hb hml hown hts hK hZ hP hS hl hret
  have hA := sgY.self (n := 52) (h := h) (sz := s.heap.size)
  have hl : lv_has ls 7 [(0, .ref (h 17)), (1, .int x0)] := hl
  obtain ⟨H, hH⟩ : ∃ z : Heap, z = s.heap := ⟨_, rfl⟩
  obtain ⟨locs, hlo⟩ : ∃ z : List Loc, z = [] := ⟨_, rfl⟩
  have hP : va_P D vwCl (sgw 52 h (eX ca h) f L Q) H := by rw [hH]; exact hP
  have hS : va_S (sgA 52 h s.heap.size) s.heap H locs := by rw [hH, hlo]; exact hS
  suffices hgo : W p l e ({ frames := 1, cells := 0, slots := 0, locals := 22 }) s m ([.ref (h 17), .int x0] : List Value).toArray below meth cd H locs 0 0 Qz (F0 m 0 ls []) by rw [hH, hlo] at hgo; exact hgo
  clear hH hlo
  obtain ⟨sp, hsp⟩ : ∃ z : Int32 × sg_F, z = sX8_weighWants x0 f L := ⟨_, rfl⟩
  have hs : sp = sX8_weighWants x0 f L := hsp
  have hF : sgK WkX8_weighWants f f := sgK.rf
  have loop_32 : ∀ (n_32 : Nat) (y2_32 : Int32) (y3_32 : Int32) (fp_32 : sg_F) (H : Heap) (locs : List Loc) (ls : Array Slot), sp = sX8_weighWants_l32 x0 n_32 y2_32 y3_32 fp_32 L → 8 - y3_32.toInt < (n_32 : Int) → 0 ≤ y3_32.toInt ∧ y3_32.toInt ≤ 8 → sgI loX hiX fp_32 → sgK WkX8_weighWants f fp_32 → va_P D vwCl (sgw 52 h (eX ca h) fp_32 L Q) H → va_S (sgA 52 h s.heap.size) s.heap H locs → lv_has ls 7 [(0, .ref (h 17)), (1, .int x0), (2, .int y2_32), (3, .int y3_32)] → W p l e ({ frames := 1, cells := 0, slots := 0, locals := 22 }) s m ([.ref (h 17), .int x0] : List Value).toArray below meth cd H locs 0 0 Qz (F0 m 32 ls []) := by
    intro n_32
    induction n_32 with
    | zero => intro y2_32 y3_32 fp_32 H locs ls hs hm_32 hy0_32 hI hF hP hS hl; exact absurd hm_32 (by omega)
    | succ n_32 ih_32 =>
      have blk_131 : ∀ (y2_131 : Int32) (y3_131 : Int32) (fp_131 : sg_F) (H : Heap) (locs : List Loc) (ls : Array Slot), sp = sX8_weighWants_b131 (sX8_weighWants_l32 x0 n_32) x0 y2_131 y3_131 fp_131 L → 8 - y3_131.toInt < ((n_32 + 1 : Nat) : Int) → 0 ≤ y3_131.toInt ∧ y3_131.toInt ≤ 7 → sgI loX hiX fp_131 → sgK WkX8_weighWants f fp_131 → va_P D vwCl (sgw 52 h (eX ca h) fp_131 L Q) H → va_S (sgA 52 h s.heap.size) s.heap H locs → lv_has ls 7 [(0, .ref (h 17)), (1, .int x0), (2, .int y2_131), (3, .int y3_131)] → W p l e ({ frames := 1, cells := 0, slots := 0, locals := 22 }) s m ([.ref (h 17), .int x0] : List Value).toArray below meth cd H locs 0 0 Qz (F0 m 131 ls []) := by
        intro y2_131 y3_131 fp_131 H locs ls hs hm_32 hy0_131 hI hF hP hS hl
        obtain ⟨v_1, ev_1⟩ : ∃ z : Int32, z = y3_131 + 1 := ⟨_, rfl⟩
        have q_2 : v_1.toInt = y3_131.toInt + 1 := by rw [ev_1]; exact (bn_addc y3_131 1 (by decide) (by omega) (by omega))
        refine lv_iinc (v := v_1) (lv' := [(3, .int v_1), (0, .ref (h 17)), (1, .int x0), (2, .int y2_131)]) hx hb dX8_weighWants_131 hl (k := 3) rfl (by rw [ev_1]; rfl) (by decide) rfl (fun ls hl => ?_)
        refine lv_goto (tgt := 32) hx hb dX8_weighWants_134 (by decide) ?_
        exact ih_32 y2_131 v_1 fp_131 _ _ _ (hs.trans ((spl_e ev_1 rfl))) (by omega) ⟨by omega, by omega⟩ hI hF hP hS (lv_sub hl [1, 2, 3, 0] rfl)
      intro y2_32 y3_32 fp_32 H locs ls hs hm_32 hy0_32 hI hF hP hS hl
      have hs : sp = sX8_weighWants_h32 x0 (sX8_weighWants_l32 x0 n_32) y2_32 y3_32 fp_32 L := hs
      refine lv_iload_n hx hb dX8_weighWants_32 rfl (lv_at hl 3 rfl) ?_
      refine lv_bipush (v := 8) hx hb dX8_weighWants_33 bp_8 ?_
      refine lv_icmp_ge (tgt := 137) hx hb dX8_weighWants_35 (by decide) (fun c => ?_) (fun c => ?_)
      · skip
        have c_3 : 8 ≤ y3_32.toInt := (by first | exact (cm_le0 ti_8 c) | (have z := bn_le c; have k1 : (8 : Int32).toInt = 8 := ti_8; omega))
        refine lv_iload_n hx hb dX8_weighWants_137 rfl (lv_at hl 2 rfl) ?_
        exact hret _ _ _ _ (y2_32) fp_32 L Q dX8_weighWants_138 hP hS ⟨⟨hI, hF, rfl, rfl⟩, trivial, (Eq.trans (Eq.symm (hs.trans (((if_neg (Int.not_lt.mpr c_3)).trans rfl)))) hsp)⟩
      · skip
        have c_4 : y3_32.toInt < 8 := (by first | exact (cm_nle0 ti_8 c) | (have z := bn_nle c; have k1 : (8 : Int32).toInt = 8 := ti_8; omega))
        refine lv_aload_n hx hb dX8_weighWants_38 rfl (lv_at hl 0 rfl) ?_
        refine sl_gX_17_1_8 hx hb hts hown hK hP dX8_weighWants_39 ?_
        refine sl_gX_10_1_8 hx hb hts hown hK hP dX8_weighWants_42 ?_
        refine lv_iload_n hx hb dX8_weighWants_45 rfl (lv_at hl 3 rfl) ?_
        refine sg_iald hx hb hK hP 12 (by decide) 0 rfl rfl (i := y3_32) (vp_in_iff.mpr ⟨by omega, by omega⟩) dX8_weighWants_46 ?_
        refine lv_topi (fun v_5 ev_5 => ?_)
        replace hs := hs.trans ((if_pos c_4).trans (spl_e ev_5 rfl))
        refine lv_if_le (tgt := 131) hx hb dX8_weighWants_47 (by decide) (fun c => ?_) (fun c => ?_)
        · skip
          have c_6 : v_5.toInt ≤ 0 := (by first | exact (cm_le1 ti_0 c) | (have z := bn_le c; have k1 : (0 : Int32).toInt = 0 := ti_0; omega))
          exact blk_131 y2_32 y3_32 fp_32 _ _ _ (hs.trans ((if_neg (Int.not_lt.mpr c_6)).trans rfl)) (by omega) ⟨by omega, by omega⟩ hI hF hP hS (lv_sub hl [0, 1, 2, 3] rfl)
        · skip
          have c_7 : 0 < v_5.toInt := (by first | exact (cm_nle1 ti_0 c) | (have z := bn_nle c; have k1 : (0 : Int32).toInt = 0 := ti_0; omega))
          refine lv_aload_n hx hb dX8_weighWants_50 rfl (lv_at hl 0 rfl) ?_
          refine sl_gX_17_0_8 hx hb hts hown hK hP dX8_weighWants_51 ?_
          refine lv_iload_n hx hb dX8_weighWants_54 rfl (lv_at hl 3 rfl) ?_
          refine lv_iconst (v := 3) hx hb dX8_weighWants_55 ic_3 ?_
          refine sg_calli (va_runV (As := [.int y3_32, .int 3]) (rest := []) ⟨hx, hb, hml, hown, hts⟩ (kX0_numberOf l D ca za h hh fp_32 L Q hI y3_32 3 ⟨by omega, by omega⟩ (by decide) H.size) (sl_c0_numberOf_0_0_0_0_8 hts ⟨Nat.le_of_ble_eq_true rfl, Nat.le_of_ble_eq_true rfl⟩) (sl_vX_1 hA hK hP hS hZ) rfl rfl hl.1 rfl (lv_room (Nat.le_of_ble_eq_true rfl)) dX8_weighWants_56 ⟨Nat.le_refl _, Nat.le_refl _⟩) hA hS (fun r_11 f_8 L_9 Q_10 H locs hq hP hS => ?_)
          obtain ⟨⟨ef9, eL9, eQ9⟩, hq, u_12⟩ := hq
          rw [ef9, eL9, eQ9] at hP; clear ef9 eL9 eQ9
          refine lv_aload_n hx hb dX8_weighWants_59 rfl (lv_at hl 0 rfl) ?_
          refine sl_gX_17_0_8 hx hb hts hown hK hP dX8_weighWants_60 ?_
          refine lv_iload_n hx hb dX8_weighWants_63 rfl (lv_at hl 3 rfl) ?_
          refine lv_iconst (v := 4) hx hb dX8_weighWants_64 ic_4 ?_
          refine sg_calli (va_runV (As := [.int y3_32, .int 4]) (rest := [.int r_11]) ⟨hx, hb, hml, hown, hts⟩ (kX0_numberOf l D ca za h hh fp_32 L Q hI y3_32 4 ⟨by omega, by omega⟩ (by decide) H.size) (sl_c0_numberOf_0_0_0_0_8 hts ⟨Nat.le_of_ble_eq_true rfl, Nat.le_of_ble_eq_true rfl⟩) (sl_vX_1 hA hK hP hS hZ) rfl rfl hl.1 rfl (lv_room (Nat.le_of_ble_eq_true rfl)) dX8_weighWants_65 ⟨Nat.le_refl _, Nat.le_refl _⟩) hA hS (fun r_16 f_13 L_14 Q_15 H locs hq hP hS => ?_)
          obtain ⟨⟨ef9, eL9, eQ9⟩, hq, u_17⟩ := hq
          rw [ef9, eL9, eQ9] at hP; clear ef9 eL9 eQ9
          refine lv_iadd hx hb dX8_weighWants_68 ?_
          refine lv_topi (fun v_18 ev_18 => ?_)
          have q_19 : v_18.toInt = r_11.toInt + r_16.toInt := by rw [ev_18]; first | exact bn_addI (by omega) (by omega) | exact (bn_addI (by omega) (by omega)).trans (by omega)
          refine lv_istore (lv' := [(4, .int v_18), (0, .ref (h 17)), (1, .int x0), (2, .int y2_32), (3, .int y3_32)]) hx hb dX8_weighWants_69 hl (by decide) rfl (fun ls hl => ?_)
          refine lv_aload_n hx hb dX8_weighWants_71 rfl (lv_at hl 1 rfl) ?_
          refine sl_gX_17_1_8 hx hb hts hown hK hP dX8_weighWants_72 ?_
          refine sl_gX_10_1_8 hx hb hts hown hK hP dX8_weighWants_75 ?_
          refine lv_iload_n hx hb dX8_weighWants_78 rfl (lv_at hl 4 rfl) ?_
          refine sg_iald hx hb hK hP 12 (by decide) 0 rfl rfl (i := y3_32) (vp_in_iff.mpr ⟨by omega, by omega⟩) dX8_weighWants_79 ?_
          rw [← ev_5]
          refine lv_aload_n hx hb dX8_weighWants_80 rfl (lv_at hl 1 rfl) ?_
          refine sl_gX_17_0_8 hx hb hts hown hK hP dX8_weighWants_81 ?_
          refine lv_iload_n hx hb dX8_weighWants_84 rfl (lv_at hl 4 rfl) ?_
          refine lv_iconst (v := 5) hx hb dX8_weighWants_85 ic_5 ?_
          refine sg_calli (va_runV (As := [.int y3_32, .int 5]) (rest := [.int v_5]) ⟨hx, hb, hml, hown, hts⟩ (kX0_numberOf l D ca za h hh fp_32 L Q hI y3_32 5 ⟨by omega, by omega⟩ (by decide) H.size) (sl_c0_numberOf_0_0_0_0_8 hts ⟨Nat.le_of_ble_eq_true rfl, Nat.le_of_ble_eq_true rfl⟩) (sl_vX_1 hA hK hP hS hZ) rfl rfl hl.1 rfl (lv_room (Nat.le_of_ble_eq_true rfl)) dX8_weighWants_86 ⟨Nat.le_refl _, Nat.le_refl _⟩) hA hS (fun r_23 f_20 L_21 Q_22 H locs hq hP hS => ?_)
          obtain ⟨⟨ef9, eL9, eQ9⟩, hq, u_24⟩ := hq
          rw [ef9, eL9, eQ9] at hP; clear ef9 eL9 eQ9
          refine lv_imul hx hb dX8_weighWants_89 ?_
          refine lv_topi (fun v_25 ev_25 => ?_)
          refine lv_iload hx hb dX8_weighWants_90 (lv_at hl 0 rfl) ?_
          refine lv_imul hx hb dX8_weighWants_92 ?_
          refine lv_topi (fun v_26 ev_26 => ?_)
          refine lv_istore (lv' := [(5, .int v_26), (4, .int v_18), (0, .ref (h 17)), (1, .int x0), (2, .int y2_32), (3, .int y3_32)]) hx hb dX8_weighWants_93 hl (by decide) rfl (fun ls hl => ?_)
          refine lv_aload_n hx hb dX8_weighWants_95 rfl (lv_at hl 2 rfl) ?_
          refine sl_gX_17_0_8 hx hb hts hown hK hP dX8_weighWants_96 ?_
          refine lv_iload_n hx hb dX8_weighWants_99 rfl (lv_at hl 5 rfl) ?_
          refine lv_iload_n hx hb dX8_weighWants_100 rfl (lv_at hl 3 rfl) ?_
          refine sg_calli (va_runV (As := [.int y3_32, .int x0]) (rest := []) ⟨hx, hb, hml, hown, hts⟩ (kX0_numberOf l D ca za h hh fp_32 L Q hI y3_32 x0 ⟨by omega, by omega⟩ ⟨by omega, by omega⟩ H.size) (sl_c0_numberOf_0_0_0_0_8 hts ⟨Nat.le_of_ble_eq_true rfl, Nat.le_of_ble_eq_true rfl⟩) (sl_vX_1 hA hK hP hS hZ) rfl rfl hl.1 rfl (lv_room (Nat.le_of_ble_eq_true rfl)) dX8_weighWants_101 ⟨Nat.le_refl _, Nat.le_refl _⟩) hA hS (fun r_30 f_27 L_28 Q_29 H locs hq hP hS => ?_)
          obtain ⟨⟨ef9, eL9, eQ9⟩, hq, u_31⟩ := hq
          rw [ef9, eL9, eQ9] at hP; clear ef9 eL9 eQ9
          refine lv_istore (lv' := [(6, .int r_30), (5, .int v_26), (4, .int v_18), (0, .ref (h 17)), (1, .int x0), (2, .int y2_32), (3, .int y3_32)]) hx hb dX8_weighWants_104 hl (by decide) rfl (fun ls hl => ?_)
          refine lv_aload_n hx hb dX8_weighWants_106 rfl (lv_at hl 3 rfl) ?_
          refine sl_gX_17_2_8 hx hb hts hown hK hP dX8_weighWants_107 ?_
          refine lv_iload hx hb dX8_weighWants_110 (lv_at hl 0 rfl) ?_
          refine lv_dup2_11 hx hb dX8_weighWants_112 rfl rfl ?_
          refine sg_iald hx hb hK hP 18 (by decide) 0 rfl rfl (i := r_30) (vp_in_iff.mpr ⟨by omega, by omega⟩) dX8_weighWants_113 ?_
          refine lv_topi (fun v_32 ev_32 => ?_)
          refine lv_iload hx hb dX8_weighWants_114 (lv_at hl 1 rfl) ?_
          refine lv_iadd hx hb dX8_weighWants_116 ?_
          refine lv_topi (fun v_33 ev_33 => ?_)
          refine sg_iast hx hb hh hA hK hP hS 18 (by decide) 0 (fun _ => rfl) rfl (i := r_30) (x := v_33) (vp_in_iff.mpr ⟨by omega, by omega⟩) dX8_weighWants_117 (fun f_34 H locs ef_34 hP hS => ?_)
          have hI : sgI loX hiX f_34 := by rw [ef_34]; exact sgI.put hI 18 r_30.toNatClampNeg (bn_top _)
          have hF : sgK WkX8_weighWants f f_34 := sgK.put hF ef_34 (by rfl)
          refine lv_aload_n hx hb dX8_weighWants_118 rfl (lv_at hl 3 rfl) ?_
          refine sl_gX_17_3_8 hx hb hts hown hK hP dX8_weighWants_119 ?_
          refine lv_iload hx hb dX8_weighWants_122 (lv_at hl 0 rfl) ?_
          refine lv_iconst (v := 1) hx hb dX8_weighWants_124 ic_1 ?_
          refine sg_zast hx hb hh hA hK hP hS 19 (by decide) 2 (fun _ => rfl) rfl (i := r_30) (x := 1) (vp_in_iff.mpr ⟨by omega, by omega⟩) (by decide) dX8_weighWants_125 (fun f_35 H locs ef_35 hP hS => ?_)
          have hI : sgI loX hiX f_35 := by rw [ef_35]; exact sgI.put hI 19 r_30.toNatClampNeg (show 0 ≤ (1 : Int32).toInt ∧ (1 : Int32).toInt ≤ 1 from by decide)
          have hF : sgK WkX8_weighWants f f_35 := sgK.put hF ef_35 (by rfl)
          refine lv_iload_n hx hb dX8_weighWants_126 rfl (lv_at hl 5 rfl) ?_
          refine lv_iload hx hb dX8_weighWants_127 (lv_at hl 1 rfl) ?_
          refine lv_iadd hx hb dX8_weighWants_129 ?_
          refine lv_topi (fun v_36 ev_36 => ?_)
          refine lv_istore_n (lv' := [(2, .int v_36), (6, .int r_30), (5, .int v_26), (4, .int v_18), (0, .ref (h 17)), (1, .int x0), (3, .int y3_32)]) hx hb dX8_weighWants_130 rfl hl (by decide) rfl (fun ls hl => ?_)
          exact blk_131 v_36 y3_32 f_35 _ _ _ (hs.trans ((if_pos c_7).trans (spl_e u_12 (spl_e u_17 (spl_e ev_18 (spl_e u_24 (spl_e ev_25 (spl_e ev_26 (spl_e u_31 (spl_e ev_32 (spl_e ev_33 (spl_e ef_34 (spl_e ef_35 (spl_e ev_36 rfl)))))))))))))) (by omega) ⟨by omega, by omega⟩ hI hF hP hS (lv_sub hl [4, 5, 0, 6] rfl)
  have loop_4 : ∀ (n_4 : Nat) (y3_4 : Int32) (fp_4 : sg_F) (H : Heap) (locs : List Loc) (ls : Array Slot), sp = sX8_weighWants_l4 x0 n_4 y3_4 fp_4 L → 61 - y3_4.toInt < (n_4 : Int) → 0 ≤ y3_4.toInt ∧ y3_4.toInt ≤ 61 → sgI loX hiX fp_4 → sgK WkX8_weighWants f fp_4 → va_P D vwCl (sgw 52 h (eX ca h) fp_4 L Q) H → va_S (sgA 52 h s.heap.size) s.heap H locs → lv_has ls 7 [(0, .ref (h 17)), (1, .int x0), (2, .int 0), (3, .int y3_4)] → W p l e ({ frames := 1, cells := 0, slots := 0, locals := 22 }) s m ([.ref (h 17), .int x0] : List Value).toArray below meth cd H locs 0 0 Qz (F0 m 4 ls []) := by
    intro n_4
    induction n_4 with
    | zero => intro y3_4 fp_4 H locs ls hs hm_4 hy0_4 hI hF hP hS hl; exact absurd hm_4 (by omega)
    | succ n_4 ih_4 =>
      intro y3_4 fp_4 H locs ls hs hm_4 hy0_4 hI hF hP hS hl
      have hs : sp = sX8_weighWants_h4 x0 (sX8_weighWants_l4 x0 n_4) y3_4 fp_4 L := hs
      refine lv_iload_n hx hb dX8_weighWants_4 rfl (lv_at hl 3 rfl) ?_
      refine lv_bipush (v := 60) hx hb dX8_weighWants_5 bp_60 ?_
      refine lv_icmp_gt (tgt := 30) hx hb dX8_weighWants_7 (by decide) (fun c => ?_) (fun c => ?_)
      · skip
        have c_37 : 60 < y3_4.toInt := (by first | exact (cm_lt0 ti_60 c) | (have z := bn_lt c; have k1 : (60 : Int32).toInt = 60 := ti_60; omega))
        refine lv_iconst (v := 0) hx hb dX8_weighWants_30 ic_0 ?_
        refine lv_istore_n (lv' := [(3, .int 0), (0, .ref (h 17)), (1, .int x0), (2, .int 0)]) hx hb dX8_weighWants_31 rfl hl (by decide) rfl (fun ls hl => ?_)
        exact loop_32 9 0 0 fp_4 _ _ _ (hs.trans (((if_pos c_37).trans rfl))) (by have kc0 : (0 : Int32).toInt = 0 := ti_0; have kc1 : (0 : Int32).toInt = 0 := ti_0; omega) (by decide) hI hF hP hS (lv_sub hl [1, 2, 3, 0] rfl)
      · skip
        have c_38 : y3_4.toInt ≤ 60 := (by first | exact (cm_nlt0 ti_60 c) | (have z := bn_nlt c; have k1 : (60 : Int32).toInt = 60 := ti_60; omega))
        refine lv_aload_n hx hb dX8_weighWants_10 rfl (lv_at hl 0 rfl) ?_
        refine sl_gX_17_2_8 hx hb hts hown hK hP dX8_weighWants_11 ?_
        refine lv_iload_n hx hb dX8_weighWants_14 rfl (lv_at hl 3 rfl) ?_
        refine lv_iconst (v := 0) hx hb dX8_weighWants_15 ic_0 ?_
        refine sg_iast hx hb hh hA hK hP hS 18 (by decide) 0 (fun _ => rfl) rfl (i := y3_4) (x := 0) (vp_in_iff.mpr ⟨by omega, by omega⟩) dX8_weighWants_16 (fun f_39 H locs ef_39 hP hS => ?_)
        have hI : sgI loX hiX f_39 := by rw [ef_39]; exact sgI.put hI 18 y3_4.toNatClampNeg (bn_top _)
        have hF : sgK WkX8_weighWants f f_39 := sgK.put hF ef_39 (by rfl)
        refine lv_aload_n hx hb dX8_weighWants_17 rfl (lv_at hl 0 rfl) ?_
        refine sl_gX_17_3_8 hx hb hts hown hK hP dX8_weighWants_18 ?_
        refine lv_iload_n hx hb dX8_weighWants_21 rfl (lv_at hl 3 rfl) ?_
        refine lv_iconst (v := 0) hx hb dX8_weighWants_22 ic_0 ?_
        refine sg_zast hx hb hh hA hK hP hS 19 (by decide) 2 (fun _ => rfl) rfl (i := y3_4) (x := 0) (vp_in_iff.mpr ⟨by omega, by omega⟩) (by decide) dX8_weighWants_23 (fun f_40 H locs ef_40 hP hS => ?_)
        have hI : sgI loX hiX f_40 := by rw [ef_40]; exact sgI.put hI 19 y3_4.toNatClampNeg (show 0 ≤ (0 : Int32).toInt ∧ (0 : Int32).toInt ≤ 1 from by decide)
        have hF : sgK WkX8_weighWants f f_40 := sgK.put hF ef_40 (by rfl)
        obtain ⟨v_41, ev_41⟩ : ∃ z : Int32, z = y3_4 + 1 := ⟨_, rfl⟩
        have q_42 : v_41.toInt = y3_4.toInt + 1 := by rw [ev_41]; exact (bn_addc y3_4 1 (by decide) (by omega) (by omega))
        refine lv_iinc (v := v_41) (lv' := [(3, .int v_41), (0, .ref (h 17)), (1, .int x0), (2, .int 0)]) hx hb dX8_weighWants_24 hl (k := 3) rfl (by rw [ev_41]; rfl) (by decide) rfl (fun ls hl => ?_)
        refine lv_goto (tgt := 4) hx hb dX8_weighWants_27 (by decide) ?_
        exact ih_4 v_41 f_40 _ _ _ (hs.trans (((if_neg (Int.not_lt.mpr c_38)).trans (spl_e ef_39 (spl_e ef_40 (spl_e ev_41 rfl)))))) (by omega) ⟨by omega, by omega⟩ hI hF hP hS (lv_sub hl [1, 2, 3, 0] rfl)
  refine lv_iconst (v := 0) hx hb dX8_weighWants_0 ic_0 ?_
  refine lv_istore_n (lv' := [(2, .int 0), (0, .ref (h 17)), (1, .int x0)]) hx hb dX8_weighWants_1 rfl hl (by decide) rfl (fun ls hl => ?_)
  refine lv_iconst (v := 0) hx hb dX8_weighWants_2 ic_0 ?_
  refine lv_istore_n (lv' := [(3, .int 0), (2, .int 0), (0, .ref (h 17)), (1, .int x0)]) hx hb dX8_weighWants_3 rfl hl (by decide) rfl (fun ls hl => ?_)
  exact loop_4 62 0 f _ _ _ hs (by have kc0 : (0 : Int32).toInt = 0 := ti_0; omega) (by decide) hI hF hP hS (lv_sub hl [2, 3, 1, 0] rfl)

abbrev WkX8_middleWant : List (Nat × Nat × Option Nat) := [(18, 18, none), (19, 19, none)]
set_option maxHeartbeats 4000000 in
set_option maxRecDepth 100000 in
theorem kX8_middleWant (l : Launch) (D : va_G) (ca : Nat → ClassId) (za h : Nat → Nat) (hh : sgH 52 h) (f : sg_F) (L : sg_L) (Q : sg_Q) (hI : sgI loX hiX f) (x0 : Int32) (b0 : 0 ≤ x0.toInt ∧ x0.toInt ≤ 2) (sz : Nat) : Met l yX8_middleWant gwX8_middleWant { frames := 2, cells := 0, slots := 0, locals := 48 } (sgP D vwCl (tyX ca) 52 h (eX ca h) zcX za f L Q sz [.ref (h 17), .int x0]) (sgQi D vwCl 52 h (eX ca h) sz (fun r f1 L1 Q1 => ((sgI loX hiX f1 ∧ sgK WkX8_middleWant f f1 ∧ L1 = L ∧ Q1 = Q) ∧ ((-2) ≤ r.toInt ∧ r.toInt ≤ 60) ∧ (r, f1) = sX8_middleWant x0 f L))) 0 0 (sgA 52 h sz) := by
  refine sg_ofWi (cc := cX8_middleWant) (maxL := 5) RX8 (by decide) rfl rfl (Nat.le_of_ble_eq_true rfl) ?_
  intro p e s m below meth cd Qz ls hx hb hml hown hts hK hZ hP hS hl hret
  have hA := sgY.self (n := 52) (h := h) (sz := s.heap.size)
  have hl : lv_has ls 5 [(0, .ref (h 17)), (1, .int x0)] := hl
  obtain ⟨H, hH⟩ : ∃ z : Heap, z = s.heap := ⟨_, rfl⟩
  obtain ⟨locs, hlo⟩ : ∃ z : List Loc, z = [] := ⟨_, rfl⟩
  have hP : va_P D vwCl (sgw 52 h (eX ca h) f L Q) H := by rw [hH]; exact hP
  have hS : va_S (sgA 52 h s.heap.size) s.heap H locs := by rw [hH, hlo]; exact hS
  suffices hgo : W p l e ({ frames := 2, cells := 0, slots := 0, locals := 48 }) s m ([.ref (h 17), .int x0] : List Value).toArray below meth cd H locs 0 0 Qz (F0 m 0 ls []) by rw [hH, hlo] at hgo; exact hgo
  clear hH hlo
  obtain ⟨sp, hsp⟩ : ∃ z : Int32 × sg_F, z = sX8_middleWant x0 f L := ⟨_, rfl⟩
  have hs : sp = sX8_middleWant x0 f L := hsp
  have hF : sgK WkX8_middleWant f f := sgK.rf
  have loop_11 : ∀ (n_11 : Nat) (y2_11 : Int32) (y3_11 : Int32) (y4_11 : Int32) (fp_11 : sg_F) (H : Heap) (locs : List Loc) (ls : Array Slot), sp = sX8_middleWant_l11 x0 n_11 y2_11 y3_11 y4_11 fp_11 L → 61 - y4_11.toInt < (n_11 : Int) → 0 ≤ y4_11.toInt ∧ y4_11.toInt ≤ 61 → sgI loX hiX fp_11 → sgK WkX8_middleWant f fp_11 → va_P D vwCl (sgw 52 h (eX ca h) fp_11 L Q) H → va_S (sgA 52 h s.heap.size) s.heap H locs → lv_has ls 5 [(0, .ref (h 17)), (2, .int y2_11), (3, .int y3_11), (4, .int y4_11)] → W p l e ({ frames := 2, cells := 0, slots := 0, locals := 48 }) s m ([.ref (h 17), .int x0] : List Value).toArray below meth cd H locs 0 0 Qz (F0 m 11 ls []) := by
    intro n_11
    induction n_11 with
    | zero => intro y2_11 y3_11 y4_11 fp_11 H locs ls hs hm_11 hy0_11 hI hF hP hS hl; exact absurd hm_11 (by omega)
    | succ n_11 ih_11 =>
      have blk_48 : ∀ (y2_48 : Int32) (y3_48 : Int32) (y4_48 : Int32) (fp_48 : sg_F) (H : Heap) (locs : List Loc) (ls : Array Slot), sp = sX8_middleWant_b48 (sX8_middleWant_l11 x0 n_11) x0 y2_48 y3_48 y4_48 fp_48 L → 61 - y4_48.toInt < ((n_11 + 1 : Nat) : Int) → 0 ≤ y4_48.toInt ∧ y4_48.toInt ≤ 60 → sgI loX hiX fp_48 → sgK WkX8_middleWant f fp_48 → va_P D vwCl (sgw 52 h (eX ca h) fp_48 L Q) H → va_S (sgA 52 h s.heap.size) s.heap H locs → lv_has ls 5 [(0, .ref (h 17)), (2, .int y2_48), (3, .int y3_48), (4, .int y4_48)] → W p l e ({ frames := 2, cells := 0, slots := 0, locals := 48 }) s m ([.ref (h 17), .int x0] : List Value).toArray below meth cd H locs 0 0 Qz (F0 m 48 ls []) := by
        intro y2_48 y3_48 y4_48 fp_48 H locs ls hs hm_11 hy0_48 hI hF hP hS hl
        obtain ⟨v_1, ev_1⟩ : ∃ z : Int32, z = y4_48 + 1 := ⟨_, rfl⟩
        have q_2 : v_1.toInt = y4_48.toInt + 1 := by rw [ev_1]; exact (bn_addc y4_48 1 (by decide) (by omega) (by omega))
        refine lv_iinc (v := v_1) (lv' := [(4, .int v_1), (0, .ref (h 17)), (2, .int y2_48), (3, .int y3_48)]) hx hb dX8_middleWant_48 hl (k := 3) rfl (by rw [ev_1]; rfl) (by decide) rfl (fun ls hl => ?_)
        refine lv_goto (tgt := 11) hx hb dX8_middleWant_51 (by decide) ?_
        exact ih_11 y2_48 y3_48 v_1 fp_48 _ _ _ (hs.trans ((spl_e ev_1 rfl))) (by omega) ⟨by omega, by omega⟩ hI hF hP hS (lv_sub hl [1, 2, 3, 0] rfl)
      intro y2_11 y3_11 y4_11 fp_11 H locs ls hs hm_11 hy0_11 hI hF hP hS hl
      have hs : sp = sX8_middleWant_h11 x0 (sX8_middleWant_l11 x0 n_11) y2_11 y3_11 y4_11 fp_11 L := hs
      refine lv_iload hx hb dX8_middleWant_11 (lv_at hl 3 rfl) ?_
      refine lv_bipush (v := 60) hx hb dX8_middleWant_13 bp_60 ?_
      refine lv_icmp_gt (tgt := 54) hx hb dX8_middleWant_15 (by decide) (fun c => ?_) (fun c => ?_)
      · skip
        have c_3 : 60 < y4_11.toInt := (by first | exact (cm_lt0 ti_60 c) | (have z := bn_lt c; have k1 : (60 : Int32).toInt = 60 := ti_60; omega))
        refine lv_bipush (v := (-2)) hx hb dX8_middleWant_54 bp_m2 ?_
        have k99 : ((-2) : Int32).toInt = (-2) := ti_m2
        exact hret _ _ _ _ (-2) fp_11 L Q dX8_middleWant_56 hP hS ⟨⟨hI, hF, rfl, rfl⟩, (by decide), (Eq.trans (Eq.symm (hs.trans (((if_pos c_3).trans rfl)))) hsp)⟩
      · skip
        have c_4 : y4_11.toInt ≤ 60 := (by first | exact (cm_nlt0 ti_60 c) | (have z := bn_nlt c; have k1 : (60 : Int32).toInt = 60 := ti_60; omega))
        refine lv_iload_n hx hb dX8_middleWant_18 rfl (lv_at hl 2 rfl) ?_
        refine lv_aload_n hx hb dX8_middleWant_19 rfl (lv_at hl 0 rfl) ?_
        refine sl_gX_17_2_8 hx hb hts hown hK hP dX8_middleWant_20 ?_
        refine lv_iload hx hb dX8_middleWant_23 (lv_at hl 3 rfl) ?_
        refine sg_iald hx hb hK hP 18 (by decide) 0 rfl rfl (i := y4_11) (vp_in_iff.mpr ⟨by omega, by omega⟩) dX8_middleWant_25 ?_
        refine lv_topi (fun v_5 ev_5 => ?_)
        refine lv_iadd hx hb dX8_middleWant_26 ?_
        refine lv_topi (fun v_6 ev_6 => ?_)
        refine lv_istore_n (lv' := [(3, .int v_6), (0, .ref (h 17)), (2, .int y2_11), (4, .int y4_11)]) hx hb dX8_middleWant_27 rfl hl (by decide) rfl (fun ls hl => ?_)
        refine lv_aload_n hx hb dX8_middleWant_28 rfl (lv_at hl 1 rfl) ?_
        refine sl_gX_17_3_8 hx hb hts hown hK hP dX8_middleWant_29 ?_
        refine lv_iload hx hb dX8_middleWant_32 (lv_at hl 3 rfl) ?_
        refine sg_zald hx hb hK hP 19 (by decide) 2 rfl rfl (i := y4_11) (vp_in_iff.mpr ⟨by omega, by omega⟩) dX8_middleWant_34 ?_
        refine lv_topi (fun v_7 ev_7 => ?_)
        replace hs := hs.trans ((if_neg (Int.not_lt.mpr c_4)).trans (spl_e ev_5 (spl_e ev_6 (spl_e ev_7 rfl))))
        have q_8 : 0 ≤ v_7.toInt ∧ v_7.toInt ≤ 1 := by rw [ev_7]; exact hI 19 _
        refine lv_if_eq (tgt := 48) hx hb dX8_middleWant_35 (by decide) (fun c => ?_) (fun c => ?_)
        · skip
          have c_9 : v_7.toInt = 0 := (by first | exact (cm_eq1 ti_0 c) | (have z := Int32.toInt_inj.mpr c; have k1 : (0 : Int32).toInt = 0 := ti_0; omega))
          exact blk_48 y2_11 v_6 y4_11 fp_11 _ _ _ (hs.trans ((if_pos c_9).trans rfl)) (by omega) ⟨by omega, by omega⟩ hI hF hP hS (lv_sub hl [1, 2, 0, 3] rfl)
        · skip
          have c_10 : v_7.toInt ≠ 0 := (by first | exact (cm_ne1 ti_0 c) | (have z := bn_ne c; have k1 : (0 : Int32).toInt = 0 := ti_0; omega))
          refine lv_iload_n hx hb dX8_middleWant_38 rfl (lv_at hl 0 rfl) ?_
          refine lv_iconst (v := 2) hx hb dX8_middleWant_39 ic_2 ?_
          refine lv_imul hx hb dX8_middleWant_40 ?_
          refine lv_topi (fun v_11 ev_11 => ?_)
          replace hs := hs.trans ((if_neg c_10).trans (spl_e ev_11 rfl))
          refine lv_iload_n hx hb dX8_middleWant_41 rfl (lv_at hl 2 rfl) ?_
          refine lv_icmp_lt (tgt := 48) hx hb dX8_middleWant_42 (by decide) (fun c => ?_) (fun c => ?_)
          · skip
            have c_12 : v_11.toInt < y2_11.toInt := (by first | exact (bn_lt c) | (have z := bn_lt c; omega))
            exact blk_48 y2_11 v_6 y4_11 fp_11 _ _ _ (hs.trans ((if_pos c_12).trans rfl)) (by omega) ⟨by omega, by omega⟩ hI hF hP hS (lv_sub hl [1, 2, 0, 3] rfl)
          · skip
            have c_13 : y2_11.toInt ≤ v_11.toInt := (by first | exact (bn_nlt c) | (have z := bn_nlt c; omega))
            refine lv_iload hx hb dX8_middleWant_45 (lv_at hl 3 rfl) ?_
            exact hret _ _ _ _ (y4_11) fp_11 L Q dX8_middleWant_47 hP hS ⟨⟨hI, hF, rfl, rfl⟩, ⟨by omega, by omega⟩, (Eq.trans (Eq.symm (hs.trans ((if_neg (Int.not_lt.mpr c_13)).trans rfl))) hsp)⟩
  refine lv_aload_n hx hb dX8_middleWant_0 rfl (lv_at hl 0 rfl) ?_
  refine lv_iload_n hx hb dX8_middleWant_1 rfl (lv_at hl 1 rfl) ?_
  refine sg_calli (va_runV (As := [.int x0]) (rest := []) ⟨hx, hb, hml, hown, hts⟩ (kX8_weighWants l D ca za h hh f L Q hI x0 b0 H.size) (sl_c8_weighWants_1_0_0_22_8 hts ⟨Nat.le_of_ble_eq_true rfl, Nat.le_of_ble_eq_true rfl⟩) (sl_vX_17 hA hK hP hS hZ) rfl rfl hl.1 rfl (lv_room (Nat.le_of_ble_eq_true rfl)) dX8_middleWant_2 ⟨Nat.le_refl _, Nat.le_refl _⟩) hA hS (fun r_17 f_14 L_15 Q_16 H locs hq hP hS => ?_)
  obtain ⟨⟨hI, hk_f_14, eL9, eQ9⟩, hq, u_18⟩ := hq
  rw [eL9, eQ9] at hP; clear eL9 eQ9
  have hF : sgK WkX8_middleWant f f_14 := sgK.tr hF hk_f_14 (by decide +kernel)
  refine lv_istore_n (lv' := [(2, .int r_17), (0, .ref (h 17)), (1, .int x0)]) hx hb dX8_middleWant_5 rfl hl (by decide) rfl (fun ls hl => ?_)
  refine lv_iconst (v := 0) hx hb dX8_middleWant_6 ic_0 ?_
  refine lv_istore_n (lv' := [(3, .int 0), (2, .int r_17), (0, .ref (h 17)), (1, .int x0)]) hx hb dX8_middleWant_7 rfl hl (by decide) rfl (fun ls hl => ?_)
  refine lv_iconst (v := 0) hx hb dX8_middleWant_8 ic_0 ?_
  refine lv_istore (lv' := [(4, .int 0), (3, .int 0), (2, .int r_17), (0, .ref (h 17)), (1, .int x0)]) hx hb dX8_middleWant_9 hl (by decide) rfl (fun ls hl => ?_)
  exact loop_11 62 r_17 0 0 f_14 _ _ _ (hs.trans ((spl2_e u_18 rfl))) (by have kc1 : (0 : Int32).toInt = 0 := ti_0; have kc2 : (0 : Int32).toInt = 0 := ti_0; omega) (by decide) hI hF hP hS (lv_sub hl [3, 2, 1, 0] rfl)

abbrev WkX11_middle : List (Nat × Nat × Option Nat) := [(10, 10, some 2), (10, 10, some 3), (11, 11, none), (12, 12, none), (18, 18, none), (19, 19, none)]
set_option maxHeartbeats 4000000 in
set_option maxRecDepth 100000 in
theorem kX11_middle (l : Launch) (D : va_G) (ca : Nat → ClassId) (za h : Nat → Nat) (hh : sgH 52 h) (f : sg_F) (L : sg_L) (Q : sg_Q) (hI : sgI loX hiX f) (x0 : Int32) (x1 : Int32) (sz : Nat) : Met l yX11_middle gwX11_middle { frames := 3, cells := 0, slots := 0, locals := 72 } (sgP D vwCl (tyX ca) 52 h (eX ca h) zcX za f L Q sz [.ref (h 0), .int x0, .int x1]) (sgQi D vwCl 52 h (eX ca h) sz (fun r f1 L1 Q1 => ((sgI loX hiX f1 ∧ sgK WkX11_middle f f1 ∧ L1 = L ∧ Q1 = Q) ∧ ((-12) ≤ r.toInt ∧ r.toInt ≤ 60) ∧ (r, f1) = sX11_middle x0 x1 f L))) 0 0 (sgA 52 h sz) := by
  refine sg_ofWi (cc := cX11_middle) (maxL := 4) RX11 (by decide) rfl rfl (Nat.le_of_ble_eq_true rfl) ?_
  intro p e s m below meth cd Qz ls hx hb hml hown hts hK hZ hP hS hl hret
  have hA := sgY.self (n := 52) (h := h) (sz := s.heap.size)
  have hl : lv_has ls 4 [(0, .ref (h 0)), (1, .int x0), (2, .int x1)] := hl
  obtain ⟨H, hH⟩ : ∃ z : Heap, z = s.heap := ⟨_, rfl⟩
  obtain ⟨locs, hlo⟩ : ∃ z : List Loc, z = [] := ⟨_, rfl⟩
  have hP : va_P D vwCl (sgw 52 h (eX ca h) f L Q) H := by rw [hH]; exact hP
  have hS : va_S (sgA 52 h s.heap.size) s.heap H locs := by rw [hH, hlo]; exact hS
  suffices hgo : W p l e ({ frames := 3, cells := 0, slots := 0, locals := 72 }) s m ([.ref (h 0), .int x0, .int x1] : List Value).toArray below meth cd H locs 0 0 Qz (F0 m 0 ls []) by rw [hH, hlo] at hgo; exact hgo
  clear hH hlo
  obtain ⟨sp, hsp⟩ : ∃ z : Int32 × sg_F, z = sX11_middle x0 x1 f L := ⟨_, rfl⟩
  have hs : sp = sX11_middle x0 x1 f L := hsp
  have hF : sgK WkX11_middle f f := sgK.rf
  refine lv_iload_n hx hb dX11_middle_0 rfl (lv_at hl 1 rfl) ?_
  refine sg_calli (va_runS (As := [.int x0]) (rest := []) ⟨hx, hb, hml, hown, hts⟩ (kX11_isShelf l D ca za h hh f L Q hI x0 H.size) (va_cwS 1 hts (gw_S (fun _ h => List.mem_cons_of_mem _ h) mw_35 mw_36 mw_37 mw_34) rfl rfl rfl hd_yX11_isShelf.2 ⟨Nat.le_of_ble_eq_true rfl, Nat.le_of_ble_eq_true rfl⟩) (sg_preS hA hK hP hS hZ) rfl rfl hl.1 rfl (lv_room (Nat.le_of_ble_eq_true rfl)) dX11_middle_1 ⟨Nat.le_refl _, Nat.le_refl _⟩) hA hS (fun r_4 f_1 L_2 Q_3 H locs hq hP hS => ?_)
  obtain ⟨⟨ef9, eL9, eQ9⟩, hq, u_5⟩ := hq
  replace hs := hs.trans (spl_e u_5 rfl)
  rw [ef9, eL9, eQ9] at hP; clear ef9 eL9 eQ9
  rcases hq with ⟨rfl, hq⟩ | ⟨rfl, hq⟩
  · skip
    have hc_6 := hq
    refine lv_if_eq (tgt := 14) hx hb dX11_middle_4 (by decide) (fun c => absurd c (by decide)) (fun c => ?_)
    refine lv_iload_n hx hb dX11_middle_7 rfl (lv_at hl 2 rfl) ?_
    refine sg_calli (va_runS (As := [.int x1]) (rest := []) ⟨hx, hb, hml, hown, hts⟩ (kX11_isPart l D ca za h hh f L Q hI x1 H.size) (va_cwS 1 hts (gw_S (fun _ h => List.mem_cons_of_mem _ h) mw_58 mw_59 mw_37 mw_57) rfl rfl rfl hd_yX11_isPart.2 ⟨Nat.le_of_ble_eq_true rfl, Nat.le_of_ble_eq_true rfl⟩) (sg_preS hA hK hP hS hZ) rfl rfl hl.1 rfl (lv_room (Nat.le_of_ble_eq_true rfl)) dX11_middle_8 ⟨Nat.le_refl _, Nat.le_refl _⟩) hA hS (fun r_10 f_7 L_8 Q_9 H locs hq hP hS => ?_)
    obtain ⟨⟨ef9, eL9, eQ9⟩, hq, u_11⟩ := hq
    replace hs := hs.trans ((if_pos rfl).trans (spl_e u_11 rfl))
    rw [ef9, eL9, eQ9] at hP; clear ef9 eL9 eQ9
    rcases hq with ⟨rfl, hq⟩ | ⟨rfl, hq⟩
    · skip
      have hc_12 := hq
      refine lv_if_ne (tgt := 16) hx hb dX11_middle_11 (by decide) (fun c => ?_) (fun c => absurd c (by decide))
      refine lv_aload_n hx hb dX11_middle_16 rfl (lv_at hl 0 rfl) ?_
      refine lv_iload_n hx hb dX11_middle_17 rfl (lv_at hl 1 rfl) ?_
      refine sg_calli (va_runV (As := [.int x0]) (rest := []) ⟨hx, hb, hml, hown, hts⟩ (kX11_readWeek l D ca za h hh f L Q hI x0 ⟨by omega, by omega⟩ H.size) (sl_c11_readWeek_2_0_0_45_11 hts ⟨Nat.le_of_ble_eq_true rfl, Nat.le_of_ble_eq_true rfl⟩) (sl_vX_0 hA hK hP hS hZ) rfl rfl hl.1 rfl (lv_room (Nat.le_of_ble_eq_true rfl)) dX11_middle_18 ⟨Nat.le_refl _, Nat.le_refl _⟩) hA hS (fun r_16 f_13 L_14 Q_15 H locs hq hP hS => ?_)
      obtain ⟨⟨hI, hk_f_13, eL9, eQ9⟩, hq, u_17⟩ := hq
      replace hs := hs.trans ((if_pos rfl).trans (spl2_e u_17 rfl))
      rw [eL9, eQ9] at hP; clear eL9 eQ9
      have hF : sgK WkX11_middle f f_13 := sgK.tr hF hk_f_13 (by decide +kernel)
      refine lv_istore_n (lv' := [(3, .int r_16), (0, .ref (h 0)), (1, .int x0), (2, .int x1)]) hx hb dX11_middle_21 rfl hl (by decide) rfl (fun ls hl => ?_)
      refine lv_iload_n hx hb dX11_middle_22 rfl (lv_at hl 0 rfl) ?_
      refine lv_if_eq (tgt := 28) hx hb dX11_middle_23 (by decide) (fun c => ?_) (fun c => ?_)
      · skip
        have c_18 : r_16.toInt = 0 := (by first | exact (cm_eq1 ti_0 c) | (have z := Int32.toInt_inj.mpr c; have k1 : (0 : Int32).toInt = 0 := ti_0; omega))
        refine lv_aload_n hx hb dX11_middle_28 rfl (lv_at hl 1 rfl) ?_
        refine sl_gX_0_1_11 hx hb hts hown hK hP dX11_middle_29 ?_
        refine sl_gX_10_3_11 (v := (f_13 10 3)) hx hb hts hown hK hP rfl dX11_middle_32 ?_
        refine lv_topi (fun v_20 ev_20 => ?_)
        replace hs := hs.trans ((if_pos c_18).trans (spl_e ev_20 rfl))
        refine lv_if_ne (tgt := 43) hx hb dX11_middle_35 (by decide) (fun c => ?_) (fun c => ?_)
        · skip
          have c_21 : v_20.toInt ≠ 0 := (by first | exact (cm_ne1 ti_0 c) | (have z := bn_ne c; have k1 : (0 : Int32).toInt = 0 := ti_0; omega))
          refine lv_aload_n hx hb dX11_middle_43 rfl (lv_at hl 1 rfl) ?_
          refine sl_gX_0_3_11 hx hb hts hown hK hP dX11_middle_44 ?_
          refine lv_iload_n hx hb dX11_middle_47 rfl (lv_at hl 3 rfl) ?_
          refine sg_calli (va_runV (As := [.int x1]) (rest := []) ⟨hx, hb, hml, hown, hts⟩ (kX8_middleWant l D ca za h hh f_13 L Q hI x1 ⟨by omega, by omega⟩ H.size) (sl_c8_middleWant_2_0_0_48_11 hts ⟨Nat.le_of_ble_eq_true rfl, Nat.le_of_ble_eq_true rfl⟩) (sl_vX_17 hA hK hP hS hZ) rfl rfl hl.1 rfl (lv_room (Nat.le_of_ble_eq_true rfl)) dX11_middle_48 ⟨Nat.le_refl _, Nat.le_refl _⟩) hA hS (fun r_26 f_23 L_24 Q_25 H locs hq hP hS => ?_)
          obtain ⟨⟨hI, hk_f_23, eL9, eQ9⟩, hq, u_27⟩ := hq
          rw [eL9, eQ9] at hP; clear eL9 eQ9
          have hF : sgK WkX11_middle f f_23 := sgK.tr hF hk_f_23 (by decide +kernel)
          exact hret _ _ _ _ (r_26) f_23 L Q dX11_middle_51 hP hS ⟨⟨hI, hF, rfl, rfl⟩, ⟨by omega, by omega⟩, (Eq.trans (Eq.symm (hs.trans ((if_neg c_21).trans (spl2_e u_27 rfl)))) hsp)⟩
        · skip
          have c_22 : v_20.toInt = 0 := (by first | exact (cm_eq1 ti_0 c) | (have z := Int32.toInt_inj.mpr c; have k1 : (0 : Int32).toInt = 0 := ti_0; omega))
          refine lv_bipush (v := (-2)) hx hb dX11_middle_38 bp_m2 ?_
          refine lv_goto (tgt := 51) hx hb dX11_middle_40 (by decide) ?_
          have k99 : ((-2) : Int32).toInt = (-2) := ti_m2
          exact hret _ _ _ _ (-2) f_13 L Q dX11_middle_51 hP hS ⟨⟨hI, hF, rfl, rfl⟩, (by decide), (Eq.trans (Eq.symm (hs.trans ((if_pos c_22).trans rfl))) hsp)⟩
      · skip
        have c_19 : r_16.toInt ≠ 0 := (by first | exact (cm_ne1 ti_0 c) | (have z := bn_ne c; have k1 : (0 : Int32).toInt = 0 := ti_0; omega))
        refine lv_iload_n hx hb dX11_middle_26 rfl (lv_at hl 0 rfl) ?_
        exact hret _ _ _ _ (r_16) f_13 L Q dX11_middle_27 hP hS ⟨⟨hI, hF, rfl, rfl⟩, ⟨by omega, by omega⟩, (Eq.trans (Eq.symm (hs.trans ((if_neg c_19).trans rfl))) hsp)⟩
    · skip
      have hc_12 := hq
      refine lv_if_ne (tgt := 16) hx hb dX11_middle_11 (by decide) (fun c => absurd c (by decide)) (fun c => ?_)
      refine lv_iconst (v := (-1)) hx hb dX11_middle_14 ic_m1 ?_
      have k99 : ((-1) : Int32).toInt = (-1) := ti_m1
      exact hret _ _ _ _ (-1) f L Q dX11_middle_15 hP hS ⟨⟨hI, hF, rfl, rfl⟩, (by decide), (Eq.trans (Eq.symm (hs.trans ((if_neg (by decide)).trans rfl))) hsp)⟩
  · skip
    have hc_6 := hq
    refine lv_if_eq (tgt := 14) hx hb dX11_middle_4 (by decide) (fun c => ?_) (fun c => absurd c (by decide))
    refine lv_iconst (v := (-1)) hx hb dX11_middle_14 ic_m1 ?_
    have k99 : ((-1) : Int32).toInt = (-1) := ti_m1
    exact hret _ _ _ _ (-1) f L Q dX11_middle_15 hP hS ⟨⟨hI, hF, rfl, rfl⟩, (by decide), (Eq.trans (Eq.symm (hs.trans ((if_neg (by decide)).trans rfl))) hsp)⟩

set_option maxHeartbeats 4000000 in
set_option maxRecDepth 100000 in
theorem kX0_slipped (l : Launch) (D : va_G) (ca : Nat → ClassId) (za h : Nat → Nat) (hh : sgH 52 h) (f : sg_F) (L : sg_L) (Q : sg_Q) (hI : sgI loX hiX f) (x0 : Int32) (x1 : Int32) (b0 : 0 ≤ x0.toInt ∧ x0.toInt ≤ 2) (b1 : 0 ≤ x1.toInt ∧ x1.toInt ≤ 60) (sz : Nat) : Met l yX0_slipped gwX0_slipped { frames := 1, cells := 0, slots := 0, locals := 21 } (sgP D vwCl (tyX ca) 52 h (eX ca h) zcX za f L Q sz [.ref (h 1), .int x0, .int x1]) (sgQi D vwCl 52 h (eX ca h) sz (fun r f1 L1 Q1 => ((f1 = f ∧ L1 = L ∧ Q1 = Q) ∧ (0 ≤ r.toInt ∧ r.toInt ≤ 60) ∧ (r) = sX0_slipped x0 x1 f L))) 0 0 (sgA 52 h sz) := by
  refine sg_ofWi (cc := cX0_slipped) (maxL := 3) RX0 (by decide) rfl rfl (Nat.le_of_ble_eq_true rfl) ?_
  intro p e s m below meth cd Qz ls hx hb hml hown hts hK hZ hP hS hl hret
  have hA := sgY.self (n := 52) (h := h) (sz := s.heap.size)
  have hl : lv_has ls 3 [(0, .ref (h 1)), (1, .int x0), (2, .int x1)] := hl
  obtain ⟨H, hH⟩ : ∃ z : Heap, z = s.heap := ⟨_, rfl⟩
  obtain ⟨locs, hlo⟩ : ∃ z : List Loc, z = [] := ⟨_, rfl⟩
  have hP : va_P D vwCl (sgw 52 h (eX ca h) f L Q) H := by rw [hH]; exact hP
  have hS : va_S (sgA 52 h s.heap.size) s.heap H locs := by rw [hH, hlo]; exact hS
  suffices hgo : W p l e ({ frames := 1, cells := 0, slots := 0, locals := 21 }) s m ([.ref (h 1), .int x0, .int x1] : List Value).toArray below meth cd H locs 0 0 Qz (F0 m 0 ls []) by rw [hH, hlo] at hgo; exact hgo
  clear hH hlo
  obtain ⟨sp, hsp⟩ : ∃ z : Int32, z = sX0_slipped x0 x1 f L := ⟨_, rfl⟩
  have hs : sp = sX0_slipped x0 x1 f L := hsp
  refine lv_iconst (v := 0) hx hb dX0_slipped_0 ic_0 ?_
  refine lv_iload_n hx hb dX0_slipped_1 rfl (lv_at hl 2 rfl) ?_
  refine lv_aload_n hx hb dX0_slipped_2 rfl (lv_at hl 0 rfl) ?_
  refine sl_gX_1_0_0 hx hb hts hown hK hP dX0_slipped_3 ?_
  refine lv_bipush (v := 64) hx hb dX0_slipped_6 bp_64 ?_
  refine lv_iload_n hx hb dX0_slipped_8 rfl (lv_at hl 1 rfl) ?_
  refine lv_iadd hx hb dX0_slipped_9 ?_
  refine lv_topi (fun v_1 ev_1 => ?_)
  have q_2 : v_1.toInt = 64 + x0.toInt := by rw [ev_1]; have k0 : (64 : Int32).toInt = 64 := ti_64; exact (bn_addI (by omega) (by omega)).trans (by omega)
  refine sg_iald hx hb hK hP 2 (by decide) 0 rfl rfl (i := v_1) (vp_in_iff.mpr ⟨by omega, by omega⟩) dX0_slipped_10 ?_
  refine lv_topi (fun v_3 ev_3 => ?_)
  have q_4 : v_1.toInt < 64 → v_3.toInt ≤ 60 := by rw [ev_3]; have z1 := segX2_r hI (j := Int32.toNatClampNeg v_1); have z2 := bn_clI (x := v_1) (by omega); intro z3; exact (z1.2.2 (by omega)).2
  have q_5 : 0 ≤ v_3.toInt ∧ v_3.toInt ≤ 99 := by rw [ev_3]; have z1 := segX2_r hI (j := Int32.toNatClampNeg v_1); have z2 := bn_clI (x := v_1) (by omega); omega
  refine lv_isub hx hb dX0_slipped_11 ?_
  refine lv_topi (fun v_6 ev_6 => ?_)
  have q_7 : v_6.toInt = x1.toInt - v_3.toInt := by rw [ev_6]; first | exact bn_subI (by omega) (by omega) | exact (bn_subI (by omega) (by omega)).trans (by omega)
  refine va_mmax hx hb (hml.trans hl.1.symm) hown (hts _ (List.mem_cons_of_mem _ mw_81)) (hts _ (List.mem_cons_of_mem _ mw_82)) (hts _ (List.mem_cons_of_mem _ mw_11)) (hts _ (List.mem_cons_of_mem _ mw_83)) (Nat.le_of_ble_eq_true rfl) (Nat.le_of_ble_eq_true rfl) (Nat.le_refl _) (Nat.le_refl _) dX0_slipped_12 ?_
  refine lv_topi (fun v_8 ev_8 => ?_)
  have q_9 : (0 < v_6.toInt ∧ v_8.toInt = v_6.toInt) ∨ (v_6.toInt ≤ 0 ∧ v_8.toInt = 0) := by have z := bn_maxI (0 : Int32) v_6; rw [← ev_8] at z; have k0 : (0 : Int32).toInt = 0 := ti_0; omega
  exact hret _ _ _ _ (v_8) f L Q dX0_slipped_15 hP hS ⟨⟨rfl, rfl, rfl⟩, ⟨by omega, by omega⟩, (Eq.trans (Eq.symm (hs.trans ((spl_e ev_1 (spl_e ev_3 (spl_e ev_6 (spl_e ev_8 rfl))))))) hsp)⟩

abbrev WkX9_unturned : List (Nat × Nat × Option Nat) := [(8, 8, none), (9, 9, none)]
set_option maxHeartbeats 4000000 in
set_option maxRecDepth 100000 in
theorem kX9_unturned (l : Launch) (D : va_G) (ca : Nat → ClassId) (za h : Nat → Nat) (hh : sgH 52 h) (f : sg_F) (L : sg_L) (Q : sg_Q) (hI : sgI loX hiX f) (x0 : Int32) (x1 : Int32) (x2 : Int32) (b0 : 0 ≤ x0.toInt ∧ x0.toInt ≤ 2) (b1 : 0 ≤ x1.toInt ∧ x1.toInt ≤ 20) (b2 : 0 ≤ x2.toInt ∧ x2.toInt ≤ 60) (sz : Nat) : Met l yX9_unturned gwX9_unturned { frames := 4, cells := 0, slots := 0, locals := 102 } (sgP D vwCl (tyX ca) 52 h (eX ca h) zcX za f L Q sz [.ref (h 25), .int x0, .int x1, .int x2]) (sgQi D vwCl 52 h (eX ca h) sz (fun r f1 L1 Q1 => ((sgI loX hiX f1 ∧ sgK WkX9_unturned f f1 ∧ L1 = L ∧ Q1 = Q) ∧ True ∧ (r, f1) = sX9_unturned x0 x1 x2 f L))) 0 0 (sgA 52 h sz) := by
  refine sg_ofWi (cc := cX9_unturned) (maxL := 5) RX9 (by decide) rfl rfl (Nat.le_of_ble_eq_true rfl) ?_
  intro p e s m below meth cd Qz ls hx hb hml hown hts hK hZ hP hS hl hret
  have hA := sgY.self (n := 52) (h := h) (sz := s.heap.size)
  have hl : lv_has ls 5 [(0, .ref (h 25)), (1, .int x0), (2, .int x1), (3, .int x2)] := hl
  obtain ⟨H, hH⟩ : ∃ z : Heap, z = s.heap := ⟨_, rfl⟩
  obtain ⟨locs, hlo⟩ : ∃ z : List Loc, z = [] := ⟨_, rfl⟩
  have hP : va_P D vwCl (sgw 52 h (eX ca h) f L Q) H := by rw [hH]; exact hP
  have hS : va_S (sgA 52 h s.heap.size) s.heap H locs := by rw [hH, hlo]; exact hS
  suffices hgo : W p l e ({ frames := 4, cells := 0, slots := 0, locals := 102 }) s m ([.ref (h 25), .int x0, .int x1, .int x2] : List Value).toArray below meth cd H locs 0 0 Qz (F0 m 0 ls []) by rw [hH, hlo] at hgo; exact hgo
  clear hH hlo
  obtain ⟨sp, hsp⟩ : ∃ z : Int32 × sg_F, z = sX9_unturned x0 x1 x2 f L := ⟨_, rfl⟩
  have hs : sp = sX9_unturned x0 x1 x2 f L := hsp
  have hF : sgK WkX9_unturned f f := sgK.rf
  refine lv_aload_n hx hb dX9_unturned_0 rfl (lv_at hl 0 rfl) ?_
  refine sl_gX_25_0_9 hx hb hts hown hK hP dX9_unturned_1 ?_
  refine lv_aload_n hx hb dX9_unturned_4 rfl (lv_at hl 0 rfl) ?_
  refine sl_gX_25_1_9 hx hb hts hown hK hP dX9_unturned_5 ?_
  refine sl_gX_10_0_9 hx hb hts hown hK hP dX9_unturned_8 ?_
  refine lv_iload_n hx hb dX9_unturned_11 rfl (lv_at hl 2 rfl) ?_
  refine sg_iald hx hb hK hP 11 (by decide) 0 rfl rfl (i := x1) (vp_in_iff.mpr ⟨by omega, by omega⟩) dX9_unturned_12 ?_
  refine lv_topi (fun v_1 ev_1 => ?_)
  have q_2 : (-1) ≤ v_1.toInt ∧ v_1.toInt ≤ 7 := by rw [ev_1]; exact hI 11 _
  refine lv_iload_n hx hb dX9_unturned_13 rfl (lv_at hl 1 rfl) ?_
  refine lv_iload_n hx hb dX9_unturned_14 rfl (lv_at hl 3 rfl) ?_
  refine sg_calli (va_runV (As := [.int v_1, .int x0, .int x2]) (rest := []) ⟨hx, hb, hml, hown, hts⟩ (kX0_lossAt l D ca za h hh f L Q hI v_1 x0 x2 q_2 b0 b2 H.size) (sl_c0_lossAt_3_0_0_74_9 hts ⟨Nat.le_of_ble_eq_true rfl, Nat.le_of_ble_eq_true rfl⟩) (sl_vX_1 hA hK hP hS hZ) rfl rfl hl.1 rfl (lv_room (Nat.le_of_ble_eq_true rfl)) dX9_unturned_15 ⟨Nat.le_refl _, Nat.le_refl _⟩) hA hS (fun r_6 f_3 L_4 Q_5 H locs hq hP hS => ?_)
  obtain ⟨⟨hI, hk_f_3, eL9, eQ9⟩, hq, u_7⟩ := hq
  rw [eL9, eQ9] at hP; clear eL9 eQ9
  have hF : sgK WkX9_unturned f f_3 := sgK.tr hF hk_f_3 (by decide +kernel)
  refine lv_istore (lv' := [(4, .int r_6), (0, .ref (h 25)), (1, .int x0), (2, .int x1), (3, .int x2)]) hx hb dX9_unturned_18 hl (by decide) rfl (fun ls hl => ?_)
  refine lv_iload hx hb dX9_unturned_20 (lv_at hl 0 rfl) ?_
  refine lv_aload_n hx hb dX9_unturned_22 rfl (lv_at hl 1 rfl) ?_
  refine sl_gX_25_2_9 hx hb hts hown hK hP dX9_unturned_23 ?_
  refine lv_iload_n hx hb dX9_unturned_26 rfl (lv_at hl 3 rfl) ?_
  refine lv_iconst (v := 1) hx hb dX9_unturned_27 ic_1 ?_
  refine lv_iadd hx hb dX9_unturned_28 ?_
  refine lv_topi (fun v_8 ev_8 => ?_)
  have q_9 : v_8.toInt = x1.toInt + 1 := by rw [ev_8]; first | exact cm_add ti_1 (by omega) (by omega) | (have k1 : (1 : Int32).toInt = 1 := ti_1; exact (bn_addI (by omega) (by omega)).trans (by omega))
  refine lv_bipush (v := 61) hx hb dX9_unturned_29 bp_61 ?_
  refine lv_imul hx hb dX9_unturned_31 ?_
  refine lv_topi (fun v_10 ev_10 => ?_)
  have q_11 : v_10.toInt = v_8.toInt * 61 := by rw [ev_10]; exact bn_mulI (by decide) (by omega) (by omega)
  refine lv_aload_n hx hb dX9_unturned_32 rfl (lv_at hl 1 rfl) ?_
  refine sl_gX_25_0_9 hx hb hts hown hK hP dX9_unturned_33 ?_
  refine lv_iload_n hx hb dX9_unturned_36 rfl (lv_at hl 2 rfl) ?_
  refine lv_iload_n hx hb dX9_unturned_37 rfl (lv_at hl 4 rfl) ?_
  refine sg_calli (va_runV (As := [.int x0, .int x2]) (rest := [.int v_10, .ref (h 26), .int r_6]) ⟨hx, hb, hml, hown, hts⟩ (kX0_slipped l D ca za h hh f_3 L Q hI x0 x2 b0 b2 H.size) (sl_c0_slipped_1_0_0_21_9 hts ⟨Nat.le_of_ble_eq_true rfl, Nat.le_of_ble_eq_true rfl⟩) (sl_vX_1 hA hK hP hS hZ) rfl rfl hl.1 rfl (lv_room (Nat.le_of_ble_eq_true rfl)) dX9_unturned_38 ⟨Nat.le_refl _, Nat.le_refl _⟩) hA hS (fun r_15 f_12 L_13 Q_14 H locs hq hP hS => ?_)
  obtain ⟨⟨ef9, eL9, eQ9⟩, hq, u_16⟩ := hq
  rw [ef9, eL9, eQ9] at hP; clear ef9 eL9 eQ9
  refine lv_iadd hx hb dX9_unturned_41 ?_
  refine lv_topi (fun v_17 ev_17 => ?_)
  have q_18 : v_17.toInt = v_10.toInt + r_15.toInt := by rw [ev_17]; first | exact bn_addI (by omega) (by omega) | exact (bn_addI (by omega) (by omega)).trans (by omega)
  refine sg_iald hx hb hK hP 26 (by decide) 0 rfl rfl (i := v_17) (vp_in_iff.mpr ⟨by omega, by omega⟩) dX9_unturned_42 ?_
  refine lv_topi (fun v_19 ev_19 => ?_)
  refine lv_iadd hx hb dX9_unturned_43 ?_
  refine lv_topi (fun v_20 ev_20 => ?_)
  exact hret _ _ _ _ (v_20) f_3 L Q dX9_unturned_44 hP hS ⟨⟨hI, hF, rfl, rfl⟩, trivial, (Eq.trans (Eq.symm (hs.trans ((spl_e ev_1 (spl2_e u_7 (spl_e ev_8 (spl_e ev_10 (spl_e u_16 (spl_e ev_17 (spl_e ev_19 (spl_e ev_20 rfl))))))))))) hsp)⟩

set_option maxHeartbeats 4000000 in
set_option maxRecDepth 100000 in
theorem kX0_priceOf (l : Launch) (D : va_G) (ca : Nat → ClassId) (za h : Nat → Nat) (hh : sgH 52 h) (f : sg_F) (L : sg_L) (Q : sg_Q) (hI : sgI loX hiX f) (x0 : Int32) (b0 : 0 ≤ x0.toInt ∧ x0.toInt ≤ 2) (sz : Nat) : Met l yX0_priceOf gwX0_priceOf { frames := 0, cells := 0, slots := 0, locals := 0 } (sgP D vwCl (tyX ca) 52 h (eX ca h) zcX za f L Q sz [.ref (h 1), .int x0]) (sgQi D vwCl 52 h (eX ca h) sz (fun r f1 L1 Q1 => ((f1 = f ∧ L1 = L ∧ Q1 = Q) ∧ (0 ≤ r.toInt ∧ r.toInt ≤ 99) ∧ (r) = sX0_priceOf x0 f L))) 0 0 (sgA 52 h sz) := by
  refine sg_ofWi (cc := cX0_priceOf) (maxL := 2) RX0 (by decide) rfl rfl (Nat.le_of_ble_eq_true rfl) ?_
  intro p e s m below meth cd Qz ls hx hb hml hown hts hK hZ hP hS hl hret
  have hA := sgY.self (n := 52) (h := h) (sz := s.heap.size)
  have hl : lv_has ls 2 [(0, .ref (h 1)), (1, .int x0)] := hl
  obtain ⟨H, hH⟩ : ∃ z : Heap, z = s.heap := ⟨_, rfl⟩
  obtain ⟨locs, hlo⟩ : ∃ z : List Loc, z = [] := ⟨_, rfl⟩
  have hP : va_P D vwCl (sgw 52 h (eX ca h) f L Q) H := by rw [hH]; exact hP
  have hS : va_S (sgA 52 h s.heap.size) s.heap H locs := by rw [hH, hlo]; exact hS
  suffices hgo : W p l e ({ frames := 0, cells := 0, slots := 0, locals := 0 }) s m ([.ref (h 1), .int x0] : List Value).toArray below meth cd H locs 0 0 Qz (F0 m 0 ls []) by rw [hH, hlo] at hgo; exact hgo
  clear hH hlo
  obtain ⟨sp, hsp⟩ : ∃ z : Int32, z = sX0_priceOf x0 f L := ⟨_, rfl⟩
  have hs : sp = sX0_priceOf x0 f L := hsp
  refine lv_aload_n hx hb dX0_priceOf_0 rfl (lv_at hl 0 rfl) ?_
  refine sl_gX_1_0_0 hx hb hts hown hK hP dX0_priceOf_1 ?_
  refine lv_bipush (v := 67) hx hb dX0_priceOf_4 bp_67 ?_
  refine lv_iload_n hx hb dX0_priceOf_6 rfl (lv_at hl 1 rfl) ?_
  refine lv_iadd hx hb dX0_priceOf_7 ?_
  refine lv_topi (fun v_1 ev_1 => ?_)
  have q_2 : v_1.toInt = 67 + x0.toInt := by rw [ev_1]; have k0 : (67 : Int32).toInt = 67 := ti_67; exact (bn_addI (by omega) (by omega)).trans (by omega)
  refine sg_iald hx hb hK hP 2 (by decide) 0 rfl rfl (i := v_1) (vp_in_iff.mpr ⟨by omega, by omega⟩) dX0_priceOf_8 ?_
  refine lv_topi (fun v_3 ev_3 => ?_)
  have q_4 : v_1.toInt < 64 → v_3.toInt ≤ 60 := by rw [ev_3]; have z1 := segX2_r hI (j := Int32.toNatClampNeg v_1); have z2 := bn_clI (x := v_1) (by omega); intro z3; exact (z1.2.2 (by omega)).2
  have q_5 : 0 ≤ v_3.toInt ∧ v_3.toInt ≤ 99 := by rw [ev_3]; have z1 := segX2_r hI (j := Int32.toNatClampNeg v_1); have z2 := bn_clI (x := v_1) (by omega); omega
  exact hret _ _ _ _ (v_3) f L Q dX0_priceOf_9 hP hS ⟨⟨rfl, rfl, rfl⟩, ⟨by omega, by omega⟩, (Eq.trans (Eq.symm (hs.trans ((spl_e ev_1 (spl_e ev_3 rfl))))) hsp)⟩

abbrev WkX9_spread : List (Nat × Nat × Option Nat) := [(26, 26, none)]
set_option maxHeartbeats 4000000 in
set_option maxRecDepth 100000 in
theorem kX9_spread (l : Launch) (D : va_G) (ca : Nat → ClassId) (za h : Nat → Nat) (hh : sgH 52 h) (f : sg_F) (L : sg_L) (Q : sg_Q) (hI : sgI loX hiX f) (x0 : Int32) (x1 : Int32) (b0 : 0 ≤ x0.toInt ∧ x0.toInt ≤ 1220) (b1 : 0 ≤ x1.toInt ∧ x1.toInt ≤ 99) (sz : Nat) : Met l yX9_spread gwX9_spread { frames := 1, cells := 0, slots := 0, locals := 21 } (sgP D vwCl (tyX ca) 52 h (eX ca h) zcX za f L Q sz [.ref (h 25), .int x0, .int x1]) (sgQv D vwCl 52 h (eX ca h) sz (fun f1 L1 Q1 => ((sgI loX hiX f1 ∧ sgK WkX9_spread f f1 ∧ L1 = L ∧ Q1 = Q) ∧ (f1) = sX9_spread x0 x1 f L))) 0 0 (sgA 52 h sz) := by
  refine sg_ofWv (cc := cX9_spread) (maxL := 4) RX9 (by decide) rfl rfl (Nat.le_of_ble_eq_true rfl) ?_
  intro p e s m below meth cd Qz ls hx hb hml hown hts hK hZ hP hS hl hret
  have hA := sgY.self (n := 52) (h := h) (sz := s.heap.size)
  have hl : lv_has ls 4 [(0, .ref (h 25)), (1, .int x0), (2, .int x1)] := hl
  obtain ⟨H, hH⟩ : ∃ z : Heap, z = s.heap := ⟨_, rfl⟩
  obtain ⟨locs, hlo⟩ : ∃ z : List Loc, z = [] := ⟨_, rfl⟩
  have hP : va_P D vwCl (sgw 52 h (eX ca h) f L Q) H := by rw [hH]; exact hP
  have hS : va_S (sgA 52 h s.heap.size) s.heap H locs := by rw [hH, hlo]; exact hS
  suffices hgo : W p l e ({ frames := 1, cells := 0, slots := 0, locals := 21 }) s m ([.ref (h 25), .int x0, .int x1] : List Value).toArray below meth cd H locs 0 0 Qz (F0 m 0 ls []) by rw [hH, hlo] at hgo; exact hgo
  clear hH hlo
  obtain ⟨sp, hsp⟩ : ∃ z : sg_F, z = sX9_spread x0 x1 f L := ⟨_, rfl⟩
  have hs : sp = sX9_spread x0 x1 f L := hsp
  have hF : sgK WkX9_spread f f := sgK.rf
  have loop_48 : ∀ (n_48 : Nat) (y3_48 : Int32) (fp_48 : sg_F) (H : Heap) (locs : List Loc) (ls : Array Slot), sp = sX9_spread_l48 x0 x1 n_48 y3_48 fp_48 L → y3_48.toInt - (-1) < (n_48 : Int) → (-1) ≤ y3_48.toInt ∧ y3_48.toInt ≤ 59 → sgI loX hiX fp_48 → sgK WkX9_spread f fp_48 → va_P D vwCl (sgw 52 h (eX ca h) fp_48 L Q) H → va_S (sgA 52 h s.heap.size) s.heap H locs → lv_has ls 4 [(0, .ref (h 25)), (1, .int x0), (2, .int x1), (3, .int y3_48)] → W p l e ({ frames := 1, cells := 0, slots := 0, locals := 21 }) s m ([.ref (h 25), .int x0, .int x1] : List Value).toArray below meth cd H locs 0 0 Qz (F0 m 48 ls []) := by
    intro n_48
    induction n_48 with
    | zero => intro y3_48 fp_48 H locs ls hs hm_48 hy0_48 hI hF hP hS hl; exact absurd hm_48 (by omega)
    | succ n_48 ih_48 =>
      intro y3_48 fp_48 H locs ls hs hm_48 hy0_48 hI hF hP hS hl
      have hs : sp = sX9_spread_h48 x0 x1 (sX9_spread_l48 x0 x1 n_48) y3_48 fp_48 L := hs
      refine lv_iload_n hx hb dX9_spread_48 rfl (lv_at hl 3 rfl) ?_
      refine lv_if_lt (tgt := 89) hx hb dX9_spread_49 (by decide) (fun c => ?_) (fun c => ?_)
      · skip
        have c_1 : y3_48.toInt < 0 := (by first | exact (cm_lt1 ti_0 c) | (have z := bn_lt c; have k1 : (0 : Int32).toInt = 0 := ti_0; omega))
        exact hret _ _ _ _ fp_48 L Q dX9_spread_89 hP hS ⟨⟨hI, hF, rfl, rfl⟩, (Eq.trans (Eq.symm (hs.trans (((if_pos c_1).trans rfl)))) hsp)⟩
      · skip
        have c_2 : 0 ≤ y3_48.toInt := (by first | exact (cm_nlt1 ti_0 c) | (have z := bn_nlt c; have k1 : (0 : Int32).toInt = 0 := ti_0; omega))
        refine lv_aload_n hx hb dX9_spread_52 rfl (lv_at hl 0 rfl) ?_
        refine sl_gX_25_2_9 hx hb hts hown hK hP dX9_spread_53 ?_
        refine lv_iload_n hx hb dX9_spread_56 rfl (lv_at hl 1 rfl) ?_
        refine lv_iload_n hx hb dX9_spread_57 rfl (lv_at hl 3 rfl) ?_
        refine lv_iadd hx hb dX9_spread_58 ?_
        refine lv_topi (fun v_3 ev_3 => ?_)
        have q_4 : v_3.toInt = x0.toInt + y3_48.toInt := by rw [ev_3]; first | exact bn_addI (by omega) (by omega) | exact (bn_addI (by omega) (by omega)).trans (by omega)
        refine lv_aload_n hx hb dX9_spread_59 rfl (lv_at hl 0 rfl) ?_
        refine sl_gX_25_2_9 hx hb hts hown hK hP dX9_spread_60 ?_
        refine lv_iload_n hx hb dX9_spread_63 rfl (lv_at hl 1 rfl) ?_
        refine lv_iload_n hx hb dX9_spread_64 rfl (lv_at hl 3 rfl) ?_
        refine lv_iadd hx hb dX9_spread_65 ?_
        rw [← ev_3]
        refine sg_iald hx hb hK hP 26 (by decide) 0 rfl rfl (i := v_3) (vp_in_iff.mpr ⟨by omega, by omega⟩) dX9_spread_66 ?_
        refine lv_topi (fun v_5 ev_5 => ?_)
        refine lv_aload_n hx hb dX9_spread_67 rfl (lv_at hl 0 rfl) ?_
        refine sl_gX_25_2_9 hx hb hts hown hK hP dX9_spread_68 ?_
        refine lv_iload_n hx hb dX9_spread_71 rfl (lv_at hl 1 rfl) ?_
        refine lv_iload_n hx hb dX9_spread_72 rfl (lv_at hl 3 rfl) ?_
        refine lv_iadd hx hb dX9_spread_73 ?_
        rw [← ev_3]
        refine lv_iconst (v := 1) hx hb dX9_spread_74 ic_1 ?_
        refine lv_iadd hx hb dX9_spread_75 ?_
        refine lv_topi (fun v_6 ev_6 => ?_)
        have q_7 : v_6.toInt = v_3.toInt + 1 := by rw [ev_6]; first | exact cm_add ti_1 (by omega) (by omega) | (have k1 : (1 : Int32).toInt = 1 := ti_1; exact (bn_addI (by omega) (by omega)).trans (by omega))
        refine sg_iald hx hb hK hP 26 (by decide) 0 rfl rfl (i := v_6) (vp_in_iff.mpr ⟨by omega, by omega⟩) dX9_spread_76 ?_
        refine lv_topi (fun v_8 ev_8 => ?_)
        refine lv_iload_n hx hb dX9_spread_77 rfl (lv_at hl 2 rfl) ?_
        refine lv_iadd hx hb dX9_spread_78 ?_
        refine lv_topi (fun v_9 ev_9 => ?_)
        refine va_mmin hx hb (hml.trans hl.1.symm) hown (hts _ (List.mem_cons_of_mem _ mw_457)) (hts _ (List.mem_cons_of_mem _ mw_10)) (hts _ (List.mem_cons_of_mem _ mw_11)) (hts _ (List.mem_cons_of_mem _ mw_12)) (Nat.le_of_ble_eq_true rfl) (Nat.le_of_ble_eq_true rfl) (Nat.le_refl _) (Nat.le_refl _) dX9_spread_79 ?_
        refine lv_topi (fun v_10 ev_10 => ?_)
        have q_11 : (v_9.toInt < v_5.toInt ∧ v_10.toInt = v_9.toInt) ∨ (v_5.toInt ≤ v_9.toInt ∧ v_10.toInt = v_5.toInt) := by have z := bn_minI v_9 v_5; rw [← ev_10] at z; omega
        refine sg_iast hx hb hh hA hK hP hS 26 (by decide) 0 (fun _ => rfl) rfl (i := v_3) (x := v_10) (vp_in_iff.mpr ⟨by omega, by omega⟩) dX9_spread_82 (fun f_12 H locs ef_12 hP hS => ?_)
        have hI : sgI loX hiX f_12 := by rw [ef_12]; exact sgI.put hI 26 v_3.toNatClampNeg (bn_top _)
        have hF : sgK WkX9_spread f f_12 := sgK.put hF ef_12 (by rfl)
        obtain ⟨v_13, ev_13⟩ : ∃ z : Int32, z = y3_48 + (-1) := ⟨_, rfl⟩
        have q_14 : v_13.toInt = y3_48.toInt + (-1) := by rw [ev_13]; exact (bn_addc y3_48 (-1) (by decide) (by omega) (by omega))
        refine lv_iinc (v := v_13) (lv' := [(3, .int v_13), (0, .ref (h 25)), (1, .int x0), (2, .int x1)]) hx hb dX9_spread_83 hl (k := 3) rfl (by rw [ev_13]; rfl) (by decide) rfl (fun ls hl => ?_)
        refine lv_goto (tgt := 48) hx hb dX9_spread_86 (by decide) ?_
        exact ih_48 v_13 f_12 _ _ _ (hs.trans (((if_neg (Int.not_lt.mpr c_2)).trans (spl_e ev_3 (spl_e ev_5 (spl_e ev_6 (spl_e ev_8 (spl_e ev_9 (spl_e ev_10 (spl_e ef_12 (spl_e ev_13 rfl))))))))))) (by omega) ⟨by omega, by omega⟩ hI hF hP hS (lv_sub hl [1, 2, 3, 0] rfl)
  have loop_2 : ∀ (n_2 : Nat) (y3_2 : Int32) (fp_2 : sg_F) (H : Heap) (locs : List Loc) (ls : Array Slot), sp = sX9_spread_l2 x0 x1 n_2 y3_2 fp_2 L → 61 - y3_2.toInt < (n_2 : Int) → 1 ≤ y3_2.toInt ∧ y3_2.toInt ≤ 61 → sgI loX hiX fp_2 → sgK WkX9_spread f fp_2 → va_P D vwCl (sgw 52 h (eX ca h) fp_2 L Q) H → va_S (sgA 52 h s.heap.size) s.heap H locs → lv_has ls 4 [(0, .ref (h 25)), (1, .int x0), (2, .int x1), (3, .int y3_2)] → W p l e ({ frames := 1, cells := 0, slots := 0, locals := 21 }) s m ([.ref (h 25), .int x0, .int x1] : List Value).toArray below meth cd H locs 0 0 Qz (F0 m 2 ls []) := by
    intro n_2
    induction n_2 with
    | zero => intro y3_2 fp_2 H locs ls hs hm_2 hy0_2 hI hF hP hS hl; exact absurd hm_2 (by omega)
    | succ n_2 ih_2 =>
      intro y3_2 fp_2 H locs ls hs hm_2 hy0_2 hI hF hP hS hl
      have hs : sp = sX9_spread_h2 x0 x1 (sX9_spread_l2 x0 x1 n_2) y3_2 fp_2 L := hs
      refine lv_iload_n hx hb dX9_spread_2 rfl (lv_at hl 3 rfl) ?_
      refine lv_bipush (v := 60) hx hb dX9_spread_3 bp_60 ?_
      refine lv_icmp_gt (tgt := 45) hx hb dX9_spread_5 (by decide) (fun c => ?_) (fun c => ?_)
      · skip
        have c_15 : 60 < y3_2.toInt := (by first | exact (cm_lt0 ti_60 c) | (have z := bn_lt c; have k1 : (60 : Int32).toInt = 60 := ti_60; omega))
        refine lv_bipush (v := 59) hx hb dX9_spread_45 bp_59 ?_
        refine lv_istore_n (lv' := [(3, .int 59), (0, .ref (h 25)), (1, .int x0), (2, .int x1)]) hx hb dX9_spread_47 rfl hl (by decide) rfl (fun ls hl => ?_)
        exact loop_48 61 59 fp_2 _ _ _ (hs.trans (((if_pos c_15).trans rfl))) (by have kc0 : (59 : Int32).toInt = 59 := ti_59; omega) (by decide) hI hF hP hS (lv_sub hl [1, 2, 3, 0] rfl)
      · skip
        have c_16 : y3_2.toInt ≤ 60 := (by first | exact (cm_nlt0 ti_60 c) | (have z := bn_nlt c; have k1 : (60 : Int32).toInt = 60 := ti_60; omega))
        refine lv_aload_n hx hb dX9_spread_8 rfl (lv_at hl 0 rfl) ?_
        refine sl_gX_25_2_9 hx hb hts hown hK hP dX9_spread_9 ?_
        refine lv_iload_n hx hb dX9_spread_12 rfl (lv_at hl 1 rfl) ?_
        refine lv_iload_n hx hb dX9_spread_13 rfl (lv_at hl 3 rfl) ?_
        refine lv_iadd hx hb dX9_spread_14 ?_
        refine lv_topi (fun v_17 ev_17 => ?_)
        have q_18 : v_17.toInt = x0.toInt + y3_2.toInt := by rw [ev_17]; first | exact bn_addI (by omega) (by omega) | exact (bn_addI (by omega) (by omega)).trans (by omega)
        refine lv_aload_n hx hb dX9_spread_15 rfl (lv_at hl 0 rfl) ?_
        refine sl_gX_25_2_9 hx hb hts hown hK hP dX9_spread_16 ?_
        refine lv_iload_n hx hb dX9_spread_19 rfl (lv_at hl 1 rfl) ?_
        refine lv_iload_n hx hb dX9_spread_20 rfl (lv_at hl 3 rfl) ?_
        refine lv_iadd hx hb dX9_spread_21 ?_
        rw [← ev_17]
        refine sg_iald hx hb hK hP 26 (by decide) 0 rfl rfl (i := v_17) (vp_in_iff.mpr ⟨by omega, by omega⟩) dX9_spread_22 ?_
        refine lv_topi (fun v_19 ev_19 => ?_)
        refine lv_aload_n hx hb dX9_spread_23 rfl (lv_at hl 0 rfl) ?_
        refine sl_gX_25_2_9 hx hb hts hown hK hP dX9_spread_24 ?_
        refine lv_iload_n hx hb dX9_spread_27 rfl (lv_at hl 1 rfl) ?_
        refine lv_iload_n hx hb dX9_spread_28 rfl (lv_at hl 3 rfl) ?_
        refine lv_iadd hx hb dX9_spread_29 ?_
        rw [← ev_17]
        refine lv_iconst (v := 1) hx hb dX9_spread_30 ic_1 ?_
        refine lv_isub hx hb dX9_spread_31 ?_
        refine lv_topi (fun v_20 ev_20 => ?_)
        have q_21 : v_20.toInt = v_17.toInt - 1 := by rw [ev_20]; first | exact cm_sub ti_1 (by omega) (by omega) | (have k1 : (1 : Int32).toInt = 1 := ti_1; exact (bn_subI (by omega) (by omega)).trans (by omega))
        refine sg_iald hx hb hK hP 26 (by decide) 0 rfl rfl (i := v_20) (vp_in_iff.mpr ⟨by omega, by omega⟩) dX9_spread_32 ?_
        refine lv_topi (fun v_22 ev_22 => ?_)
        refine lv_iload_n hx hb dX9_spread_33 rfl (lv_at hl 2 rfl) ?_
        refine lv_iadd hx hb dX9_spread_34 ?_
        refine lv_topi (fun v_23 ev_23 => ?_)
        refine va_mmin hx hb (hml.trans hl.1.symm) hown (hts _ (List.mem_cons_of_mem _ mw_457)) (hts _ (List.mem_cons_of_mem _ mw_10)) (hts _ (List.mem_cons_of_mem _ mw_11)) (hts _ (List.mem_cons_of_mem _ mw_12)) (Nat.le_of_ble_eq_true rfl) (Nat.le_of_ble_eq_true rfl) (Nat.le_refl _) (Nat.le_refl _) dX9_spread_35 ?_
        refine lv_topi (fun v_24 ev_24 => ?_)
        have q_25 : (v_23.toInt < v_19.toInt ∧ v_24.toInt = v_23.toInt) ∨ (v_19.toInt ≤ v_23.toInt ∧ v_24.toInt = v_19.toInt) := by have z := bn_minI v_23 v_19; rw [← ev_24] at z; omega
        refine sg_iast hx hb hh hA hK hP hS 26 (by decide) 0 (fun _ => rfl) rfl (i := v_17) (x := v_24) (vp_in_iff.mpr ⟨by omega, by omega⟩) dX9_spread_38 (fun f_26 H locs ef_26 hP hS => ?_)
        have hI : sgI loX hiX f_26 := by rw [ef_26]; exact sgI.put hI 26 v_17.toNatClampNeg (bn_top _)
        have hF : sgK WkX9_spread f f_26 := sgK.put hF ef_26 (by rfl)
        obtain ⟨v_27, ev_27⟩ : ∃ z : Int32, z = y3_2 + 1 := ⟨_, rfl⟩
        have q_28 : v_27.toInt = y3_2.toInt + 1 := by rw [ev_27]; exact (bn_addc y3_2 1 (by decide) (by omega) (by omega))
        refine lv_iinc (v := v_27) (lv' := [(3, .int v_27), (0, .ref (h 25)), (1, .int x0), (2, .int x1)]) hx hb dX9_spread_39 hl (k := 3) rfl (by rw [ev_27]; rfl) (by decide) rfl (fun ls hl => ?_)
        refine lv_goto (tgt := 2) hx hb dX9_spread_42 (by decide) ?_
        exact ih_2 v_27 f_26 _ _ _ (hs.trans (((if_neg (Int.not_lt.mpr c_16)).trans (spl_e ev_17 (spl_e ev_19 (spl_e ev_20 (spl_e ev_22 (spl_e ev_23 (spl_e ev_24 (spl_e ef_26 (spl_e ev_27 rfl))))))))))) (by omega) ⟨by omega, by omega⟩ hI hF hP hS (lv_sub hl [1, 2, 3, 0] rfl)
  refine lv_iconst (v := 1) hx hb dX9_spread_0 ic_1 ?_
  refine lv_istore_n (lv' := [(3, .int 1), (0, .ref (h 25)), (1, .int x0), (2, .int x1)]) hx hb dX9_spread_1 rfl hl (by decide) rfl (fun ls hl => ?_)
  exact loop_2 61 1 f _ _ _ hs (by have kc0 : (1 : Int32).toInt = 1 := ti_1; omega) (by decide) hI hF hP hS (lv_sub hl [1, 2, 3, 0] rfl)

abbrev WkX9_pay : List (Nat × Nat × Option Nat) := [(8, 8, none), (9, 9, none), (26, 26, none)]
set_option maxHeartbeats 4000000 in
set_option maxRecDepth 100000 in
theorem kX9_pay (l : Launch) (D : va_G) (ca : Nat → ClassId) (za h : Nat → Nat) (hh : sgH 52 h) (f : sg_F) (L : sg_L) (Q : sg_Q) (hI : sgI loX hiX f) (x0 : Int32) (x1 : Int32) (b0 : 0 ≤ x0.toInt ∧ x0.toInt ≤ 2) (b1 : 0 ≤ x1.toInt ∧ x1.toInt ≤ 1) (sz : Nat) : Met l yX9_pay gwX9_pay { frames := 5, cells := 0, slots := 0, locals := 126 } (sgP D vwCl (tyX ca) 52 h (eX ca h) zcX za f L Q sz [.ref (h 25), .int x0, .int x1]) (sgQv D vwCl 52 h (eX ca h) sz (fun f1 L1 Q1 => ((sgI loX hiX f1 ∧ sgK WkX9_pay f f1 ∧ L1 = L ∧ Q1 = Q) ∧ (f1) = sX9_pay x0 x1 f L))) 0 0 (sgA 52 h sz) := by
  refine sg_ofWv (cc := cX9_pay) (maxL := 6) RX9 (by decide) rfl rfl (Nat.le_of_ble_eq_true rfl) ?_
  intro p e s m below meth cd Qz ls hx hb hml hown hts hK hZ hP hS hl hret
  have hA := sgY.self (n := 52) (h := h) (sz := s.heap.size)
  have hl : lv_has ls 6 [(0, .ref (h 25)), (1, .int x0), (2, .int x1)] := hl
  obtain ⟨H, hH⟩ : ∃ z : Heap, z = s.heap := ⟨_, rfl⟩
  obtain ⟨locs, hlo⟩ : ∃ z : List Loc, z = [] := ⟨_, rfl⟩
  have hP : va_P D vwCl (sgw 52 h (eX ca h) f L Q) H := by rw [hH]; exact hP
  have hS : va_S (sgA 52 h s.heap.size) s.heap H locs := by rw [hH, hlo]; exact hS
  suffices hgo : W p l e ({ frames := 5, cells := 0, slots := 0, locals := 126 }) s m ([.ref (h 25), .int x0, .int x1] : List Value).toArray below meth cd H locs 0 0 Qz (F0 m 0 ls []) by rw [hH, hlo] at hgo; exact hgo
  clear hH hlo
  obtain ⟨sp, hsp⟩ : ∃ z : sg_F, z = sX9_pay x0 x1 f L := ⟨_, rfl⟩
  have hs : sp = sX9_pay x0 x1 f L := hsp
  have hF : sgK WkX9_pay f f := sgK.rf
  have loop_48 : ∀ (n_48 : Nat) (y4_48 : Int32) (fp_48 : sg_F) (H : Heap) (locs : List Loc) (ls : Array Slot), sp = sX9_pay_l48 x0 x1 n_48 y4_48 fp_48 L → y4_48.toInt - (-1) < (n_48 : Int) → (-1) ≤ y4_48.toInt ∧ y4_48.toInt ≤ 20 → sgI loX hiX fp_48 → sgK WkX9_pay f fp_48 → va_P D vwCl (sgw 52 h (eX ca h) fp_48 L Q) H → va_S (sgA 52 h s.heap.size) s.heap H locs → lv_has ls 6 [(0, .ref (h 25)), (1, .int x0), (2, .int x1), (4, .int y4_48)] → W p l e ({ frames := 5, cells := 0, slots := 0, locals := 126 }) s m ([.ref (h 25), .int x0, .int x1] : List Value).toArray below meth cd H locs 0 0 Qz (F0 m 48 ls []) := by
    intro n_48
    induction n_48 with
    | zero => intro y4_48 fp_48 H locs ls hs hm_48 hy0_48 hI hF hP hS hl; exact absurd hm_48 (by omega)
    | succ n_48 ih_48 =>
      have blk_112 : ∀ (y4_112 : Int32) (fp_112 : sg_F) (H : Heap) (locs : List Loc) (ls : Array Slot), sp = sX9_pay_b112 (sX9_pay_l48 x0 x1 n_48) x0 x1 y4_112 fp_112 L → y4_112.toInt - (-1) < ((n_48 + 1 : Nat) : Int) → 0 ≤ y4_112.toInt ∧ y4_112.toInt ≤ 20 → sgI loX hiX fp_112 → sgK WkX9_pay f fp_112 → va_P D vwCl (sgw 52 h (eX ca h) fp_112 L Q) H → va_S (sgA 52 h s.heap.size) s.heap H locs → lv_has ls 6 [(0, .ref (h 25)), (1, .int x0), (2, .int x1), (4, .int y4_112)] → W p l e ({ frames := 5, cells := 0, slots := 0, locals := 126 }) s m ([.ref (h 25), .int x0, .int x1] : List Value).toArray below meth cd H locs 0 0 Qz (F0 m 112 ls []) := by
        intro y4_112 fp_112 H locs ls hs hm_48 hy0_112 hI hF hP hS hl
        obtain ⟨v_1, ev_1⟩ : ∃ z : Int32, z = y4_112 + (-1) := ⟨_, rfl⟩
        have q_2 : v_1.toInt = y4_112.toInt + (-1) := by rw [ev_1]; exact (bn_addc y4_112 (-1) (by decide) (by omega) (by omega))
        refine lv_iinc (v := v_1) (lv' := [(4, .int v_1), (0, .ref (h 25)), (1, .int x0), (2, .int x1)]) hx hb dX9_pay_112 hl (k := 3) rfl (by rw [ev_1]; rfl) (by decide) rfl (fun ls hl => ?_)
        refine lv_goto (tgt := 48) hx hb dX9_pay_115 (by decide) ?_
        exact ih_48 v_1 fp_112 _ _ _ (hs.trans ((spl_e ev_1 rfl))) (by omega) ⟨by omega, by omega⟩ hI hF hP hS (lv_sub hl [1, 2, 3, 0] rfl)
      have loop_56 : ∀ (n_56 : Nat) (y4_56 : Int32) (y5_56 : Int32) (fp_56 : sg_F) (H : Heap) (locs : List Loc) (ls : Array Slot), sp = sX9_pay_l56 (sX9_pay_l48 x0 x1 n_48) x0 x1 n_56 y4_56 y5_56 fp_56 L → 61 - y5_56.toInt < (n_56 : Int) → y4_56.toInt - (-1) < ((n_48 + 1 : Nat) : Int) → 0 ≤ y4_56.toInt ∧ y4_56.toInt ≤ 20 → 0 ≤ y5_56.toInt ∧ y5_56.toInt ≤ 61 → sgI loX hiX fp_56 → sgK WkX9_pay f fp_56 → va_P D vwCl (sgw 52 h (eX ca h) fp_56 L Q) H → va_S (sgA 52 h s.heap.size) s.heap H locs → lv_has ls 6 [(0, .ref (h 25)), (1, .int x0), (2, .int x1), (4, .int y4_56), (5, .int y5_56)] → W p l e ({ frames := 5, cells := 0, slots := 0, locals := 126 }) s m ([.ref (h 25), .int x0, .int x1] : List Value).toArray below meth cd H locs 0 0 Qz (F0 m 56 ls []) := by
        intro n_56
        induction n_56 with
        | zero => intro y4_56 y5_56 fp_56 H locs ls hs hm_56 hm_48 hy0_56 hy1_56 hI hF hP hS hl; exact absurd hm_56 (by omega)
        | succ n_56 ih_56 =>
          intro y4_56 y5_56 fp_56 H locs ls hs hm_56 hm_48 hy0_56 hy1_56 hI hF hP hS hl
          have hs : sp = sX9_pay_h56 (sX9_pay_l48 x0 x1 n_48) x0 x1 (sX9_pay_l56 (sX9_pay_l48 x0 x1 n_48) x0 x1 n_56) y4_56 y5_56 fp_56 L := hs
          refine lv_iload hx hb dX9_pay_56 (lv_at hl 4 rfl) ?_
          refine lv_bipush (v := 60) hx hb dX9_pay_58 bp_60 ?_
          refine lv_icmp_gt (tgt := 91) hx hb dX9_pay_60 (by decide) (fun c => ?_) (fun c => ?_)
          · skip
            have c_3 : 60 < y5_56.toInt := (by first | exact (cm_lt0 ti_60 c) | (have z := bn_lt c; have k1 : (60 : Int32).toInt = 60 := ti_60; omega))
            replace hs := hs.trans ((if_pos c_3).trans rfl)
            refine lv_iload_n hx hb dX9_pay_91 rfl (lv_at hl 2 rfl) ?_
            refine lv_if_eq (tgt := 112) hx hb dX9_pay_92 (by decide) (fun c => ?_) (fun c => ?_)
            · skip
              have c_5 : x1.toInt = 0 := (by first | exact (cm_eq1 ti_0 c) | (have z := Int32.toInt_inj.mpr c; have k1 : (0 : Int32).toInt = 0 := ti_0; omega))
              exact blk_112 y4_56 fp_56 _ _ _ (hs.trans ((if_pos c_5).trans rfl)) hm_48 hy0_56 hI hF hP hS (lv_sub hl [0, 1, 2, 3] rfl)
            · skip
              have c_6 : x1.toInt ≠ 0 := (by first | exact (cm_ne1 ti_0 c) | (have z := bn_ne c; have k1 : (0 : Int32).toInt = 0 := ti_0; omega))
              refine lv_aload_n hx hb dX9_pay_95 rfl (lv_at hl 0 rfl) ?_
              refine lv_iload hx hb dX9_pay_96 (lv_at hl 3 rfl) ?_
              refine lv_bipush (v := 61) hx hb dX9_pay_98 bp_61 ?_
              refine lv_imul hx hb dX9_pay_100 ?_
              refine lv_topi (fun v_7 ev_7 => ?_)
              have q_8 : v_7.toInt = y4_56.toInt * 61 := by rw [ev_7]; exact bn_mulI (by decide) (by omega) (by omega)
              refine lv_aload_n hx hb dX9_pay_101 rfl (lv_at hl 0 rfl) ?_
              refine sl_gX_25_0_9 hx hb hts hown hK hP dX9_pay_102 ?_
              refine lv_iload_n hx hb dX9_pay_105 rfl (lv_at hl 1 rfl) ?_
              refine sg_calli (va_runV (As := [.int x0]) (rest := [.int v_7, .ref (h 25)]) ⟨hx, hb, hml, hown, hts⟩ (kX0_priceOf l D ca za h hh fp_56 L Q hI x0 b0 H.size) (sl_c0_priceOf_0_0_0_0_9 hts ⟨Nat.le_of_ble_eq_true rfl, Nat.le_of_ble_eq_true rfl⟩) (sl_vX_1 hA hK hP hS hZ) rfl rfl hl.1 rfl (lv_room (Nat.le_of_ble_eq_true rfl)) dX9_pay_106 ⟨Nat.le_refl _, Nat.le_refl _⟩) hA hS (fun r_12 f_9 L_10 Q_11 H locs hq hP hS => ?_)
              obtain ⟨⟨ef9, eL9, eQ9⟩, hq, u_13⟩ := hq
              rw [ef9, eL9, eQ9] at hP; clear ef9 eL9 eQ9
              refine sg_callv (va_runV (As := [.int v_7, .int r_12]) (rest := []) ⟨hx, hb, hml, hown, hts⟩ (kX9_spread l D ca za h hh fp_56 L Q hI v_7 r_12 ⟨by omega, by omega⟩ ⟨by omega, by omega⟩ H.size) (sl_c9_spread_1_0_0_21_9 hts ⟨Nat.le_of_ble_eq_true rfl, Nat.le_of_ble_eq_true rfl⟩) (sl_vX_25 hA hK hP hS hZ) rfl rfl hl.1 rfl (lv_room (Nat.le_of_ble_eq_true rfl)) dX9_pay_109 ⟨Nat.le_refl _, Nat.le_refl _⟩) hA hS (fun f_14 L_15 Q_16 H locs hq hP hS => ?_)
              obtain ⟨⟨hI, hk_f_14, eL9, eQ9⟩, u_17⟩ := hq
              rw [eL9, eQ9] at hP; clear eL9 eQ9
              have hF : sgK WkX9_pay f f_14 := sgK.tr hF hk_f_14 (by decide +kernel)
              exact blk_112 y4_56 f_14 _ _ _ (hs.trans ((if_neg c_6).trans (spl_e ev_7 (spl_e u_13 (spl_e u_17 rfl))))) hm_48 hy0_56 hI hF hP hS (lv_sub hl [0, 1, 2, 3] rfl)
          · skip
            have c_4 : y5_56.toInt ≤ 60 := (by first | exact (cm_nlt0 ti_60 c) | (have z := bn_nlt c; have k1 : (60 : Int32).toInt = 60 := ti_60; omega))
            refine lv_aload_n hx hb dX9_pay_63 rfl (lv_at hl 0 rfl) ?_
            refine sl_gX_25_2_9 hx hb hts hown hK hP dX9_pay_64 ?_
            refine lv_iload hx hb dX9_pay_67 (lv_at hl 3 rfl) ?_
            refine lv_bipush (v := 61) hx hb dX9_pay_69 bp_61 ?_
            refine lv_imul hx hb dX9_pay_71 ?_
            refine lv_topi (fun v_18 ev_18 => ?_)
            have q_19 : v_18.toInt = y4_56.toInt * 61 := by rw [ev_18]; exact bn_mulI (by decide) (by omega) (by omega)
            refine lv_iload hx hb dX9_pay_72 (lv_at hl 4 rfl) ?_
            refine lv_iadd hx hb dX9_pay_74 ?_
            refine lv_topi (fun v_20 ev_20 => ?_)
            have q_21 : v_20.toInt = v_18.toInt + y5_56.toInt := by rw [ev_20]; first | exact bn_addI (by omega) (by omega) | exact (bn_addI (by omega) (by omega)).trans (by omega)
            refine lv_aload_n hx hb dX9_pay_75 rfl (lv_at hl 0 rfl) ?_
            refine lv_iload_n hx hb dX9_pay_76 rfl (lv_at hl 1 rfl) ?_
            refine lv_iload hx hb dX9_pay_77 (lv_at hl 3 rfl) ?_
            refine lv_iload hx hb dX9_pay_79 (lv_at hl 4 rfl) ?_
            refine sg_calli (va_runV (As := [.int x0, .int y4_56, .int y5_56]) (rest := [.int v_20, .ref (h 26)]) ⟨hx, hb, hml, hown, hts⟩ (kX9_unturned l D ca za h hh fp_56 L Q hI x0 y4_56 y5_56 b0 hy0_56 ⟨by omega, by omega⟩ H.size) (sl_c9_unturned_4_0_0_102_9 hts ⟨Nat.le_of_ble_eq_true rfl, Nat.le_of_ble_eq_true rfl⟩) (sl_vX_25 hA hK hP hS hZ) rfl rfl hl.1 rfl (lv_room (Nat.le_of_ble_eq_true rfl)) dX9_pay_81 ⟨Nat.le_refl _, Nat.le_refl _⟩) hA hS (fun r_25 f_22 L_23 Q_24 H locs hq hP hS => ?_)
            obtain ⟨⟨hI, hk_f_22, eL9, eQ9⟩, hq, u_26⟩ := hq
            rw [eL9, eQ9] at hP; clear eL9 eQ9
            have hF : sgK WkX9_pay f f_22 := sgK.tr hF hk_f_22 (by decide +kernel)
            refine sg_iast hx hb hh hA hK hP hS 26 (by decide) 0 (fun _ => rfl) rfl (i := v_20) (x := r_25) (vp_in_iff.mpr ⟨by omega, by omega⟩) dX9_pay_84 (fun f_27 H locs ef_27 hP hS => ?_)
            have hI : sgI loX hiX f_27 := by rw [ef_27]; exact sgI.put hI 26 v_20.toNatClampNeg (bn_top _)
            have hF : sgK WkX9_pay f f_27 := sgK.put hF ef_27 (by rfl)
            obtain ⟨v_28, ev_28⟩ : ∃ z : Int32, z = y5_56 + 1 := ⟨_, rfl⟩
            have q_29 : v_28.toInt = y5_56.toInt + 1 := by rw [ev_28]; exact (bn_addc y5_56 1 (by decide) (by omega) (by omega))
            refine lv_iinc (v := v_28) (lv' := [(5, .int v_28), (0, .ref (h 25)), (1, .int x0), (2, .int x1), (4, .int y4_56)]) hx hb dX9_pay_85 hl (k := 4) rfl (by rw [ev_28]; rfl) (by decide) rfl (fun ls hl => ?_)
            refine lv_goto (tgt := 56) hx hb dX9_pay_88 (by decide) ?_
            exact ih_56 y4_56 v_28 f_27 _ _ _ (hs.trans (((if_neg (Int.not_lt.mpr c_4)).trans (spl_e ev_18 (spl_e ev_20 (spl2_e u_26 (spl_e ef_27 (spl_e ev_28 rfl)))))))) (by omega) hm_48 hy0_56 ⟨by omega, by omega⟩ hI hF hP hS (lv_sub hl [1, 2, 3, 4, 0] rfl)
      intro y4_48 fp_48 H locs ls hs hm_48 hy0_48 hI hF hP hS hl
      have hs : sp = sX9_pay_h48 x0 x1 (sX9_pay_l48 x0 x1 n_48) y4_48 fp_48 L := hs
      refine lv_iload hx hb dX9_pay_48 (lv_at hl 3 rfl) ?_
      refine lv_if_lt (tgt := 118) hx hb dX9_pay_50 (by decide) (fun c => ?_) (fun c => ?_)
      · skip
        have c_30 : y4_48.toInt < 0 := (by first | exact (cm_lt1 ti_0 c) | (have z := bn_lt c; have k1 : (0 : Int32).toInt = 0 := ti_0; omega))
        exact hret _ _ _ _ fp_48 L Q dX9_pay_118 hP hS ⟨⟨hI, hF, rfl, rfl⟩, (Eq.trans (Eq.symm (hs.trans (((if_pos c_30).trans rfl)))) hsp)⟩
      · skip
        have c_31 : 0 ≤ y4_48.toInt := (by first | exact (cm_nlt1 ti_0 c) | (have z := bn_nlt c; have k1 : (0 : Int32).toInt = 0 := ti_0; omega))
        refine lv_iconst (v := 0) hx hb dX9_pay_53 ic_0 ?_
        refine lv_istore (lv' := [(5, .int 0), (0, .ref (h 25)), (1, .int x0), (2, .int x1), (4, .int y4_48)]) hx hb dX9_pay_54 hl (by decide) rfl (fun ls hl => ?_)
        exact loop_56 62 y4_48 0 fp_48 _ _ _ (hs.trans (((if_neg (Int.not_lt.mpr c_31)).trans rfl))) (by have kc1 : (0 : Int32).toInt = 0 := ti_0; omega) (by have kc1 : (0 : Int32).toInt = 0 := ti_0; omega) ⟨by omega, by omega⟩ (by decide) hI hF hP hS (lv_sub hl [1, 2, 3, 4, 0] rfl)
  have loop_14 : ∀ (n_14 : Nat) (y3_14 : Int32) (y4_14 : Int32) (fp_14 : sg_F) (H : Heap) (locs : List Loc) (ls : Array Slot), sp = sX9_pay_l14 x0 x1 n_14 y3_14 y4_14 fp_14 L → 61 - y4_14.toInt < (n_14 : Int) → 0 ≤ y3_14.toInt ∧ y3_14.toInt ≤ 1281 → 0 ≤ y4_14.toInt ∧ y4_14.toInt ≤ 61 → sgI loX hiX fp_14 → sgK WkX9_pay f fp_14 → va_P D vwCl (sgw 52 h (eX ca h) fp_14 L Q) H → va_S (sgA 52 h s.heap.size) s.heap H locs → lv_has ls 6 [(0, .ref (h 25)), (1, .int x0), (2, .int x1), (3, .int y3_14), (4, .int y4_14)] → W p l e ({ frames := 5, cells := 0, slots := 0, locals := 126 }) s m ([.ref (h 25), .int x0, .int x1] : List Value).toArray below meth cd H locs 0 0 Qz (F0 m 14 ls []) := by
    intro n_14
    induction n_14 with
    | zero => intro y3_14 y4_14 fp_14 H locs ls hs hm_14 hy0_14 hy1_14 hI hF hP hS hl; exact absurd hm_14 (by omega)
    | succ n_14 ih_14 =>
      intro y3_14 y4_14 fp_14 H locs ls hs hm_14 hy0_14 hy1_14 hI hF hP hS hl
      have hs : sp = sX9_pay_h14 x0 x1 (sX9_pay_l14 x0 x1 n_14) y3_14 y4_14 fp_14 L := hs
      refine lv_iload hx hb dX9_pay_14 (lv_at hl 4 rfl) ?_
      refine lv_bipush (v := 60) hx hb dX9_pay_16 bp_60 ?_
      refine lv_icmp_gt (tgt := 37) hx hb dX9_pay_18 (by decide) (fun c => ?_) (fun c => ?_)
      · skip
        have c_32 : 60 < y4_14.toInt := (by first | exact (cm_lt0 ti_60 c) | (have z := bn_lt c; have k1 : (60 : Int32).toInt = 60 := ti_60; omega))
        refine lv_aload_n hx hb dX9_pay_37 rfl (lv_at hl 0 rfl) ?_
        refine sl_gX_25_1_9 hx hb hts hown hK hP dX9_pay_38 ?_
        refine sl_gX_10_2_9 (v := (fp_14 10 2)) hx hb hts hown hK hP rfl dX9_pay_41 ?_
        refine lv_topi (fun v_34 ev_34 => ?_)
        have q_35 : 0 ≤ v_34.toInt ∧ v_34.toInt ≤ 21 := by rw [ev_34]; exact hI 10 2
        refine lv_iconst (v := 1) hx hb dX9_pay_44 ic_1 ?_
        refine lv_isub hx hb dX9_pay_45 ?_
        refine lv_topi (fun v_36 ev_36 => ?_)
        have q_37 : v_36.toInt = v_34.toInt - 1 := by rw [ev_36]; first | exact cm_sub ti_1 (by omega) (by omega) | (have k1 : (1 : Int32).toInt = 1 := ti_1; exact (bn_subI (by omega) (by omega)).trans (by omega))
        refine lv_istore (lv' := [(4, .int v_36), (0, .ref (h 25)), (1, .int x0), (2, .int x1), (3, .int y3_14)]) hx hb dX9_pay_46 hl (by decide) rfl (fun ls hl => ?_)
        exact loop_48 22 v_36 fp_14 _ _ _ (hs.trans (((if_pos c_32).trans (spl_e ev_34 (spl_e ev_36 rfl))))) (by omega) ⟨by omega, by omega⟩ hI hF hP hS (lv_sub hl [1, 2, 3, 0] rfl)
      · skip
        have c_33 : y4_14.toInt ≤ 60 := (by first | exact (cm_nlt0 ti_60 c) | (have z := bn_nlt c; have k1 : (60 : Int32).toInt = 60 := ti_60; omega))
        refine lv_aload_n hx hb dX9_pay_21 rfl (lv_at hl 0 rfl) ?_
        refine sl_gX_25_2_9 hx hb hts hown hK hP dX9_pay_22 ?_
        refine lv_iload_n hx hb dX9_pay_25 rfl (lv_at hl 3 rfl) ?_
        refine lv_iload hx hb dX9_pay_26 (lv_at hl 4 rfl) ?_
        refine lv_iadd hx hb dX9_pay_28 ?_
        refine lv_topi (fun v_38 ev_38 => ?_)
        have q_39 : v_38.toInt = y3_14.toInt + y4_14.toInt := by rw [ev_38]; first | exact bn_addI (by omega) (by omega) | exact (bn_addI (by omega) (by omega)).trans (by omega)
        refine lv_iconst (v := 0) hx hb dX9_pay_29 ic_0 ?_
        refine sg_iast hx hb hh hA hK hP hS 26 (by decide) 0 (fun _ => rfl) rfl (i := v_38) (x := 0) (vp_in_iff.mpr ⟨by omega, by omega⟩) dX9_pay_30 (fun f_40 H locs ef_40 hP hS => ?_)
        have hI : sgI loX hiX f_40 := by rw [ef_40]; exact sgI.put hI 26 v_38.toNatClampNeg (bn_top _)
        have hF : sgK WkX9_pay f f_40 := sgK.put hF ef_40 (by rfl)
        obtain ⟨v_41, ev_41⟩ : ∃ z : Int32, z = y4_14 + 1 := ⟨_, rfl⟩
        have q_42 : v_41.toInt = y4_14.toInt + 1 := by rw [ev_41]; exact (bn_addc y4_14 1 (by decide) (by omega) (by omega))
        refine lv_iinc (v := v_41) (lv' := [(4, .int v_41), (0, .ref (h 25)), (1, .int x0), (2, .int x1), (3, .int y3_14)]) hx hb dX9_pay_31 hl (k := 4) rfl (by rw [ev_41]; rfl) (by decide) rfl (fun ls hl => ?_)
        refine lv_goto (tgt := 14) hx hb dX9_pay_34 (by decide) ?_
        exact ih_14 y3_14 v_41 f_40 _ _ _ (hs.trans (((if_neg (Int.not_lt.mpr c_33)).trans (spl_e ev_38 (spl_e ef_40 (spl_e ev_41 rfl)))))) (by omega) hy0_14 ⟨by omega, by omega⟩ hI hF hP hS (lv_sub hl [1, 2, 3, 4, 0] rfl)
  refine lv_aload_n hx hb dX9_pay_0 rfl (lv_at hl 0 rfl) ?_
  refine sl_gX_25_1_9 hx hb hts hown hK hP dX9_pay_1 ?_
  refine sl_gX_10_2_9 (v := (f 10 2)) hx hb hts hown hK hP rfl dX9_pay_4 ?_
  refine lv_topi (fun v_43 ev_43 => ?_)
  have q_44 : 0 ≤ v_43.toInt ∧ v_43.toInt ≤ 21 := by rw [ev_43]; exact hI 10 2
  refine lv_bipush (v := 61) hx hb dX9_pay_7 bp_61 ?_
  refine lv_imul hx hb dX9_pay_9 ?_
  refine lv_topi (fun v_45 ev_45 => ?_)
  have q_46 : v_45.toInt = v_43.toInt * 61 := by rw [ev_45]; exact bn_mulI (by decide) (by omega) (by omega)
  refine lv_istore_n (lv' := [(3, .int v_45), (0, .ref (h 25)), (1, .int x0), (2, .int x1)]) hx hb dX9_pay_10 rfl hl (by decide) rfl (fun ls hl => ?_)
  refine lv_iconst (v := 0) hx hb dX9_pay_11 ic_0 ?_
  refine lv_istore (lv' := [(4, .int 0), (3, .int v_45), (0, .ref (h 25)), (1, .int x0), (2, .int x1)]) hx hb dX9_pay_12 hl (by decide) rfl (fun ls hl => ?_)
  exact loop_14 62 v_45 0 f _ _ _ (hs.trans ((spl_e ev_43 (spl_e ev_45 rfl)))) (by have kc1 : (0 : Int32).toInt = 0 := ti_0; omega) ⟨by omega, by omega⟩ (by decide) hI hF hP hS (lv_sub hl [2, 3, 4, 1, 0] rfl)

abbrev WkX9_leastSetting : List (Nat × Nat × Option Nat) := [(8, 8, none), (9, 9, none)]
set_option maxHeartbeats 4000000 in
set_option maxRecDepth 100000 in
theorem kX9_leastSetting (l : Launch) (D : va_G) (ca : Nat → ClassId) (za h : Nat → Nat) (hh : sgH 52 h) (f : sg_F) (L : sg_L) (Q : sg_Q) (hI : sgI loX hiX f) (x0 : Int32) (x1 : Int32) (x2 : Int32) (b0 : 0 ≤ x0.toInt ∧ x0.toInt ≤ 2) (b1 : 0 ≤ x1.toInt ∧ x1.toInt ≤ 20) (b2 : 0 ≤ x2.toInt ∧ x2.toInt ≤ 60) (sz : Nat) : Met l yX9_leastSetting gwX9_leastSetting { frames := 5, cells := 0, slots := 0, locals := 126 } (sgP D vwCl (tyX ca) 52 h (eX ca h) zcX za f L Q sz [.ref (h 25), .int x0, .int x1, .int x2]) (sgQi D vwCl 52 h (eX ca h) sz (fun r f1 L1 Q1 => ((sgI loX hiX f1 ∧ sgK WkX9_leastSetting f f1 ∧ L1 = L ∧ Q1 = Q) ∧ (0 ≤ r.toInt ∧ r.toInt ≤ 60) ∧ (r, f1) = sX9_leastSetting x0 x1 x2 f L))) 0 0 (sgA 52 h sz) := by
  refine sg_ofWi (cc := cX9_leastSetting) (maxL := 7) RX9 (by decide) rfl rfl (Nat.le_of_ble_eq_true rfl) ?_
  intro p e s m below meth cd Qz ls hx hb hml hown hts hK hZ hP hS hl hret
  have hA := sgY.self (n := 52) (h := h) (sz := s.heap.size)
  have hl : lv_has ls 7 [(0, .ref (h 25)), (1, .int x0), (2, .int x1), (3, .int x2)] := hl
  obtain ⟨H, hH⟩ : ∃ z : Heap, z = s.heap := ⟨_, rfl⟩
  obtain ⟨locs, hlo⟩ : ∃ z : List Loc, z = [] := ⟨_, rfl⟩
  have hP : va_P D vwCl (sgw 52 h (eX ca h) f L Q) H := by rw [hH]; exact hP
  have hS : va_S (sgA 52 h s.heap.size) s.heap H locs := by rw [hH, hlo]; exact hS
  suffices hgo : W p l e ({ frames := 5, cells := 0, slots := 0, locals := 126 }) s m ([.ref (h 25), .int x0, .int x1, .int x2] : List Value).toArray below meth cd H locs 0 0 Qz (F0 m 0 ls []) by rw [hH, hlo] at hgo; exact hgo
  clear hH hlo
  obtain ⟨sp, hsp⟩ : ∃ z : Int32 × sg_F, z = sX9_leastSetting x0 x1 x2 f L := ⟨_, rfl⟩
  have hs : sp = sX9_leastSetting x0 x1 x2 f L := hsp
  have hF : sgK WkX9_leastSetting f f := sgK.rf
  have loop_26 : ∀ (n_26 : Nat) (y4_26 : Int32) (y5_26 : Int32) (y6_26 : Int32) (fp_26 : sg_F) (H : Heap) (locs : List Loc) (ls : Array Slot), sp = sX9_leastSetting_l26 x0 x1 x2 n_26 y4_26 y5_26 y6_26 fp_26 L → 61 - y6_26.toInt < (n_26 : Int) → 0 ≤ y4_26.toInt ∧ y4_26.toInt ≤ 99 → 0 ≤ y6_26.toInt ∧ y6_26.toInt ≤ 61 → sgI loX hiX fp_26 → sgK WkX9_leastSetting f fp_26 → va_P D vwCl (sgw 52 h (eX ca h) fp_26 L Q) H → va_S (sgA 52 h s.heap.size) s.heap H locs → lv_has ls 7 [(0, .ref (h 25)), (1, .int x0), (2, .int x1), (3, .int x2), (4, .int y4_26), (5, .int y5_26), (6, .int y6_26)] → W p l e ({ frames := 5, cells := 0, slots := 0, locals := 126 }) s m ([.ref (h 25), .int x0, .int x1, .int x2] : List Value).toArray below meth cd H locs 0 0 Qz (F0 m 26 ls []) := by
    intro n_26
    induction n_26 with
    | zero => intro y4_26 y5_26 y6_26 fp_26 H locs ls hs hm_26 hy0_26 hy1_26 hI hF hP hS hl; exact absurd hm_26 (by omega)
    | succ n_26 ih_26 =>
      intro y4_26 y5_26 y6_26 fp_26 H locs ls hs hm_26 hy0_26 hy1_26 hI hF hP hS hl
      have hs : sp = sX9_leastSetting_h26 x0 x1 x2 (sX9_leastSetting_l26 x0 x1 x2 n_26) y4_26 y5_26 y6_26 fp_26 L := hs
      refine lv_iload hx hb dX9_leastSetting_26 (lv_at hl 6 rfl) ?_
      refine lv_bipush (v := 60) hx hb dX9_leastSetting_28 bp_60 ?_
      refine lv_icmp_gt (tgt := 66) hx hb dX9_leastSetting_30 (by decide) (fun c => ?_) (fun c => ?_)
      · skip
        have c_1 : 60 < y6_26.toInt := (by first | exact (cm_lt0 ti_60 c) | (have z := bn_lt c; have k1 : (60 : Int32).toInt = 60 := ti_60; omega))
        refine lv_iload_n hx hb dX9_leastSetting_66 rfl (lv_at hl 3 rfl) ?_
        exact hret _ _ _ _ (x2) fp_26 L Q dX9_leastSetting_67 hP hS ⟨⟨hI, hF, rfl, rfl⟩, ⟨by omega, by omega⟩, (Eq.trans (Eq.symm (hs.trans (((if_pos c_1).trans rfl)))) hsp)⟩
      · skip
        have c_2 : y6_26.toInt ≤ 60 := (by first | exact (cm_nlt0 ti_60 c) | (have z := bn_nlt c; have k1 : (60 : Int32).toInt = 60 := ti_60; omega))
        refine lv_iload hx hb dX9_leastSetting_33 (lv_at hl 6 rfl) ?_
        refine lv_iload_n hx hb dX9_leastSetting_35 rfl (lv_at hl 3 rfl) ?_
        refine lv_isub hx hb dX9_leastSetting_36 ?_
        refine lv_topi (fun v_3 ev_3 => ?_)
        have q_4 : v_3.toInt = y6_26.toInt - x2.toInt := by rw [ev_3]; first | exact bn_subI (by omega) (by omega) | exact (bn_subI (by omega) (by omega)).trans (by omega)
        refine va_mabs hx hb (hml.trans hl.1.symm) hown (hts _ (List.mem_cons_of_mem _ mw_400)) (hts _ (List.mem_cons_of_mem _ mw_90)) (hts _ (List.mem_cons_of_mem _ mw_11)) (hts _ (List.mem_cons_of_mem _ mw_91)) (Nat.le_of_ble_eq_true rfl) (Nat.le_of_ble_eq_true rfl) (Nat.le_refl _) (Nat.le_refl _) dX9_leastSetting_37 ?_
        refine lv_topi (fun v_5 ev_5 => ?_)
        have q_6 : (0 ≤ v_3.toInt ∧ v_5.toInt = v_3.toInt) ∨ (v_3.toInt < 0 ∧ v_5.toInt = -v_3.toInt) := by rw [ev_5]; exact bn_absI (by omega)
        refine lv_iload hx hb dX9_leastSetting_40 (lv_at hl 4 rfl) ?_
        refine lv_imul hx hb dX9_leastSetting_42 ?_
        refine lv_topi (fun v_7 ev_7 => ?_)
        refine lv_aload_n hx hb dX9_leastSetting_43 rfl (lv_at hl 0 rfl) ?_
        refine lv_iload_n hx hb dX9_leastSetting_44 rfl (lv_at hl 1 rfl) ?_
        refine lv_iload_n hx hb dX9_leastSetting_45 rfl (lv_at hl 2 rfl) ?_
        refine lv_iload hx hb dX9_leastSetting_46 (lv_at hl 6 rfl) ?_
        refine sg_calli (va_runV (As := [.int x0, .int x1, .int y6_26]) (rest := [.int v_7]) ⟨hx, hb, hml, hown, hts⟩ (kX9_unturned l D ca za h hh fp_26 L Q hI x0 x1 y6_26 b0 b1 ⟨by omega, by omega⟩ H.size) (sl_c9_unturned_4_0_0_102_9 hts ⟨Nat.le_of_ble_eq_true rfl, Nat.le_of_ble_eq_true rfl⟩) (sl_vX_25 hA hK hP hS hZ) rfl rfl hl.1 rfl (lv_room (Nat.le_of_ble_eq_true rfl)) dX9_leastSetting_48 ⟨Nat.le_refl _, Nat.le_refl _⟩) hA hS (fun r_11 f_8 L_9 Q_10 H locs hq hP hS => ?_)
        obtain ⟨⟨hI, hk_f_8, eL9, eQ9⟩, hq, u_12⟩ := hq
        rw [eL9, eQ9] at hP; clear eL9 eQ9
        have hF : sgK WkX9_leastSetting f f_8 := sgK.tr hF hk_f_8 (by decide +kernel)
        refine lv_iadd hx hb dX9_leastSetting_51 ?_
        refine lv_topi (fun v_13 ev_13 => ?_)
        replace hs := hs.trans ((if_neg (Int.not_lt.mpr c_2)).trans (spl_e ev_3 (spl_e ev_5 (spl_e ev_7 (spl2_e u_12 (spl_e ev_13 rfl))))))
        refine lv_iload hx hb dX9_leastSetting_52 (lv_at hl 5 rfl) ?_
        refine lv_icmp_ne (tgt := 60) hx hb dX9_leastSetting_54 (by decide) (fun c => ?_) (fun c => ?_)
        · skip
          have c_14 : v_13.toInt ≠ y5_26.toInt := (by first | exact (bn_ne c) | (have z := bn_ne c; omega))
          obtain ⟨v_16, ev_16⟩ : ∃ z : Int32, z = y6_26 + 1 := ⟨_, rfl⟩
          have q_17 : v_16.toInt = y6_26.toInt + 1 := by rw [ev_16]; exact (bn_addc y6_26 1 (by decide) (by omega) (by omega))
          refine lv_iinc (v := v_16) (lv' := [(6, .int v_16), (0, .ref (h 25)), (1, .int x0), (2, .int x1), (3, .int x2), (4, .int y4_26), (5, .int y5_26)]) hx hb dX9_leastSetting_60 hl (k := 6) rfl (by rw [ev_16]; rfl) (by decide) rfl (fun ls hl => ?_)
          refine lv_goto (tgt := 26) hx hb dX9_leastSetting_63 (by decide) ?_
          exact ih_26 y4_26 y5_26 v_16 f_8 _ _ _ (hs.trans ((if_neg c_14).trans (spl_e ev_16 rfl))) (by omega) hy0_26 ⟨by omega, by omega⟩ hI hF hP hS (lv_sub hl [1, 2, 3, 4, 5, 6, 0] rfl)
        · skip
          have c_15 : v_13.toInt = y5_26.toInt := (by first | exact (Int32.toInt_inj.mpr c) | (have z := Int32.toInt_inj.mpr c; omega))
          refine lv_iload hx hb dX9_leastSetting_57 (lv_at hl 6 rfl) ?_
          exact hret _ _ _ _ (y6_26) f_8 L Q dX9_leastSetting_59 hP hS ⟨⟨hI, hF, rfl, rfl⟩, ⟨by omega, by omega⟩, (Eq.trans (Eq.symm (hs.trans ((if_pos c_15).trans rfl))) hsp)⟩
  refine lv_aload_n hx hb dX9_leastSetting_0 rfl (lv_at hl 0 rfl) ?_
  refine sl_gX_25_0_9 hx hb hts hown hK hP dX9_leastSetting_1 ?_
  refine lv_iload_n hx hb dX9_leastSetting_4 rfl (lv_at hl 1 rfl) ?_
  refine sg_calli (va_runV (As := [.int x0]) (rest := []) ⟨hx, hb, hml, hown, hts⟩ (kX0_priceOf l D ca za h hh f L Q hI x0 b0 H.size) (sl_c0_priceOf_0_0_0_0_9 hts ⟨Nat.le_of_ble_eq_true rfl, Nat.le_of_ble_eq_true rfl⟩) (sl_vX_1 hA hK hP hS hZ) rfl rfl hl.1 rfl (lv_room (Nat.le_of_ble_eq_true rfl)) dX9_leastSetting_5 ⟨Nat.le_refl _, Nat.le_refl _⟩) hA hS (fun r_21 f_18 L_19 Q_20 H locs hq hP hS => ?_)
  obtain ⟨⟨ef9, eL9, eQ9⟩, hq, u_22⟩ := hq
  rw [ef9, eL9, eQ9] at hP; clear ef9 eL9 eQ9
  refine lv_istore (lv' := [(4, .int r_21), (0, .ref (h 25)), (1, .int x0), (2, .int x1), (3, .int x2)]) hx hb dX9_leastSetting_8 hl (by decide) rfl (fun ls hl => ?_)
  refine lv_aload_n hx hb dX9_leastSetting_10 rfl (lv_at hl 1 rfl) ?_
  refine sl_gX_25_2_9 hx hb hts hown hK hP dX9_leastSetting_11 ?_
  refine lv_iload_n hx hb dX9_leastSetting_14 rfl (lv_at hl 3 rfl) ?_
  refine lv_bipush (v := 61) hx hb dX9_leastSetting_15 bp_61 ?_
  refine lv_imul hx hb dX9_leastSetting_17 ?_
  refine lv_topi (fun v_23 ev_23 => ?_)
  have q_24 : v_23.toInt = x1.toInt * 61 := by rw [ev_23]; exact bn_mulI (by decide) (by omega) (by omega)
  refine lv_iload_n hx hb dX9_leastSetting_18 rfl (lv_at hl 4 rfl) ?_
  refine lv_iadd hx hb dX9_leastSetting_19 ?_
  refine lv_topi (fun v_25 ev_25 => ?_)
  have q_26 : v_25.toInt = v_23.toInt + x2.toInt := by rw [ev_25]; first | exact bn_addI (by omega) (by omega) | exact (bn_addI (by omega) (by omega)).trans (by omega)
  refine sg_iald hx hb hK hP 26 (by decide) 0 rfl rfl (i := v_25) (vp_in_iff.mpr ⟨by omega, by omega⟩) dX9_leastSetting_20 ?_
  refine lv_topi (fun v_27 ev_27 => ?_)
  refine lv_istore (lv' := [(5, .int v_27), (4, .int r_21), (0, .ref (h 25)), (1, .int x0), (2, .int x1), (3, .int x2)]) hx hb dX9_leastSetting_21 hl (by decide) rfl (fun ls hl => ?_)
  refine lv_iconst (v := 0) hx hb dX9_leastSetting_23 ic_0 ?_
  refine lv_istore (lv' := [(6, .int 0), (5, .int v_27), (4, .int r_21), (0, .ref (h 25)), (1, .int x0), (2, .int x1), (3, .int x2)]) hx hb dX9_leastSetting_24 hl (by decide) rfl (fun ls hl => ?_)
  exact loop_26 62 r_21 v_27 0 f _ _ _ (hs.trans ((spl_e u_22 (spl_e ev_23 (spl_e ev_25 (spl_e ev_27 rfl)))))) (by have kc2 : (0 : Int32).toInt = 0 := ti_0; omega) ⟨by omega, by omega⟩ (by decide) hI hF hP hS (lv_sub hl [3, 4, 5, 6, 2, 1, 0] rfl)

abbrev WkX9_shiftByShift : List (Nat × Nat × Option Nat) := [(8, 8, none), (9, 9, none), (26, 26, none)]
set_option maxHeartbeats 4000000 in
set_option maxRecDepth 100000 in
theorem kX9_shiftByShift (l : Launch) (D : va_G) (ca : Nat → ClassId) (za h : Nat → Nat) (hh : sgH 52 h) (f : sg_F) (L : sg_L) (Q : sg_Q) (hI : sgI loX hiX f) (x0 : Int32) (x1 : Int32) (b0 : 0 ≤ x0.toInt ∧ x0.toInt ≤ 2) (b1 : (-1) ≤ x1.toInt ∧ x1.toInt ≤ 20) (sz : Nat) : Met l yX9_shiftByShift gwX9_shiftByShift { frames := 6, cells := 0, slots := 0, locals := 152 } (sgP D vwCl (tyX ca) 52 h (eX ca h) zcX za f L Q sz [.ref (h 25), .int x0, .int x1]) (sgQi D vwCl 52 h (eX ca h) sz (fun r f1 L1 Q1 => ((sgI loX hiX f1 ∧ sgK WkX9_shiftByShift f f1 ∧ L1 = L ∧ Q1 = Q) ∧ True ∧ (r, f1) = sX9_shiftByShift x0 x1 f L))) 0 0 (sgA 52 h sz) := by
  refine sg_ofWi (cc := cX9_shiftByShift) (maxL := 6) RX9 (by decide) rfl rfl (Nat.le_of_ble_eq_true rfl) ?_
  intro p e s m below meth cd Qz ls hx hb hml hown hts hK hZ hP hS hl hret
  have hA := sgY.self (n := 52) (h := h) (sz := s.heap.size)
  have hl : lv_has ls 6 [(0, .ref (h 25)), (1, .int x0), (2, .int x1)] := hl
  obtain ⟨H, hH⟩ : ∃ z : Heap, z = s.heap := ⟨_, rfl⟩
  obtain ⟨locs, hlo⟩ : ∃ z : List Loc, z = [] := ⟨_, rfl⟩
  have hP : va_P D vwCl (sgw 52 h (eX ca h) f L Q) H := by rw [hH]; exact hP
  have hS : va_S (sgA 52 h s.heap.size) s.heap H locs := by rw [hH, hlo]; exact hS
  suffices hgo : W p l e ({ frames := 6, cells := 0, slots := 0, locals := 152 }) s m ([.ref (h 25), .int x0, .int x1] : List Value).toArray below meth cd H locs 0 0 Qz (F0 m 0 ls []) by rw [hH, hlo] at hgo; exact hgo
  clear hH hlo
  obtain ⟨sp, hsp⟩ : ∃ z : Int32 × sg_F, z = sX9_shiftByShift x0 x1 f L := ⟨_, rfl⟩
  have hs : sp = sX9_shiftByShift x0 x1 f L := hsp
  have hF : sgK WkX9_shiftByShift f f := sgK.rf
  have loop_33 : ∀ (n_33 : Nat) (y3_33 : Int32) (y4_33 : Int32) (y5_33 : Int32) (fp_33 : sg_F) (H : Heap) (locs : List Loc) (ls : Array Slot), sp = sX9_shiftByShift_l33 x0 x1 n_33 y3_33 y4_33 y5_33 fp_33 L → 21 - y5_33.toInt < (n_33 : Int) → 0 ≤ x1.toInt ∧ x1.toInt ≤ 20 → 0 ≤ y3_33.toInt ∧ y3_33.toInt ≤ 60 → 0 ≤ y4_33.toInt ∧ y4_33.toInt ≤ 60 → 0 ≤ y5_33.toInt ∧ y5_33.toInt ≤ 21 → sgI loX hiX fp_33 → sgK WkX9_shiftByShift f fp_33 → va_P D vwCl (sgw 52 h (eX ca h) fp_33 L Q) H → va_S (sgA 52 h s.heap.size) s.heap H locs → lv_has ls 6 [(0, .ref (h 25)), (1, .int x0), (2, .int x1), (3, .int y3_33), (4, .int y4_33), (5, .int y5_33)] → W p l e ({ frames := 6, cells := 0, slots := 0, locals := 152 }) s m ([.ref (h 25), .int x0, .int x1] : List Value).toArray below meth cd H locs 0 0 Qz (F0 m 33 ls []) := by
    intro n_33
    induction n_33 with
    | zero => intro y3_33 y4_33 y5_33 fp_33 H locs ls hs hm_33 hy0_33 hy1_33 hy2_33 hy3_33 hI hF hP hS hl; exact absurd hm_33 (by omega)
    | succ n_33 ih_33 =>
      intro y3_33 y4_33 y5_33 fp_33 H locs ls hs hm_33 hy0_33 hy1_33 hy2_33 hy3_33 hI hF hP hS hl
      have hs : sp = sX9_shiftByShift_h33 x0 x1 (sX9_shiftByShift_l33 x0 x1 n_33) y3_33 y4_33 y5_33 fp_33 L := hs
      refine lv_iload hx hb dX9_shiftByShift_33 (lv_at hl 5 rfl) ?_
      refine lv_iload_n hx hb dX9_shiftByShift_35 rfl (lv_at hl 2 rfl) ?_
      refine lv_icmp_gt (tgt := 66) hx hb dX9_shiftByShift_36 (by decide) (fun c => ?_) (fun c => ?_)
      · skip
        have c_1 : x1.toInt < y5_33.toInt := (by first | exact (bn_lt c) | (have z := bn_lt c; omega))
        refine lv_iload hx hb dX9_shiftByShift_66 (lv_at hl 4 rfl) ?_
        exact hret _ _ _ _ (y4_33) fp_33 L Q dX9_shiftByShift_68 hP hS ⟨⟨hI, hF, rfl, rfl⟩, trivial, (Eq.trans (Eq.symm (hs.trans (((if_pos c_1).trans rfl)))) hsp)⟩
      · skip
        have c_2 : y5_33.toInt ≤ x1.toInt := (by first | exact (bn_nlt c) | (have z := bn_nlt c; omega))
        refine lv_aload_n hx hb dX9_shiftByShift_39 rfl (lv_at hl 0 rfl) ?_
        refine lv_iload_n hx hb dX9_shiftByShift_40 rfl (lv_at hl 1 rfl) ?_
        refine lv_iload hx hb dX9_shiftByShift_41 (lv_at hl 5 rfl) ?_
        refine lv_iload_n hx hb dX9_shiftByShift_43 rfl (lv_at hl 3 rfl) ?_
        refine sg_calli (va_runV (As := [.int x0, .int y5_33, .int y3_33]) (rest := []) ⟨hx, hb, hml, hown, hts⟩ (kX9_leastSetting l D ca za h hh fp_33 L Q hI x0 y5_33 y3_33 b0 ⟨by omega, by omega⟩ hy1_33 H.size) (sl_c9_leastSetting_5_0_0_126_9 hts ⟨Nat.le_of_ble_eq_true rfl, Nat.le_of_ble_eq_true rfl⟩) (sl_vX_25 hA hK hP hS hZ) rfl rfl hl.1 rfl (lv_room (Nat.le_of_ble_eq_true rfl)) dX9_shiftByShift_44 ⟨Nat.le_refl _, Nat.le_refl _⟩) hA hS (fun r_6 f_3 L_4 Q_5 H locs hq hP hS => ?_)
        obtain ⟨⟨hI, hk_f_3, eL9, eQ9⟩, hq, u_7⟩ := hq
        rw [eL9, eQ9] at hP; clear eL9 eQ9
        have hF : sgK WkX9_shiftByShift f f_3 := sgK.tr hF hk_f_3 (by decide +kernel)
        refine lv_istore (lv' := [(4, .int r_6), (0, .ref (h 25)), (1, .int x0), (2, .int x1), (3, .int y3_33), (5, .int y5_33)]) hx hb dX9_shiftByShift_47 hl (by decide) rfl (fun ls hl => ?_)
        refine lv_aload_n hx hb dX9_shiftByShift_49 rfl (lv_at hl 1 rfl) ?_
        refine sl_gX_25_0_9 hx hb hts hown hK hP dX9_shiftByShift_50 ?_
        refine lv_iload_n hx hb dX9_shiftByShift_53 rfl (lv_at hl 2 rfl) ?_
        refine lv_iload hx hb dX9_shiftByShift_54 (lv_at hl 0 rfl) ?_
        refine sg_calli (va_runV (As := [.int x0, .int r_6]) (rest := []) ⟨hx, hb, hml, hown, hts⟩ (kX0_slipped l D ca za h hh f_3 L Q hI x0 r_6 b0 ⟨by omega, by omega⟩ H.size) (sl_c0_slipped_1_0_0_21_9 hts ⟨Nat.le_of_ble_eq_true rfl, Nat.le_of_ble_eq_true rfl⟩) (sl_vX_1 hA hK hP hS hZ) rfl rfl hl.1 rfl (lv_room (Nat.le_of_ble_eq_true rfl)) dX9_shiftByShift_56 ⟨Nat.le_refl _, Nat.le_refl _⟩) hA hS (fun r_11 f_8 L_9 Q_10 H locs hq hP hS => ?_)
        obtain ⟨⟨ef9, eL9, eQ9⟩, hq, u_12⟩ := hq
        rw [ef9, eL9, eQ9] at hP; clear ef9 eL9 eQ9
        refine lv_istore_n (lv' := [(3, .int r_11), (4, .int r_6), (0, .ref (h 25)), (1, .int x0), (2, .int x1), (5, .int y5_33)]) hx hb dX9_shiftByShift_59 rfl hl (by decide) rfl (fun ls hl => ?_)
        obtain ⟨v_13, ev_13⟩ : ∃ z : Int32, z = y5_33 + 1 := ⟨_, rfl⟩
        have q_14 : v_13.toInt = y5_33.toInt + 1 := by rw [ev_13]; exact (bn_addc y5_33 1 (by decide) (by omega) (by omega))
        refine lv_iinc (v := v_13) (lv' := [(5, .int v_13), (3, .int r_11), (4, .int r_6), (0, .ref (h 25)), (1, .int x0), (2, .int x1)]) hx hb dX9_shiftByShift_60 hl (k := 5) rfl (by rw [ev_13]; rfl) (by decide) rfl (fun ls hl => ?_)
        refine lv_goto (tgt := 33) hx hb dX9_shiftByShift_63 (by decide) ?_
        exact ih_33 r_11 r_6 v_13 f_3 _ _ _ (hs.trans (((if_neg (Int.not_lt.mpr c_2)).trans (spl2_e u_7 (spl_e u_12 (spl_e ev_13 rfl)))))) (by omega) hy0_33 ⟨by omega, by omega⟩ ⟨by omega, by omega⟩ ⟨by omega, by omega⟩ hI hF hP hS (lv_sub hl [3, 4, 5, 1, 2, 0] rfl)
  refine lv_aload_n hx hb dX9_shiftByShift_0 rfl (lv_at hl 0 rfl) ?_
  refine lv_iload_n hx hb dX9_shiftByShift_1 rfl (lv_at hl 1 rfl) ?_
  refine lv_iconst (v := 1) hx hb dX9_shiftByShift_2 ic_1 ?_
  refine sg_callv (va_runV (As := [.int x0, .int 1]) (rest := []) ⟨hx, hb, hml, hown, hts⟩ (kX9_pay l D ca za h hh f L Q hI x0 1 b0 (by decide) H.size) (sl_c9_pay_5_0_0_126_9 hts ⟨Nat.le_of_ble_eq_true rfl, Nat.le_of_ble_eq_true rfl⟩) (sl_vX_25 hA hK hP hS hZ) rfl rfl hl.1 rfl (lv_room (Nat.le_of_ble_eq_true rfl)) dX9_shiftByShift_3 ⟨Nat.le_refl _, Nat.le_refl _⟩) hA hS (fun f_15 L_16 Q_17 H locs hq hP hS => ?_)
  obtain ⟨⟨hI, hk_f_15, eL9, eQ9⟩, u_18⟩ := hq
  rw [eL9, eQ9] at hP; clear eL9 eQ9
  have hF : sgK WkX9_shiftByShift f f_15 := sgK.tr hF hk_f_15 (by decide +kernel)
  refine lv_aload_n hx hb dX9_shiftByShift_6 rfl (lv_at hl 0 rfl) ?_
  refine sl_gX_25_0_9 hx hb hts hown hK hP dX9_shiftByShift_7 ?_
  refine sl_gX_1_1_9 hx hb hts hown hK hP dX9_shiftByShift_10 ?_
  refine lv_iload_n hx hb dX9_shiftByShift_13 rfl (lv_at hl 1 rfl) ?_
  refine sg_iald hx hb hK hP 3 (by decide) 0 rfl rfl (i := x0) (vp_in_iff.mpr ⟨by omega, by omega⟩) dX9_shiftByShift_14 ?_
  refine lv_topi (fun v_19 ev_19 => ?_)
  replace hs := hs.trans (spl_e u_18 (spl_e ev_19 rfl))
  have q_20 : 0 ≤ v_19.toInt ∧ v_19.toInt ≤ 60 := by rw [ev_19]; exact hI 3 _
  refine lv_istore_n (lv' := [(3, .int v_19), (0, .ref (h 25)), (1, .int x0), (2, .int x1)]) hx hb dX9_shiftByShift_15 rfl hl (by decide) rfl (fun ls hl => ?_)
  refine lv_iconst (v := 0) hx hb dX9_shiftByShift_16 ic_0 ?_
  refine lv_istore (lv' := [(4, .int 0), (3, .int v_19), (0, .ref (h 25)), (1, .int x0), (2, .int x1)]) hx hb dX9_shiftByShift_17 hl (by decide) rfl (fun ls hl => ?_)
  refine lv_iload_n hx hb dX9_shiftByShift_19 rfl (lv_at hl 4 rfl) ?_
  refine lv_if_ge (tgt := 30) hx hb dX9_shiftByShift_20 (by decide) (fun c => ?_) (fun c => ?_)
  · skip
    have c_21 : 0 ≤ x1.toInt := (by first | exact (cm_le0 ti_0 c) | (have z := bn_le c; have k1 : (0 : Int32).toInt = 0 := ti_0; omega))
    refine lv_iconst (v := 0) hx hb dX9_shiftByShift_30 ic_0 ?_
    refine lv_istore (lv' := [(5, .int 0), (4, .int 0), (3, .int v_19), (0, .ref (h 25)), (1, .int x0), (2, .int x1)]) hx hb dX9_shiftByShift_31 hl (by decide) rfl (fun ls hl => ?_)
    exact loop_33 22 v_19 0 0 f_15 _ _ _ (hs.trans ((if_neg (Int.not_lt.mpr c_21)).trans rfl)) (by have kc1 : (0 : Int32).toInt = 0 := ti_0; have kc2 : (0 : Int32).toInt = 0 := ti_0; omega) ⟨by omega, by omega⟩ q_20 (by decide) (by decide) hI hF hP hS (lv_sub hl [3, 4, 5, 2, 1, 0] rfl)
  · skip
    have c_22 : x1.toInt < 0 := (by first | exact (cm_nle0 ti_0 c) | (have z := bn_nle c; have k1 : (0 : Int32).toInt = 0 := ti_0; omega))
    refine lv_aload_n hx hb dX9_shiftByShift_23 rfl (lv_at hl 2 rfl) ?_
    refine sl_gX_25_2_9 hx hb hts hown hK hP dX9_shiftByShift_24 ?_
    refine lv_iload_n hx hb dX9_shiftByShift_27 rfl (lv_at hl 1 rfl) ?_
    refine sg_iald hx hb hK hP 26 (by decide) 0 rfl rfl (i := v_19) (vp_in_iff.mpr ⟨by omega, by omega⟩) dX9_shiftByShift_28 ?_
    refine lv_topi (fun v_23 ev_23 => ?_)
    exact hret _ _ _ _ (v_23) f_15 L Q dX9_shiftByShift_29 hP hS ⟨⟨hI, hF, rfl, rfl⟩, trivial, (Eq.trans (Eq.symm (hs.trans ((if_pos c_22).trans (spl_e ev_23 rfl)))) hsp)⟩

abbrev WkX11_shifts : List (Nat × Nat × Option Nat) := [(8, 8, none), (9, 9, none), (10, 10, some 2), (10, 10, some 3), (11, 11, none), (12, 12, none), (26, 26, none)]
set_option maxHeartbeats 4000000 in
set_option maxRecDepth 100000 in
theorem kX11_shifts (l : Launch) (D : va_G) (ca : Nat → ClassId) (za h : Nat → Nat) (hh : sgH 52 h) (f : sg_F) (L : sg_L) (Q : sg_Q) (hI : sgI loX hiX f) (x0 : Int32) (x1 : Int32) (x2 : Int32) (sz : Nat) : Met l yX11_shifts gwX11_shifts { frames := 7, cells := 0, slots := 0, locals := 177 } (sgP D vwCl (tyX ca) 52 h (eX ca h) zcX za f L Q sz [.ref (h 0), .int x0, .int x1, .int x2]) (sgQi D vwCl 52 h (eX ca h) sz (fun r f1 L1 Q1 => ((sgI loX hiX f1 ∧ sgK WkX11_shifts f f1 ∧ L1 = L ∧ Q1 = Q) ∧ True ∧ (r, f1) = sX11_shifts x0 x1 x2 f L))) 0 0 (sgA 52 h sz) := by
  refine sg_ofWi (cc := cX11_shifts) (maxL := 5) RX11 (by decide) rfl rfl (Nat.le_of_ble_eq_true rfl) ?_
  intro p e s m below meth cd Qz ls hx hb hml hown hts hK hZ hP hS hl hret
  have hA := sgY.self (n := 52) (h := h) (sz := s.heap.size)
  have hl : lv_has ls 5 [(0, .ref (h 0)), (1, .int x0), (2, .int x1), (3, .int x2)] := hl
  obtain ⟨H, hH⟩ : ∃ z : Heap, z = s.heap := ⟨_, rfl⟩
  obtain ⟨locs, hlo⟩ : ∃ z : List Loc, z = [] := ⟨_, rfl⟩
  have hP : va_P D vwCl (sgw 52 h (eX ca h) f L Q) H := by rw [hH]; exact hP
  have hS : va_S (sgA 52 h s.heap.size) s.heap H locs := by rw [hH, hlo]; exact hS
  suffices hgo : W p l e ({ frames := 7, cells := 0, slots := 0, locals := 177 }) s m ([.ref (h 0), .int x0, .int x1, .int x2] : List Value).toArray below meth cd H locs 0 0 Qz (F0 m 0 ls []) by rw [hH, hlo] at hgo; exact hgo
  clear hH hlo
  obtain ⟨sp, hsp⟩ : ∃ z : Int32 × sg_F, z = sX11_shifts x0 x1 x2 f L := ⟨_, rfl⟩
  have hs : sp = sX11_shifts x0 x1 x2 f L := hsp
  have hF : sgK WkX11_shifts f f := sgK.rf
  refine lv_iload_n hx hb dX11_shifts_0 rfl (lv_at hl 1 rfl) ?_
  refine sg_calli (va_runS (As := [.int x0]) (rest := []) ⟨hx, hb, hml, hown, hts⟩ (kX11_isShelf l D ca za h hh f L Q hI x0 H.size) (va_cwS 1 hts (gw_S (fun _ h => List.mem_cons_of_mem _ h) mw_35 mw_36 mw_37 mw_34) rfl rfl rfl hd_yX11_isShelf.2 ⟨Nat.le_of_ble_eq_true rfl, Nat.le_of_ble_eq_true rfl⟩) (sg_preS hA hK hP hS hZ) rfl rfl hl.1 rfl (lv_room (Nat.le_of_ble_eq_true rfl)) dX11_shifts_1 ⟨Nat.le_refl _, Nat.le_refl _⟩) hA hS (fun r_4 f_1 L_2 Q_3 H locs hq hP hS => ?_)
  obtain ⟨⟨ef9, eL9, eQ9⟩, hq, u_5⟩ := hq
  replace hs := hs.trans (spl_e u_5 rfl)
  rw [ef9, eL9, eQ9] at hP; clear ef9 eL9 eQ9
  rcases hq with ⟨rfl, hq⟩ | ⟨rfl, hq⟩
  · skip
    have hc_6 := hq
    refine lv_if_eq (tgt := 19) hx hb dX11_shifts_4 (by decide) (fun c => absurd c (by decide)) (fun c => ?_)
    refine lv_iload_n hx hb dX11_shifts_7 rfl (lv_at hl 2 rfl) ?_
    refine sg_calli (va_runS (As := [.int x1]) (rest := []) ⟨hx, hb, hml, hown, hts⟩ (kX11_isPart l D ca za h hh f L Q hI x1 H.size) (va_cwS 1 hts (gw_S (fun _ h => List.mem_cons_of_mem _ h) mw_58 mw_59 mw_37 mw_57) rfl rfl rfl hd_yX11_isPart.2 ⟨Nat.le_of_ble_eq_true rfl, Nat.le_of_ble_eq_true rfl⟩) (sg_preS hA hK hP hS hZ) rfl rfl hl.1 rfl (lv_room (Nat.le_of_ble_eq_true rfl)) dX11_shifts_8 ⟨Nat.le_refl _, Nat.le_refl _⟩) hA hS (fun r_10 f_7 L_8 Q_9 H locs hq hP hS => ?_)
    obtain ⟨⟨ef9, eL9, eQ9⟩, hq, u_11⟩ := hq
    replace hs := hs.trans ((if_pos rfl).trans (spl_e u_11 rfl))
    rw [ef9, eL9, eQ9] at hP; clear ef9 eL9 eQ9
    rcases hq with ⟨rfl, hq⟩ | ⟨rfl, hq⟩
    · skip
      have hc_12 := hq
      refine lv_if_eq (tgt := 19) hx hb dX11_shifts_11 (by decide) (fun c => absurd c (by decide)) (fun c => ?_)
      refine lv_iload_n hx hb dX11_shifts_14 rfl (lv_at hl 3 rfl) ?_
      refine lv_iconst (v := (-1)) hx hb dX11_shifts_15 ic_m1 ?_
      refine lv_icmp_ge (tgt := 21) hx hb dX11_shifts_16 (by decide) (fun c => ?_) (fun c => ?_)
      · skip
        have c_13 : (-1) ≤ x2.toInt := (by first | exact (cm_le0 ti_m1 c) | (have z := bn_le c; have k1 : ((-1) : Int32).toInt = (-1) := ti_m1; omega))
        refine lv_aload_n hx hb dX11_shifts_21 rfl (lv_at hl 0 rfl) ?_
        refine lv_iload_n hx hb dX11_shifts_22 rfl (lv_at hl 1 rfl) ?_
        refine sg_calli (va_runV (As := [.int x0]) (rest := []) ⟨hx, hb, hml, hown, hts⟩ (kX11_readWeek l D ca za h hh f L Q hI x0 ⟨by omega, by omega⟩ H.size) (sl_c11_readWeek_2_0_0_45_11 hts ⟨Nat.le_of_ble_eq_true rfl, Nat.le_of_ble_eq_true rfl⟩) (sl_vX_0 hA hK hP hS hZ) rfl rfl hl.1 rfl (lv_room (Nat.le_of_ble_eq_true rfl)) dX11_shifts_23 ⟨Nat.le_refl _, Nat.le_refl _⟩) hA hS (fun r_18 f_15 L_16 Q_17 H locs hq hP hS => ?_)
        obtain ⟨⟨hI, hk_f_15, eL9, eQ9⟩, hq, u_19⟩ := hq
        replace hs := hs.trans ((if_pos rfl).trans ((if_neg (Int.not_lt.mpr c_13)).trans (spl2_e u_19 rfl)))
        rw [eL9, eQ9] at hP; clear eL9 eQ9
        have hF : sgK WkX11_shifts f f_15 := sgK.tr hF hk_f_15 (by decide +kernel)
        refine lv_istore (lv' := [(4, .int r_18), (0, .ref (h 0)), (1, .int x0), (2, .int x1), (3, .int x2)]) hx hb dX11_shifts_26 hl (by decide) rfl (fun ls hl => ?_)
        refine lv_iload hx hb dX11_shifts_28 (lv_at hl 0 rfl) ?_
        refine lv_if_eq (tgt := 36) hx hb dX11_shifts_30 (by decide) (fun c => ?_) (fun c => ?_)
        · skip
          have c_20 : r_18.toInt = 0 := (by first | exact (cm_eq1 ti_0 c) | (have z := Int32.toInt_inj.mpr c; have k1 : (0 : Int32).toInt = 0 := ti_0; omega))
          refine lv_iload_n hx hb dX11_shifts_36 rfl (lv_at hl 4 rfl) ?_
          refine lv_aload_n hx hb dX11_shifts_37 rfl (lv_at hl 1 rfl) ?_
          refine sl_gX_0_1_11 hx hb hts hown hK hP dX11_shifts_38 ?_
          refine sl_gX_10_2_11 (v := (f_15 10 2)) hx hb hts hown hK hP rfl dX11_shifts_41 ?_
          refine lv_topi (fun v_22 ev_22 => ?_)
          replace hs := hs.trans ((if_pos c_20).trans (spl_e ev_22 rfl))
          have q_23 : 0 ≤ v_22.toInt ∧ v_22.toInt ≤ 21 := by rw [ev_22]; exact hI 10 2
          refine lv_icmp_lt (tgt := 50) hx hb dX11_shifts_44 (by decide) (fun c => ?_) (fun c => ?_)
          · skip
            have c_24 : x2.toInt < v_22.toInt := (by first | exact (bn_lt c) | (have z := bn_lt c; omega))
            refine lv_aload_n hx hb dX11_shifts_50 rfl (lv_at hl 1 rfl) ?_
            refine sl_gX_0_4_11 hx hb hts hown hK hP dX11_shifts_51 ?_
            refine lv_iload_n hx hb dX11_shifts_54 rfl (lv_at hl 3 rfl) ?_
            refine lv_iload_n hx hb dX11_shifts_55 rfl (lv_at hl 4 rfl) ?_
            refine sg_calli (va_runV (As := [.int x1, .int x2]) (rest := []) ⟨hx, hb, hml, hown, hts⟩ (kX9_shiftByShift l D ca za h hh f_15 L Q hI x1 x2 ⟨by omega, by omega⟩ ⟨by omega, by omega⟩ H.size) (sl_c9_shiftByShift_6_0_0_152_11 hts ⟨Nat.le_of_ble_eq_true rfl, Nat.le_of_ble_eq_true rfl⟩) (sl_vX_25 hA hK hP hS hZ) rfl rfl hl.1 rfl (lv_room (Nat.le_of_ble_eq_true rfl)) dX11_shifts_56 ⟨Nat.le_refl _, Nat.le_refl _⟩) hA hS (fun r_29 f_26 L_27 Q_28 H locs hq hP hS => ?_)
            obtain ⟨⟨hI, hk_f_26, eL9, eQ9⟩, hq, u_30⟩ := hq
            rw [eL9, eQ9] at hP; clear eL9 eQ9
            have hF : sgK WkX11_shifts f f_26 := sgK.tr hF hk_f_26 (by decide +kernel)
            exact hret _ _ _ _ (r_29) f_26 L Q dX11_shifts_59 hP hS ⟨⟨hI, hF, rfl, rfl⟩, trivial, (Eq.trans (Eq.symm (hs.trans ((if_pos c_24).trans (spl2_e u_30 rfl)))) hsp)⟩
          · skip
            have c_25 : v_22.toInt ≤ x2.toInt := (by first | exact (bn_nlt c) | (have z := bn_nlt c; omega))
            refine lv_bipush (v := (-2)) hx hb dX11_shifts_47 bp_m2 ?_
            have k99 : ((-2) : Int32).toInt = (-2) := ti_m2
            exact hret _ _ _ _ (-2) f_15 L Q dX11_shifts_49 hP hS ⟨⟨hI, hF, rfl, rfl⟩, trivial, (Eq.trans (Eq.symm (hs.trans ((if_neg (Int.not_lt.mpr c_25)).trans rfl))) hsp)⟩
        · skip
          have c_21 : r_18.toInt ≠ 0 := (by first | exact (cm_ne1 ti_0 c) | (have z := bn_ne c; have k1 : (0 : Int32).toInt = 0 := ti_0; omega))
          refine lv_iload hx hb dX11_shifts_33 (lv_at hl 0 rfl) ?_
          exact hret _ _ _ _ (r_18) f_15 L Q dX11_shifts_35 hP hS ⟨⟨hI, hF, rfl, rfl⟩, trivial, (Eq.trans (Eq.symm (hs.trans ((if_neg c_21).trans rfl))) hsp)⟩
      · skip
        have c_14 : x2.toInt < (-1) := (by first | exact (cm_nle0 ti_m1 c) | (have z := bn_nle c; have k1 : ((-1) : Int32).toInt = (-1) := ti_m1; omega))
        refine lv_iconst (v := (-1)) hx hb dX11_shifts_19 ic_m1 ?_
        have k99 : ((-1) : Int32).toInt = (-1) := ti_m1
        exact hret _ _ _ _ (-1) f L Q dX11_shifts_20 hP hS ⟨⟨hI, hF, rfl, rfl⟩, trivial, (Eq.trans (Eq.symm (hs.trans ((if_pos rfl).trans ((if_pos c_14).trans rfl)))) hsp)⟩
    · skip
      have hc_12 := hq
      refine lv_if_eq (tgt := 19) hx hb dX11_shifts_11 (by decide) (fun c => ?_) (fun c => absurd c (by decide))
      refine lv_iconst (v := (-1)) hx hb dX11_shifts_19 ic_m1 ?_
      have k99 : ((-1) : Int32).toInt = (-1) := ti_m1
      exact hret _ _ _ _ (-1) f L Q dX11_shifts_20 hP hS ⟨⟨hI, hF, rfl, rfl⟩, trivial, (Eq.trans (Eq.symm (hs.trans ((if_neg (by decide)).trans rfl))) hsp)⟩
  · skip
    have hc_6 := hq
    refine lv_if_eq (tgt := 19) hx hb dX11_shifts_4 (by decide) (fun c => ?_) (fun c => absurd c (by decide))
    refine lv_iconst (v := (-1)) hx hb dX11_shifts_19 ic_m1 ?_
    have k99 : ((-1) : Int32).toInt = (-1) := ti_m1
    exact hret _ _ _ _ (-1) f L Q dX11_shifts_20 hP hS ⟨⟨hI, hF, rfl, rfl⟩, trivial, (Eq.trans (Eq.symm (hs.trans ((if_neg (by decide)).trans rfl))) hsp)⟩

abbrev WkX9_oneTurning : List (Nat × Nat × Option Nat) := [(8, 8, none), (9, 9, none), (26, 26, none)]
set_option maxHeartbeats 4000000 in
set_option maxRecDepth 100000 in
theorem kX9_oneTurning (l : Launch) (D : va_G) (ca : Nat → ClassId) (za h : Nat → Nat) (hh : sgH 52 h) (f : sg_F) (L : sg_L) (Q : sg_Q) (hI : sgI loX hiX f) (x0 : Int32) (x1 : Int32) (b0 : 0 ≤ x0.toInt ∧ x0.toInt ≤ 2) (b1 : 0 ≤ x1.toInt ∧ x1.toInt ≤ 2) (sz : Nat) : Met l yX9_oneTurning gwX9_oneTurning { frames := 6, cells := 0, slots := 0, locals := 151 } (sgP D vwCl (tyX ca) 52 h (eX ca h) zcX za f L Q sz [.ref (h 25), .int x0, .int x1]) (sgQi D vwCl 52 h (eX ca h) sz (fun r f1 L1 Q1 => ((sgI loX hiX f1 ∧ sgK WkX9_oneTurning f f1 ∧ L1 = L ∧ Q1 = Q) ∧ True ∧ (r, f1) = sX9_oneTurning x0 x1 f L))) 0 0 (sgA 52 h sz) := by
  refine sg_ofWi (cc := cX9_oneTurning) (maxL := 12) RX9 (by decide) rfl rfl (Nat.le_of_ble_eq_true rfl) ?_
  intro p e s m below meth cd Qz ls hx hb hml hown hts hK hZ hP hS hl hret
  have hA := sgY.self (n := 52) (h := h) (sz := s.heap.size)
  have hl : lv_has ls 12 [(0, .ref (h 25)), (1, .int x0), (2, .int x1)] := hl
  obtain ⟨H, hH⟩ : ∃ z : Heap, z = s.heap := ⟨_, rfl⟩
  obtain ⟨locs, hlo⟩ : ∃ z : List Loc, z = [] := ⟨_, rfl⟩
  have hP : va_P D vwCl (sgw 52 h (eX ca h) f L Q) H := by rw [hH]; exact hP
  have hS : va_S (sgA 52 h s.heap.size) s.heap H locs := by rw [hH, hlo]; exact hS
  suffices hgo : W p l e ({ frames := 6, cells := 0, slots := 0, locals := 151 }) s m ([.ref (h 25), .int x0, .int x1] : List Value).toArray below meth cd H locs 0 0 Qz (F0 m 0 ls []) by rw [hH, hlo] at hgo; exact hgo
  clear hH hlo
  obtain ⟨sp, hsp⟩ : ∃ z : Int32 × sg_F, z = sX9_oneTurning x0 x1 f L := ⟨_, rfl⟩
  have hs : sp = sX9_oneTurning x0 x1 f L := hsp
  have hF : sgK WkX9_oneTurning f f := sgK.rf
  have loop_49 : ∀ (n_49 : Nat) (y3_49 : Int32) (y4_49 : Int32) (y5_49 : Int32) (y6_49 : Int32) (y7_49 : Int32) (y8_49 : Int32) (y9_49 : Int32) (fp_49 : sg_F) (H : Heap) (locs : List Loc) (ls : Array Slot), sp = sX9_oneTurning_l49 x0 x1 n_49 y3_49 y4_49 y5_49 y6_49 y7_49 y8_49 y9_49 fp_49 L → 21 - y9_49.toInt < (n_49 : Int) → 0 ≤ y3_49.toInt ∧ y3_49.toInt ≤ 99 → 0 ≤ y4_49.toInt ∧ y4_49.toInt ≤ 60 → (-2) ≤ y6_49.toInt ∧ y6_49.toInt ≤ 20 → (-2) ≤ y7_49.toInt ∧ y7_49.toInt ≤ 60 → 0 ≤ y9_49.toInt ∧ y9_49.toInt ≤ 21 → sgI loX hiX fp_49 → sgK WkX9_oneTurning f fp_49 → va_P D vwCl (sgw 52 h (eX ca h) fp_49 L Q) H → va_S (sgA 52 h s.heap.size) s.heap H locs → lv_has ls 12 [(0, .ref (h 25)), (1, .int x0), (2, .int x1), (3, .int y3_49), (4, .int y4_49), (5, .int y5_49), (6, .int y6_49), (7, .int y7_49), (8, .int y8_49), (9, .int y9_49)] → W p l e ({ frames := 6, cells := 0, slots := 0, locals := 151 }) s m ([.ref (h 25), .int x0, .int x1] : List Value).toArray below meth cd H locs 0 0 Qz (F0 m 49 ls []) := by
    intro n_49
    induction n_49 with
    | zero => intro y3_49 y4_49 y5_49 y6_49 y7_49 y8_49 y9_49 fp_49 H locs ls hs hm_49 hy0_49 hy1_49 hy2_49 hy3_49 hy4_49 hI hF hP hS hl; exact absurd hm_49 (by omega)
    | succ n_49 ih_49 =>
      have loop_64 : ∀ (n_64 : Nat) (y10_64 : Int32) (y3_64 : Int32) (y4_64 : Int32) (y5_64 : Int32) (y6_64 : Int32) (y7_64 : Int32) (y8_64 : Int32) (y9_64 : Int32) (fp_64 : sg_F) (H : Heap) (locs : List Loc) (ls : Array Slot), sp = sX9_oneTurning_l64 (sX9_oneTurning_l49 x0 x1 n_49) x0 x1 n_64 y10_64 y3_64 y4_64 y5_64 y6_64 y7_64 y8_64 y9_64 fp_64 L → 61 - y10_64.toInt < (n_64 : Int) → 21 - y9_64.toInt < ((n_49 + 1 : Nat) : Int) → 1 ≤ (fp_64 10 2).toInt ∧ (fp_64 10 2).toInt ≤ 21 → 0 ≤ y10_64.toInt ∧ y10_64.toInt ≤ 61 → 0 ≤ y3_64.toInt ∧ y3_64.toInt ≤ 99 → 0 ≤ y4_64.toInt ∧ y4_64.toInt ≤ 60 → (-2) ≤ y6_64.toInt ∧ y6_64.toInt ≤ 20 → (-2) ≤ y7_64.toInt ∧ y7_64.toInt ≤ 60 → 0 ≤ y9_64.toInt ∧ y9_64.toInt ≤ 20 → sgI loX hiX fp_64 → sgK WkX9_oneTurning f fp_64 → va_P D vwCl (sgw 52 h (eX ca h) fp_64 L Q) H → va_S (sgA 52 h s.heap.size) s.heap H locs → lv_has ls 12 [(0, .ref (h 25)), (1, .int x0), (2, .int x1), (3, .int y3_64), (4, .int y4_64), (5, .int y5_64), (6, .int y6_64), (7, .int y7_64), (8, .int y8_64), (9, .int y9_64), (10, .int y10_64)] → W p l e ({ frames := 6, cells := 0, slots := 0, locals := 151 }) s m ([.ref (h 25), .int x0, .int x1] : List Value).toArray below meth cd H locs 0 0 Qz (F0 m 64 ls []) := by
        intro n_64
        induction n_64 with
        | zero => intro y10_64 y3_64 y4_64 y5_64 y6_64 y7_64 y8_64 y9_64 fp_64 H locs ls hs hm_64 hm_49 hy0_64 hy1_64 hy2_64 hy3_64 hy4_64 hy5_64 hy6_64 hI hF hP hS hl; exact absurd hm_64 (by omega)
        | succ n_64 ih_64 =>
          have blk_119 : ∀ (y10_119 : Int32) (y3_119 : Int32) (y4_119 : Int32) (y5_119 : Int32) (y6_119 : Int32) (y7_119 : Int32) (y8_119 : Int32) (y9_119 : Int32) (fp_119 : sg_F) (H : Heap) (locs : List Loc) (ls : Array Slot), sp = sX9_oneTurning_b119 (sX9_oneTurning_l49 x0 x1 n_49) (sX9_oneTurning_l64 (sX9_oneTurning_l49 x0 x1 n_49) x0 x1 n_64) x0 x1 y10_119 y3_119 y4_119 y5_119 y6_119 y7_119 y8_119 y9_119 fp_119 L → 21 - y9_119.toInt < ((n_49 + 1 : Nat) : Int) → 61 - y10_119.toInt < ((n_64 + 1 : Nat) : Int) → 1 ≤ (fp_119 10 2).toInt ∧ (fp_119 10 2).toInt ≤ 21 → 0 ≤ y10_119.toInt ∧ y10_119.toInt ≤ 60 → 0 ≤ y3_119.toInt ∧ y3_119.toInt ≤ 99 → 0 ≤ y4_119.toInt ∧ y4_119.toInt ≤ 60 → (-2) ≤ y6_119.toInt ∧ y6_119.toInt ≤ 20 → (-2) ≤ y7_119.toInt ∧ y7_119.toInt ≤ 60 → 0 ≤ y9_119.toInt ∧ y9_119.toInt ≤ 20 → sgI loX hiX fp_119 → sgK WkX9_oneTurning f fp_119 → va_P D vwCl (sgw 52 h (eX ca h) fp_119 L Q) H → va_S (sgA 52 h s.heap.size) s.heap H locs → lv_has ls 12 [(0, .ref (h 25)), (1, .int x0), (2, .int x1), (3, .int y3_119), (4, .int y4_119), (5, .int y5_119), (6, .int y6_119), (7, .int y7_119), (8, .int y8_119), (9, .int y9_119), (10, .int y10_119)] → W p l e ({ frames := 6, cells := 0, slots := 0, locals := 151 }) s m ([.ref (h 25), .int x0, .int x1] : List Value).toArray below meth cd H locs 0 0 Qz (F0 m 119 ls []) := by
            intro y10_119 y3_119 y4_119 y5_119 y6_119 y7_119 y8_119 y9_119 fp_119 H locs ls hs hm_49 hm_64 hy0_119 hy1_119 hy2_119 hy3_119 hy4_119 hy5_119 hy6_119 hI hF hP hS hl
            obtain ⟨v_1, ev_1⟩ : ∃ z : Int32, z = fp_119 10 2 := ⟨_, rfl⟩
            have q_2 : 0 ≤ v_1.toInt ∧ v_1.toInt ≤ 21 := by rw [ev_1]; exact hI 10 2
            have q_3 : (fp_119 10 2).toInt = v_1.toInt := by rw [ev_1]
            obtain ⟨v_4, ev_4⟩ : ∃ z : Int32, z = y10_119 + 1 := ⟨_, rfl⟩
            have q_5 : v_4.toInt = y10_119.toInt + 1 := by rw [ev_4]; exact (bn_addc y10_119 1 (by decide) (by omega) (by omega))
            refine lv_iinc (v := v_4) (lv' := [(10, .int v_4), (0, .ref (h 25)), (1, .int x0), (2, .int x1), (3, .int y3_119), (4, .int y4_119), (5, .int y5_119), (6, .int y6_119), (7, .int y7_119), (8, .int y8_119), (9, .int y9_119)]) hx hb dX9_oneTurning_119 hl (k := 10) rfl (by rw [ev_4]; rfl) (by decide) rfl (fun ls hl => ?_)
            refine lv_goto (tgt := 64) hx hb dX9_oneTurning_122 (by decide) ?_
            exact ih_64 v_4 y3_119 y4_119 y5_119 y6_119 y7_119 y8_119 y9_119 fp_119 _ _ _ (hs.trans ((spl_e ev_1 (spl_e ev_4 rfl)))) (by omega) hm_49 (by have zz10_2 : (fp_119 10 2).toInt = v_1.toInt := (congrArg Int32.toInt (show fp_119 10 2 = v_1 from ev_1.symm)); exact ⟨by omega, by omega⟩) ⟨by omega, by omega⟩ hy2_119 hy3_119 hy4_119 hy5_119 hy6_119 hI hF hP hS (lv_sub hl [1, 2, 3, 4, 5, 6, 7, 8, 9, 10, 0] rfl)
          intro y10_64 y3_64 y4_64 y5_64 y6_64 y7_64 y8_64 y9_64 fp_64 H locs ls hs hm_64 hm_49 hy0_64 hy1_64 hy2_64 hy3_64 hy4_64 hy5_64 hy6_64 hI hF hP hS hl
          have hs : sp = sX9_oneTurning_h64 (sX9_oneTurning_l49 x0 x1 n_49) x0 x1 (sX9_oneTurning_l64 (sX9_oneTurning_l49 x0 x1 n_49) x0 x1 n_64) y10_64 y3_64 y4_64 y5_64 y6_64 y7_64 y8_64 y9_64 fp_64 L := hs
          obtain ⟨v_6, ev_6⟩ : ∃ z : Int32, z = fp_64 10 2 := ⟨_, rfl⟩
          replace hs := hs.trans (spl_e ev_6 rfl)
          have q_7 : 0 ≤ v_6.toInt ∧ v_6.toInt ≤ 21 := by rw [ev_6]; exact hI 10 2
          have q_8 : (fp_64 10 2).toInt = v_6.toInt := by rw [ev_6]
          refine lv_iload hx hb dX9_oneTurning_64 (lv_at hl 10 rfl) ?_
          refine lv_bipush (v := 60) hx hb dX9_oneTurning_66 bp_60 ?_
          refine lv_icmp_gt (tgt := 125) hx hb dX9_oneTurning_68 (by decide) (fun c => ?_) (fun c => ?_)
          · skip
            have c_9 : 60 < y10_64.toInt := (by first | exact (cm_lt0 ti_60 c) | (have z := bn_lt c; have k1 : (60 : Int32).toInt = 60 := ti_60; omega))
            refine lv_iload hx hb dX9_oneTurning_125 (lv_at hl 8 rfl) ?_
            refine lv_aload_n hx hb dX9_oneTurning_127 rfl (lv_at hl 0 rfl) ?_
            refine sl_gX_25_0_9 hx hb hts hown hK hP dX9_oneTurning_128 ?_
            refine lv_aload_n hx hb dX9_oneTurning_131 rfl (lv_at hl 0 rfl) ?_
            refine sl_gX_25_1_9 hx hb hts hown hK hP dX9_oneTurning_132 ?_
            refine sl_gX_10_0_9 hx hb hts hown hK hP dX9_oneTurning_135 ?_
            refine lv_iload hx hb dX9_oneTurning_138 (lv_at hl 9 rfl) ?_
            refine sg_iald hx hb hK hP 11 (by decide) 0 rfl rfl (i := y9_64) (vp_in_iff.mpr ⟨by omega, by omega⟩) dX9_oneTurning_140 ?_
            refine lv_topi (fun v_11 ev_11 => ?_)
            have q_12 : (-1) ≤ v_11.toInt ∧ v_11.toInt ≤ 7 := by rw [ev_11]; exact hI 11 _
            refine lv_iload_n hx hb dX9_oneTurning_141 rfl (lv_at hl 1 rfl) ?_
            refine lv_iload hx hb dX9_oneTurning_142 (lv_at hl 4 rfl) ?_
            refine sg_calli (va_runV (As := [.int v_11, .int x0, .int y4_64]) (rest := [.int y8_64]) ⟨hx, hb, hml, hown, hts⟩ (kX0_lossAt l D ca za h hh fp_64 L Q hI v_11 x0 y4_64 q_12 b0 hy3_64 H.size) (sl_c0_lossAt_3_0_0_74_9 hts ⟨Nat.le_of_ble_eq_true rfl, Nat.le_of_ble_eq_true rfl⟩) (sl_vX_1 hA hK hP hS hZ) rfl rfl hl.1 rfl (lv_room (Nat.le_of_ble_eq_true rfl)) dX9_oneTurning_144 ⟨Nat.le_refl _, Nat.le_refl _⟩) hA hS (fun r_16 f_13 L_14 Q_15 H locs hq hP hS => ?_)
            obtain ⟨⟨hI, hk_f_13, eL9, eQ9⟩, hq, u_17⟩ := hq
            rw [eL9, eQ9] at hP; clear eL9 eQ9
            have hF : sgK WkX9_oneTurning f f_13 := sgK.tr hF hk_f_13 (by decide +kernel)
            refine lv_iadd hx hb dX9_oneTurning_147 ?_
            refine lv_topi (fun v_18 ev_18 => ?_)
            refine lv_istore (lv' := [(8, .int v_18), (0, .ref (h 25)), (1, .int x0), (2, .int x1), (3, .int y3_64), (4, .int y4_64), (5, .int y5_64), (6, .int y6_64), (7, .int y7_64), (9, .int y9_64), (10, .int y10_64)]) hx hb dX9_oneTurning_148 hl (by decide) rfl (fun ls hl => ?_)
            refine lv_aload_n hx hb dX9_oneTurning_150 rfl (lv_at hl 1 rfl) ?_
            refine sl_gX_25_0_9 hx hb hts hown hK hP dX9_oneTurning_151 ?_
            refine lv_iload_n hx hb dX9_oneTurning_154 rfl (lv_at hl 2 rfl) ?_
            refine lv_iload hx hb dX9_oneTurning_155 (lv_at hl 5 rfl) ?_
            refine sg_calli (va_runV (As := [.int x0, .int y4_64]) (rest := []) ⟨hx, hb, hml, hown, hts⟩ (kX0_slipped l D ca za h hh f_13 L Q hI x0 y4_64 b0 hy3_64 H.size) (sl_c0_slipped_1_0_0_21_9 hts ⟨Nat.le_of_ble_eq_true rfl, Nat.le_of_ble_eq_true rfl⟩) (sl_vX_1 hA hK hP hS hZ) rfl rfl hl.1 rfl (lv_room (Nat.le_of_ble_eq_true rfl)) dX9_oneTurning_157 ⟨Nat.le_refl _, Nat.le_refl _⟩) hA hS (fun r_22 f_19 L_20 Q_21 H locs hq hP hS => ?_)
            obtain ⟨⟨ef9, eL9, eQ9⟩, hq, u_23⟩ := hq
            rw [ef9, eL9, eQ9] at hP; clear ef9 eL9 eQ9
            refine lv_istore (lv' := [(4, .int r_22), (8, .int v_18), (0, .ref (h 25)), (1, .int x0), (2, .int x1), (3, .int y3_64), (5, .int y5_64), (6, .int y6_64), (7, .int y7_64), (9, .int y9_64), (10, .int y10_64)]) hx hb dX9_oneTurning_160 hl (by decide) rfl (fun ls hl => ?_)
            obtain ⟨v_24, ev_24⟩ : ∃ z : Int32, z = y9_64 + 1 := ⟨_, rfl⟩
            have q_25 : v_24.toInt = y9_64.toInt + 1 := by rw [ev_24]; exact (bn_addc y9_64 1 (by decide) (by omega) (by omega))
            refine lv_iinc (v := v_24) (lv' := [(9, .int v_24), (4, .int r_22), (8, .int v_18), (0, .ref (h 25)), (1, .int x0), (2, .int x1), (3, .int y3_64), (5, .int y5_64), (6, .int y6_64), (7, .int y7_64), (10, .int y10_64)]) hx hb dX9_oneTurning_162 hl (k := 9) rfl (by rw [ev_24]; rfl) (by decide) rfl (fun ls hl => ?_)
            refine lv_goto (tgt := 49) hx hb dX9_oneTurning_165 (by decide) ?_
            exact ih_49 y3_64 r_22 y5_64 y6_64 y7_64 v_18 v_24 f_13 _ _ _ (hs.trans ((if_pos c_9).trans (spl_e ev_11 (spl2_e u_17 (spl_e ev_18 (spl_e u_23 (spl_e ev_24 rfl))))))) (by omega) hy2_64 ⟨by omega, by omega⟩ hy4_64 hy5_64 ⟨by omega, by omega⟩ hI hF hP hS (lv_sub hl [3, 4, 5, 6, 1, 7, 8, 9, 2, 0] rfl)
          · skip
            have c_10 : y10_64.toInt ≤ 60 := (by first | exact (cm_nlt0 ti_60 c) | (have z := bn_nlt c; have k1 : (60 : Int32).toInt = 60 := ti_60; omega))
            refine lv_iload hx hb dX9_oneTurning_71 (lv_at hl 8 rfl) ?_
            refine lv_iload hx hb dX9_oneTurning_73 (lv_at hl 10 rfl) ?_
            refine lv_iload hx hb dX9_oneTurning_75 (lv_at hl 4 rfl) ?_
            refine lv_isub hx hb dX9_oneTurning_77 ?_
            refine lv_topi (fun v_26 ev_26 => ?_)
            have q_27 : v_26.toInt = y10_64.toInt - y4_64.toInt := by rw [ev_26]; first | exact bn_subI (by omega) (by omega) | exact (bn_subI (by omega) (by omega)).trans (by omega)
            refine va_mabs hx hb (hml.trans hl.1.symm) hown (hts _ (List.mem_cons_of_mem _ mw_400)) (hts _ (List.mem_cons_of_mem _ mw_90)) (hts _ (List.mem_cons_of_mem _ mw_11)) (hts _ (List.mem_cons_of_mem _ mw_91)) (Nat.le_of_ble_eq_true rfl) (Nat.le_of_ble_eq_true rfl) (Nat.le_refl _) (Nat.le_refl _) dX9_oneTurning_78 ?_
            refine lv_topi (fun v_28 ev_28 => ?_)
            have q_29 : (0 ≤ v_26.toInt ∧ v_28.toInt = v_26.toInt) ∨ (v_26.toInt < 0 ∧ v_28.toInt = -v_26.toInt) := by rw [ev_28]; exact bn_absI (by omega)
            refine lv_iload_n hx hb dX9_oneTurning_81 rfl (lv_at hl 3 rfl) ?_
            refine lv_imul hx hb dX9_oneTurning_82 ?_
            refine lv_topi (fun v_30 ev_30 => ?_)
            refine lv_iadd hx hb dX9_oneTurning_83 ?_
            refine lv_topi (fun v_31 ev_31 => ?_)
            refine lv_aload_n hx hb dX9_oneTurning_84 rfl (lv_at hl 0 rfl) ?_
            refine sl_gX_25_2_9 hx hb hts hown hK hP dX9_oneTurning_85 ?_
            refine lv_iload hx hb dX9_oneTurning_88 (lv_at hl 9 rfl) ?_
            refine lv_bipush (v := 61) hx hb dX9_oneTurning_90 bp_61 ?_
            refine lv_imul hx hb dX9_oneTurning_92 ?_
            refine lv_topi (fun v_32 ev_32 => ?_)
            have q_33 : v_32.toInt = y9_64.toInt * 61 := by rw [ev_32]; exact bn_mulI (by decide) (by omega) (by omega)
            refine lv_iload hx hb dX9_oneTurning_93 (lv_at hl 10 rfl) ?_
            refine lv_iadd hx hb dX9_oneTurning_95 ?_
            refine lv_topi (fun v_34 ev_34 => ?_)
            have q_35 : v_34.toInt = v_32.toInt + y10_64.toInt := by rw [ev_34]; first | exact bn_addI (by omega) (by omega) | exact (bn_addI (by omega) (by omega)).trans (by omega)
            refine sg_iald hx hb hK hP 26 (by decide) 0 rfl rfl (i := v_34) (vp_in_iff.mpr ⟨by omega, by omega⟩) dX9_oneTurning_96 ?_
            refine lv_topi (fun v_36 ev_36 => ?_)
            refine lv_iadd hx hb dX9_oneTurning_97 ?_
            refine lv_topi (fun v_37 ev_37 => ?_)
            replace hs := hs.trans ((if_neg (Int.not_lt.mpr c_10)).trans (spl_e ev_26 (spl_e ev_28 (spl_e ev_30 (spl_e ev_31 (spl_e ev_32 (spl_e ev_34 (spl_e ev_36 (spl_e ev_37 rfl)))))))))
            refine lv_istore (lv' := [(11, .int v_37), (0, .ref (h 25)), (1, .int x0), (2, .int x1), (3, .int y3_64), (4, .int y4_64), (5, .int y5_64), (6, .int y6_64), (7, .int y7_64), (8, .int y8_64), (9, .int y9_64), (10, .int y10_64)]) hx hb dX9_oneTurning_98 hl (by decide) rfl (fun ls hl => ?_)
            refine lv_iload hx hb dX9_oneTurning_100 (lv_at hl 0 rfl) ?_
            refine lv_iload hx hb dX9_oneTurning_102 (lv_at hl 6 rfl) ?_
            refine lv_icmp_ge (tgt := 119) hx hb dX9_oneTurning_104 (by decide) (fun c => ?_) (fun c => ?_)
            · skip
              have c_38 : y5_64.toInt ≤ v_37.toInt := (by first | exact (bn_le c) | (have z := bn_le c; omega))
              exact blk_119 y10_64 y3_64 y4_64 y5_64 y6_64 y7_64 y8_64 y9_64 fp_64 _ _ _ (hs.trans ((if_neg (Int.not_lt.mpr c_38)).trans rfl)) hm_49 (by omega) (by have zz10_2 : (fp_64 10 2).toInt = v_6.toInt := (congrArg Int32.toInt (show fp_64 10 2 = v_6 from ev_6.symm)); exact ⟨by omega, by omega⟩) ⟨by omega, by omega⟩ hy2_64 hy3_64 hy4_64 hy5_64 hy6_64 hI hF hP hS (lv_sub hl [1, 2, 3, 4, 5, 6, 7, 8, 9, 10, 11] rfl)
            · skip
              have c_39 : v_37.toInt < y5_64.toInt := (by first | exact (bn_nle c) | (have z := bn_nle c; omega))
              refine lv_iload hx hb dX9_oneTurning_107 (lv_at hl 0 rfl) ?_
              refine lv_istore (lv' := [(5, .int v_37), (11, .int v_37), (0, .ref (h 25)), (1, .int x0), (2, .int x1), (3, .int y3_64), (4, .int y4_64), (6, .int y6_64), (7, .int y7_64), (8, .int y8_64), (9, .int y9_64), (10, .int y10_64)]) hx hb dX9_oneTurning_109 hl (by decide) rfl (fun ls hl => ?_)
              refine lv_iload hx hb dX9_oneTurning_111 (lv_at hl 10 rfl) ?_
              refine lv_istore (lv' := [(6, .int y9_64), (5, .int v_37), (11, .int v_37), (0, .ref (h 25)), (1, .int x0), (2, .int x1), (3, .int y3_64), (4, .int y4_64), (7, .int y7_64), (8, .int y8_64), (9, .int y9_64), (10, .int y10_64)]) hx hb dX9_oneTurning_113 hl (by decide) rfl (fun ls hl => ?_)
              refine lv_iload hx hb dX9_oneTurning_115 (lv_at hl 11 rfl) ?_
              refine lv_istore (lv' := [(7, .int y10_64), (6, .int y9_64), (5, .int v_37), (11, .int v_37), (0, .ref (h 25)), (1, .int x0), (2, .int x1), (3, .int y3_64), (4, .int y4_64), (8, .int y8_64), (9, .int y9_64), (10, .int y10_64)]) hx hb dX9_oneTurning_117 hl (by decide) rfl (fun ls hl => ?_)
              exact blk_119 y10_64 y3_64 y4_64 v_37 y9_64 y10_64 y8_64 y9_64 fp_64 _ _ _ (hs.trans ((if_pos c_39).trans rfl)) hm_49 (by omega) (by have zz10_2 : (fp_64 10 2).toInt = v_6.toInt := (congrArg Int32.toInt (show fp_64 10 2 = v_6 from ev_6.symm)); exact ⟨by omega, by omega⟩) ⟨by omega, by omega⟩ hy2_64 hy3_64 ⟨by omega, by omega⟩ ⟨by omega, by omega⟩ hy6_64 hI hF hP hS (lv_sub hl [4, 5, 6, 7, 8, 2, 1, 0, 9, 10, 11] rfl)
      intro y3_49 y4_49 y5_49 y6_49 y7_49 y8_49 y9_49 fp_49 H locs ls hs hm_49 hy0_49 hy1_49 hy2_49 hy3_49 hy4_49 hI hF hP hS hl
      have hs : sp = sX9_oneTurning_h49 x0 x1 (sX9_oneTurning_l49 x0 x1 n_49) y3_49 y4_49 y5_49 y6_49 y7_49 y8_49 y9_49 fp_49 L := hs
      refine lv_iload hx hb dX9_oneTurning_49 (lv_at hl 9 rfl) ?_
      refine lv_aload_n hx hb dX9_oneTurning_51 rfl (lv_at hl 0 rfl) ?_
      refine sl_gX_25_1_9 hx hb hts hown hK hP dX9_oneTurning_52 ?_
      refine sl_gX_10_2_9 (v := (fp_49 10 2)) hx hb hts hown hK hP rfl dX9_oneTurning_55 ?_
      refine lv_topi (fun v_40 ev_40 => ?_)
      replace hs := hs.trans (spl_e ev_40 rfl)
      have q_41 : 0 ≤ v_40.toInt ∧ v_40.toInt ≤ 21 := by rw [ev_40]; exact hI 10 2
      refine lv_icmp_ge (tgt := 168) hx hb dX9_oneTurning_58 (by decide) (fun c => ?_) (fun c => ?_)
      · skip
        have c_42 : v_40.toInt ≤ y9_49.toInt := (by first | exact (bn_le c) | (have z := bn_le c; omega))
        replace hs := hs.trans ((if_neg (Int.not_lt.mpr c_42)).trans rfl)
        refine lv_iload_n hx hb dX9_oneTurning_168 rfl (lv_at hl 2 rfl) ?_
        refine lv_if_ne (tgt := 175) hx hb dX9_oneTurning_169 (by decide) (fun c => ?_) (fun c => ?_)
        · skip
          have c_44 : x1.toInt ≠ 0 := (by first | exact (cm_ne1 ti_0 c) | (have z := bn_ne c; have k1 : (0 : Int32).toInt = 0 := ti_0; omega))
          replace hs := hs.trans ((if_neg c_44).trans rfl)
          refine lv_iload_n hx hb dX9_oneTurning_175 rfl (lv_at hl 2 rfl) ?_
          refine lv_iconst (v := 1) hx hb dX9_oneTurning_176 ic_1 ?_
          refine lv_icmp_ne (tgt := 185) hx hb dX9_oneTurning_177 (by decide) (fun c => ?_) (fun c => ?_)
          · skip
            have c_46 : x1.toInt ≠ 1 := (by first | exact (cm_ne1 ti_1 c) | (have z := bn_ne c; have k1 : (1 : Int32).toInt = 1 := ti_1; omega))
            refine lv_iload hx hb dX9_oneTurning_185 (lv_at hl 7 rfl) ?_
            exact hret _ _ _ _ (y7_49) fp_49 L Q dX9_oneTurning_187 hP hS ⟨⟨hI, hF, rfl, rfl⟩, trivial, (Eq.trans (Eq.symm (hs.trans ((if_neg c_46).trans rfl))) hsp)⟩
          · skip
            have c_47 : x1.toInt = 1 := (by first | exact (cm_eq1 ti_1 c) | (have z := Int32.toInt_inj.mpr c; have k1 : (1 : Int32).toInt = 1 := ti_1; omega))
            refine lv_iload hx hb dX9_oneTurning_180 (lv_at hl 6 rfl) ?_
            refine lv_goto (tgt := 187) hx hb dX9_oneTurning_182 (by decide) ?_
            exact hret _ _ _ _ (y6_49) fp_49 L Q dX9_oneTurning_187 hP hS ⟨⟨hI, hF, rfl, rfl⟩, trivial, (Eq.trans (Eq.symm (hs.trans ((if_pos c_47).trans rfl))) hsp)⟩
        · skip
          have c_45 : x1.toInt = 0 := (by first | exact (cm_eq1 ti_0 c) | (have z := Int32.toInt_inj.mpr c; have k1 : (0 : Int32).toInt = 0 := ti_0; omega))
          refine lv_iload hx hb dX9_oneTurning_172 (lv_at hl 5 rfl) ?_
          exact hret _ _ _ _ (y5_49) fp_49 L Q dX9_oneTurning_174 hP hS ⟨⟨hI, hF, rfl, rfl⟩, trivial, (Eq.trans (Eq.symm (hs.trans ((if_pos c_45).trans rfl))) hsp)⟩
      · skip
        have c_43 : y9_49.toInt < v_40.toInt := (by first | exact (bn_nle c) | (have z := bn_nle c; omega))
        refine lv_iconst (v := 0) hx hb dX9_oneTurning_61 ic_0 ?_
        refine lv_istore (lv' := [(10, .int 0), (0, .ref (h 25)), (1, .int x0), (2, .int x1), (3, .int y3_49), (4, .int y4_49), (5, .int y5_49), (6, .int y6_49), (7, .int y7_49), (8, .int y8_49), (9, .int y9_49)]) hx hb dX9_oneTurning_62 hl (by decide) rfl (fun ls hl => ?_)
        exact loop_64 62 0 y3_49 y4_49 y5_49 y6_49 y7_49 y8_49 y9_49 fp_49 _ _ _ (hs.trans ((if_pos c_43).trans rfl)) (by have kc0 : (0 : Int32).toInt = 0 := ti_0; omega) (by have kc0 : (0 : Int32).toInt = 0 := ti_0; omega) (by have zz10_2 : (fp_49 10 2).toInt = v_40.toInt := (congrArg Int32.toInt (show fp_49 10 2 = v_40 from ev_40.symm)); exact ⟨by omega, by omega⟩) (by decide) hy0_49 hy1_49 hy2_49 hy3_49 ⟨by omega, by omega⟩ hI hF hP hS (lv_sub hl [1, 2, 3, 4, 5, 6, 7, 8, 9, 10, 0] rfl)
  refine lv_aload_n hx hb dX9_oneTurning_0 rfl (lv_at hl 0 rfl) ?_
  refine lv_iload_n hx hb dX9_oneTurning_1 rfl (lv_at hl 1 rfl) ?_
  refine lv_iconst (v := 0) hx hb dX9_oneTurning_2 ic_0 ?_
  refine sg_callv (va_runV (As := [.int x0, .int 0]) (rest := []) ⟨hx, hb, hml, hown, hts⟩ (kX9_pay l D ca za h hh f L Q hI x0 0 b0 (by decide) H.size) (sl_c9_pay_5_0_0_126_9 hts ⟨Nat.le_of_ble_eq_true rfl, Nat.le_of_ble_eq_true rfl⟩) (sl_vX_25 hA hK hP hS hZ) rfl rfl hl.1 rfl (lv_room (Nat.le_of_ble_eq_true rfl)) dX9_oneTurning_3 ⟨Nat.le_refl _, Nat.le_refl _⟩) hA hS (fun f_48 L_49 Q_50 H locs hq hP hS => ?_)
  obtain ⟨⟨hI, hk_f_48, eL9, eQ9⟩, u_51⟩ := hq
  rw [eL9, eQ9] at hP; clear eL9 eQ9
  have hF : sgK WkX9_oneTurning f f_48 := sgK.tr hF hk_f_48 (by decide +kernel)
  refine lv_aload_n hx hb dX9_oneTurning_6 rfl (lv_at hl 0 rfl) ?_
  refine sl_gX_25_0_9 hx hb hts hown hK hP dX9_oneTurning_7 ?_
  refine lv_iload_n hx hb dX9_oneTurning_10 rfl (lv_at hl 1 rfl) ?_
  refine sg_calli (va_runV (As := [.int x0]) (rest := []) ⟨hx, hb, hml, hown, hts⟩ (kX0_priceOf l D ca za h hh f_48 L Q hI x0 b0 H.size) (sl_c0_priceOf_0_0_0_0_9 hts ⟨Nat.le_of_ble_eq_true rfl, Nat.le_of_ble_eq_true rfl⟩) (sl_vX_1 hA hK hP hS hZ) rfl rfl hl.1 rfl (lv_room (Nat.le_of_ble_eq_true rfl)) dX9_oneTurning_11 ⟨Nat.le_refl _, Nat.le_refl _⟩) hA hS (fun r_55 f_52 L_53 Q_54 H locs hq hP hS => ?_)
  obtain ⟨⟨ef9, eL9, eQ9⟩, hq, u_56⟩ := hq
  rw [ef9, eL9, eQ9] at hP; clear ef9 eL9 eQ9
  refine lv_istore_n (lv' := [(3, .int r_55), (0, .ref (h 25)), (1, .int x0), (2, .int x1)]) hx hb dX9_oneTurning_14 rfl hl (by decide) rfl (fun ls hl => ?_)
  refine lv_aload_n hx hb dX9_oneTurning_15 rfl (lv_at hl 1 rfl) ?_
  refine sl_gX_25_0_9 hx hb hts hown hK hP dX9_oneTurning_16 ?_
  refine sl_gX_1_1_9 hx hb hts hown hK hP dX9_oneTurning_19 ?_
  refine lv_iload_n hx hb dX9_oneTurning_22 rfl (lv_at hl 2 rfl) ?_
  refine sg_iald hx hb hK hP 3 (by decide) 0 rfl rfl (i := x0) (vp_in_iff.mpr ⟨by omega, by omega⟩) dX9_oneTurning_23 ?_
  refine lv_topi (fun v_57 ev_57 => ?_)
  have q_58 : 0 ≤ v_57.toInt ∧ v_57.toInt ≤ 60 := by rw [ev_57]; exact hI 3 _
  refine lv_istore (lv' := [(4, .int v_57), (3, .int r_55), (0, .ref (h 25)), (1, .int x0), (2, .int x1)]) hx hb dX9_oneTurning_24 hl (by decide) rfl (fun ls hl => ?_)
  refine lv_aload_n hx hb dX9_oneTurning_26 rfl (lv_at hl 2 rfl) ?_
  refine sl_gX_25_2_9 hx hb hts hown hK hP dX9_oneTurning_27 ?_
  refine lv_iload hx hb dX9_oneTurning_30 (lv_at hl 0 rfl) ?_
  refine sg_iald hx hb hK hP 26 (by decide) 0 rfl rfl (i := v_57) (vp_in_iff.mpr ⟨by omega, by omega⟩) dX9_oneTurning_32 ?_
  refine lv_topi (fun v_59 ev_59 => ?_)
  refine lv_istore (lv' := [(5, .int v_59), (4, .int v_57), (3, .int r_55), (0, .ref (h 25)), (1, .int x0), (2, .int x1)]) hx hb dX9_oneTurning_33 hl (by decide) rfl (fun ls hl => ?_)
  refine lv_bipush (v := (-2)) hx hb dX9_oneTurning_35 bp_m2 ?_
  refine lv_istore (lv' := [(6, .int (-2)), (5, .int v_59), (4, .int v_57), (3, .int r_55), (0, .ref (h 25)), (1, .int x0), (2, .int x1)]) hx hb dX9_oneTurning_37 hl (by decide) rfl (fun ls hl => ?_)
  refine lv_bipush (v := (-2)) hx hb dX9_oneTurning_39 bp_m2 ?_
  refine lv_istore (lv' := [(7, .int (-2)), (6, .int (-2)), (5, .int v_59), (4, .int v_57), (3, .int r_55), (0, .ref (h 25)), (1, .int x0), (2, .int x1)]) hx hb dX9_oneTurning_41 hl (by decide) rfl (fun ls hl => ?_)
  refine lv_iconst (v := 0) hx hb dX9_oneTurning_43 ic_0 ?_
  refine lv_istore (lv' := [(8, .int 0), (7, .int (-2)), (6, .int (-2)), (5, .int v_59), (4, .int v_57), (3, .int r_55), (0, .ref (h 25)), (1, .int x0), (2, .int x1)]) hx hb dX9_oneTurning_44 hl (by decide) rfl (fun ls hl => ?_)
  refine lv_iconst (v := 0) hx hb dX9_oneTurning_46 ic_0 ?_
  refine lv_istore (lv' := [(9, .int 0), (8, .int 0), (7, .int (-2)), (6, .int (-2)), (5, .int v_59), (4, .int v_57), (3, .int r_55), (0, .ref (h 25)), (1, .int x0), (2, .int x1)]) hx hb dX9_oneTurning_47 hl (by decide) rfl (fun ls hl => ?_)
  exact loop_49 22 r_55 v_57 v_59 (-2) (-2) 0 0 f_48 _ _ _ (hs.trans ((spl_e u_51 (spl_e u_56 (spl_e ev_57 (spl_e ev_59 rfl)))))) (by have kc3 : ((-2) : Int32).toInt = (-2) := ti_m2; have kc4 : ((-2) : Int32).toInt = (-2) := ti_m2; have kc5 : (0 : Int32).toInt = 0 := ti_0; have kc6 : (0 : Int32).toInt = 0 := ti_0; omega) ⟨by omega, by omega⟩ q_58 (by decide) (by decide) (by decide) hI hF hP hS (lv_sub hl [7, 8, 9, 6, 5, 4, 3, 2, 1, 0] rfl)

abbrev WkX11_once : List (Nat × Nat × Option Nat) := [(8, 8, none), (9, 9, none), (10, 10, some 2), (10, 10, some 3), (11, 11, none), (12, 12, none), (26, 26, none)]
set_option maxHeartbeats 4000000 in
set_option maxRecDepth 100000 in
theorem kX11_once (l : Launch) (D : va_G) (ca : Nat → ClassId) (za h : Nat → Nat) (hh : sgH 52 h) (f : sg_F) (L : sg_L) (Q : sg_Q) (hI : sgI loX hiX f) (x0 : Int32) (x1 : Int32) (x2 : Int32) (sz : Nat) : Met l yX11_once gwX11_once { frames := 7, cells := 0, slots := 0, locals := 182 } (sgP D vwCl (tyX ca) 52 h (eX ca h) zcX za f L Q sz [.ref (h 0), .int x0, .int x1, .int x2]) (sgQi D vwCl 52 h (eX ca h) sz (fun r f1 L1 Q1 => ((sgI loX hiX f1 ∧ sgK WkX11_once f f1 ∧ L1 = L ∧ Q1 = Q) ∧ True ∧ (r, f1) = sX11_once x0 x1 x2 f L))) 0 0 (sgA 52 h sz) := by
  refine sg_ofWi (cc := cX11_once) (maxL := 5) RX11 (by decide) rfl rfl (Nat.le_of_ble_eq_true rfl) ?_
  intro p e s m below meth cd Qz ls hx hb hml hown hts hK hZ hP hS hl hret
  have hA := sgY.self (n := 52) (h := h) (sz := s.heap.size)
  have hl : lv_has ls 5 [(0, .ref (h 0)), (1, .int x0), (2, .int x1), (3, .int x2)] := hl
  obtain ⟨H, hH⟩ : ∃ z : Heap, z = s.heap := ⟨_, rfl⟩
  obtain ⟨locs, hlo⟩ : ∃ z : List Loc, z = [] := ⟨_, rfl⟩
  have hP : va_P D vwCl (sgw 52 h (eX ca h) f L Q) H := by rw [hH]; exact hP
  have hS : va_S (sgA 52 h s.heap.size) s.heap H locs := by rw [hH, hlo]; exact hS
  suffices hgo : W p l e ({ frames := 7, cells := 0, slots := 0, locals := 182 }) s m ([.ref (h 0), .int x0, .int x1, .int x2] : List Value).toArray below meth cd H locs 0 0 Qz (F0 m 0 ls []) by rw [hH, hlo] at hgo; exact hgo
  clear hH hlo
  obtain ⟨sp, hsp⟩ : ∃ z : Int32 × sg_F, z = sX11_once x0 x1 x2 f L := ⟨_, rfl⟩
  have hs : sp = sX11_once x0 x1 x2 f L := hsp
  have hF : sgK WkX11_once f f := sgK.rf
  refine lv_iload_n hx hb dX11_once_0 rfl (lv_at hl 1 rfl) ?_
  refine sg_calli (va_runS (As := [.int x0]) (rest := []) ⟨hx, hb, hml, hown, hts⟩ (kX11_isShelf l D ca za h hh f L Q hI x0 H.size) (va_cwS 1 hts (gw_S (fun _ h => List.mem_cons_of_mem _ h) mw_35 mw_36 mw_37 mw_34) rfl rfl rfl hd_yX11_isShelf.2 ⟨Nat.le_of_ble_eq_true rfl, Nat.le_of_ble_eq_true rfl⟩) (sg_preS hA hK hP hS hZ) rfl rfl hl.1 rfl (lv_room (Nat.le_of_ble_eq_true rfl)) dX11_once_1 ⟨Nat.le_refl _, Nat.le_refl _⟩) hA hS (fun r_4 f_1 L_2 Q_3 H locs hq hP hS => ?_)
  obtain ⟨⟨ef9, eL9, eQ9⟩, hq, u_5⟩ := hq
  replace hs := hs.trans (spl_e u_5 rfl)
  rw [ef9, eL9, eQ9] at hP; clear ef9 eL9 eQ9
  rcases hq with ⟨rfl, hq⟩ | ⟨rfl, hq⟩
  · skip
    have hc_6 := hq
    refine lv_if_eq (tgt := 23) hx hb dX11_once_4 (by decide) (fun c => absurd c (by decide)) (fun c => ?_)
    refine lv_iload_n hx hb dX11_once_7 rfl (lv_at hl 2 rfl) ?_
    refine sg_calli (va_runS (As := [.int x1]) (rest := []) ⟨hx, hb, hml, hown, hts⟩ (kX11_isPart l D ca za h hh f L Q hI x1 H.size) (va_cwS 1 hts (gw_S (fun _ h => List.mem_cons_of_mem _ h) mw_58 mw_59 mw_37 mw_57) rfl rfl rfl hd_yX11_isPart.2 ⟨Nat.le_of_ble_eq_true rfl, Nat.le_of_ble_eq_true rfl⟩) (sg_preS hA hK hP hS hZ) rfl rfl hl.1 rfl (lv_room (Nat.le_of_ble_eq_true rfl)) dX11_once_8 ⟨Nat.le_refl _, Nat.le_refl _⟩) hA hS (fun r_10 f_7 L_8 Q_9 H locs hq hP hS => ?_)
    obtain ⟨⟨ef9, eL9, eQ9⟩, hq, u_11⟩ := hq
    replace hs := hs.trans ((if_pos rfl).trans (spl_e u_11 rfl))
    rw [ef9, eL9, eQ9] at hP; clear ef9 eL9 eQ9
    rcases hq with ⟨rfl, hq⟩ | ⟨rfl, hq⟩
    · skip
      have hc_12 := hq
      refine lv_if_eq (tgt := 23) hx hb dX11_once_11 (by decide) (fun c => absurd c (by decide)) (fun c => ?_)
      refine lv_iload_n hx hb dX11_once_14 rfl (lv_at hl 3 rfl) ?_
      refine lv_if_lt (tgt := 23) hx hb dX11_once_15 (by decide) (fun c => ?_) (fun c => ?_)
      · skip
        have c_13 : x2.toInt < 0 := (by first | exact (cm_lt1 ti_0 c) | (have z := bn_lt c; have k1 : (0 : Int32).toInt = 0 := ti_0; omega))
        refine lv_iconst (v := (-1)) hx hb dX11_once_23 ic_m1 ?_
        have k99 : ((-1) : Int32).toInt = (-1) := ti_m1
        exact hret _ _ _ _ (-1) f L Q dX11_once_24 hP hS ⟨⟨hI, hF, rfl, rfl⟩, trivial, (Eq.trans (Eq.symm (hs.trans ((if_pos rfl).trans ((if_pos c_13).trans rfl)))) hsp)⟩
      · skip
        have c_14 : 0 ≤ x2.toInt := (by first | exact (cm_nlt1 ti_0 c) | (have z := bn_nlt c; have k1 : (0 : Int32).toInt = 0 := ti_0; omega))
        replace hs := hs.trans ((if_pos rfl).trans ((if_neg (Int.not_lt.mpr c_14)).trans rfl))
        refine lv_iload_n hx hb dX11_once_18 rfl (lv_at hl 3 rfl) ?_
        refine lv_iconst (v := 2) hx hb dX11_once_19 ic_2 ?_
        refine lv_icmp_le (tgt := 25) hx hb dX11_once_20 (by decide) (fun c => ?_) (fun c => ?_)
        · skip
          have c_15 : x2.toInt ≤ 2 := (by first | exact (cm_le1 ti_2 c) | (have z := bn_le c; have k1 : (2 : Int32).toInt = 2 := ti_2; omega))
          refine lv_aload_n hx hb dX11_once_25 rfl (lv_at hl 0 rfl) ?_
          refine lv_iload_n hx hb dX11_once_26 rfl (lv_at hl 1 rfl) ?_
          refine sg_calli (va_runV (As := [.int x0]) (rest := []) ⟨hx, hb, hml, hown, hts⟩ (kX11_readWeek l D ca za h hh f L Q hI x0 ⟨by omega, by omega⟩ H.size) (sl_c11_readWeek_2_0_0_45_11 hts ⟨Nat.le_of_ble_eq_true rfl, Nat.le_of_ble_eq_true rfl⟩) (sl_vX_0 hA hK hP hS hZ) rfl rfl hl.1 rfl (lv_room (Nat.le_of_ble_eq_true rfl)) dX11_once_27 ⟨Nat.le_refl _, Nat.le_refl _⟩) hA hS (fun r_20 f_17 L_18 Q_19 H locs hq hP hS => ?_)
          obtain ⟨⟨hI, hk_f_17, eL9, eQ9⟩, hq, u_21⟩ := hq
          replace hs := hs.trans ((if_neg (Int.not_lt.mpr c_15)).trans (spl2_e u_21 rfl))
          rw [eL9, eQ9] at hP; clear eL9 eQ9
          have hF : sgK WkX11_once f f_17 := sgK.tr hF hk_f_17 (by decide +kernel)
          refine lv_istore (lv' := [(4, .int r_20), (0, .ref (h 0)), (1, .int x0), (2, .int x1), (3, .int x2)]) hx hb dX11_once_30 hl (by decide) rfl (fun ls hl => ?_)
          refine lv_iload hx hb dX11_once_32 (lv_at hl 0 rfl) ?_
          refine lv_if_eq (tgt := 42) hx hb dX11_once_34 (by decide) (fun c => ?_) (fun c => ?_)
          · skip
            have c_22 : r_20.toInt = 0 := (by first | exact (cm_eq1 ti_0 c) | (have z := Int32.toInt_inj.mpr c; have k1 : (0 : Int32).toInt = 0 := ti_0; omega))
            refine lv_aload_n hx hb dX11_once_42 rfl (lv_at hl 1 rfl) ?_
            refine sl_gX_0_4_11 hx hb hts hown hK hP dX11_once_43 ?_
            refine lv_iload_n hx hb dX11_once_46 rfl (lv_at hl 3 rfl) ?_
            refine lv_iload_n hx hb dX11_once_47 rfl (lv_at hl 4 rfl) ?_
            refine sg_calli (va_runV (As := [.int x1, .int x2]) (rest := []) ⟨hx, hb, hml, hown, hts⟩ (kX9_oneTurning l D ca za h hh f_17 L Q hI x1 x2 ⟨by omega, by omega⟩ ⟨by omega, by omega⟩ H.size) (sl_c9_oneTurning_6_0_0_151_11 hts ⟨Nat.le_of_ble_eq_true rfl, Nat.le_of_ble_eq_true rfl⟩) (sl_vX_25 hA hK hP hS hZ) rfl rfl hl.1 rfl (lv_room (Nat.le_of_ble_eq_true rfl)) dX11_once_48 ⟨Nat.le_refl _, Nat.le_refl _⟩) hA hS (fun r_27 f_24 L_25 Q_26 H locs hq hP hS => ?_)
            obtain ⟨⟨hI, hk_f_24, eL9, eQ9⟩, hq, u_28⟩ := hq
            rw [eL9, eQ9] at hP; clear eL9 eQ9
            have hF : sgK WkX11_once f f_24 := sgK.tr hF hk_f_24 (by decide +kernel)
            exact hret _ _ _ _ (r_27) f_24 L Q dX11_once_51 hP hS ⟨⟨hI, hF, rfl, rfl⟩, trivial, (Eq.trans (Eq.symm (hs.trans ((if_pos c_22).trans (spl2_e u_28 rfl)))) hsp)⟩
          · skip
            have c_23 : r_20.toInt ≠ 0 := (by first | exact (cm_ne1 ti_0 c) | (have z := bn_ne c; have k1 : (0 : Int32).toInt = 0 := ti_0; omega))
            refine lv_iload hx hb dX11_once_37 (lv_at hl 0 rfl) ?_
            refine lv_goto (tgt := 51) hx hb dX11_once_39 (by decide) ?_
            exact hret _ _ _ _ (r_20) f_17 L Q dX11_once_51 hP hS ⟨⟨hI, hF, rfl, rfl⟩, trivial, (Eq.trans (Eq.symm (hs.trans ((if_neg c_23).trans rfl))) hsp)⟩
        · skip
          have c_16 : 2 < x2.toInt := (by first | exact (cm_nle1 ti_2 c) | (have z := bn_nle c; have k1 : (2 : Int32).toInt = 2 := ti_2; omega))
          refine lv_iconst (v := (-1)) hx hb dX11_once_23 ic_m1 ?_
          have k99 : ((-1) : Int32).toInt = (-1) := ti_m1
          exact hret _ _ _ _ (-1) f L Q dX11_once_24 hP hS ⟨⟨hI, hF, rfl, rfl⟩, trivial, (Eq.trans (Eq.symm (hs.trans ((if_pos c_16).trans rfl))) hsp)⟩
    · skip
      have hc_12 := hq
      refine lv_if_eq (tgt := 23) hx hb dX11_once_11 (by decide) (fun c => ?_) (fun c => absurd c (by decide))
      refine lv_iconst (v := (-1)) hx hb dX11_once_23 ic_m1 ?_
      have k99 : ((-1) : Int32).toInt = (-1) := ti_m1
      exact hret _ _ _ _ (-1) f L Q dX11_once_24 hP hS ⟨⟨hI, hF, rfl, rfl⟩, trivial, (Eq.trans (Eq.symm (hs.trans ((if_neg (by decide)).trans rfl))) hsp)⟩
  · skip
    have hc_6 := hq
    refine lv_if_eq (tgt := 23) hx hb dX11_once_4 (by decide) (fun c => ?_) (fun c => absurd c (by decide))
    refine lv_iconst (v := (-1)) hx hb dX11_once_23 ic_m1 ?_
    have k99 : ((-1) : Int32).toInt = (-1) := ti_m1
    exact hret _ _ _ _ (-1) f L Q dX11_once_24 hP hS ⟨⟨hI, hF, rfl, rfl⟩, trivial, (Eq.trans (Eq.symm (hs.trans ((if_neg (by decide)).trans rfl))) hsp)⟩

abbrev WkX4_standAsNow : List (Nat × Nat × Option Nat) := [(14, 14, none)]
set_option maxHeartbeats 4000000 in
set_option maxRecDepth 100000 in
theorem kX4_standAsNow (l : Launch) (D : va_G) (ca : Nat → ClassId) (za h : Nat → Nat) (hh : sgH 52 h) (f : sg_F) (L : sg_L) (Q : sg_Q) (hI : sgI loX hiX f) (sz : Nat) : Met l yX4_standAsNow gwX4_standAsNow { frames := 0, cells := 0, slots := 0, locals := 0 } (sgP D vwCl (tyX ca) 52 h (eX ca h) zcX za f L Q sz [.ref (h 13)]) (sgQv D vwCl 52 h (eX ca h) sz (fun f1 L1 Q1 => ((sgI loX hiX f1 ∧ sgK WkX4_standAsNow f f1 ∧ L1 = L ∧ Q1 = Q) ∧ (f1) = sX4_standAsNow f L))) 0 0 (sgA 52 h sz) := by
  refine sg_ofWv (cc := cX4_standAsNow) (maxL := 2) RX4 (by decide) rfl rfl (Nat.le_of_ble_eq_true rfl) ?_
  intro p e s m below meth cd Qz ls hx hb hml hown hts hK hZ hP hS hl hret
  have hA := sgY.self (n := 52) (h := h) (sz := s.heap.size)
  have hl : lv_has ls 2 [(0, .ref (h 13))] := hl
  obtain ⟨H, hH⟩ : ∃ z : Heap, z = s.heap := ⟨_, rfl⟩
  obtain ⟨locs, hlo⟩ : ∃ z : List Loc, z = [] := ⟨_, rfl⟩
  have hP : va_P D vwCl (sgw 52 h (eX ca h) f L Q) H := by rw [hH]; exact hP
  have hS : va_S (sgA 52 h s.heap.size) s.heap H locs := by rw [hH, hlo]; exact hS
  suffices hgo : W p l e ({ frames := 0, cells := 0, slots := 0, locals := 0 }) s m ([.ref (h 13)] : List Value).toArray below meth cd H locs 0 0 Qz (F0 m 0 ls []) by rw [hH, hlo] at hgo; exact hgo
  clear hH hlo
  obtain ⟨sp, hsp⟩ : ∃ z : sg_F, z = sX4_standAsNow f L := ⟨_, rfl⟩
  have hs : sp = sX4_standAsNow f L := hsp
  have hF : sgK WkX4_standAsNow f f := sgK.rf
  have loop_2 : ∀ (n_2 : Nat) (y1_2 : Int32) (fp_2 : sg_F) (H : Heap) (locs : List Loc) (ls : Array Slot), sp = sX4_standAsNow_l2 n_2 y1_2 fp_2 L → 3 - y1_2.toInt < (n_2 : Int) → 0 ≤ y1_2.toInt ∧ y1_2.toInt ≤ 3 → sgI loX hiX fp_2 → sgK WkX4_standAsNow f fp_2 → va_P D vwCl (sgw 52 h (eX ca h) fp_2 L Q) H → va_S (sgA 52 h s.heap.size) s.heap H locs → lv_has ls 2 [(0, .ref (h 13)), (1, .int y1_2)] → W p l e ({ frames := 0, cells := 0, slots := 0, locals := 0 }) s m ([.ref (h 13)] : List Value).toArray below meth cd H locs 0 0 Qz (F0 m 2 ls []) := by
    intro n_2
    induction n_2 with
    | zero => intro y1_2 fp_2 H locs ls hs hm_2 hy0_2 hI hF hP hS hl; exact absurd hm_2 (by omega)
    | succ n_2 ih_2 =>
      intro y1_2 fp_2 H locs ls hs hm_2 hy0_2 hI hF hP hS hl
      have hs : sp = sX4_standAsNow_h2 (sX4_standAsNow_l2 n_2) y1_2 fp_2 L := hs
      refine lv_iload_n hx hb dX4_standAsNow_2 rfl (lv_at hl 1 rfl) ?_
      refine lv_iconst (v := 3) hx hb dX4_standAsNow_3 ic_3 ?_
      refine lv_icmp_ge (tgt := 28) hx hb dX4_standAsNow_4 (by decide) (fun c => ?_) (fun c => ?_)
      · skip
        have c_1 : 3 ≤ y1_2.toInt := (by first | exact (cm_le0 ti_3 c) | (have z := bn_le c; have k1 : (3 : Int32).toInt = 3 := ti_3; omega))
        exact hret _ _ _ _ fp_2 L Q dX4_standAsNow_28 hP hS ⟨⟨hI, hF, rfl, rfl⟩, (Eq.trans (Eq.symm (hs.trans (((if_neg (Int.not_lt.mpr c_1)).trans rfl)))) hsp)⟩
      · skip
        have c_2 : y1_2.toInt < 3 := (by first | exact (cm_nle0 ti_3 c) | (have z := bn_nle c; have k1 : (3 : Int32).toInt = 3 := ti_3; omega))
        refine lv_aload_n hx hb dX4_standAsNow_7 rfl (lv_at hl 0 rfl) ?_
        refine sl_gX_13_2_4 hx hb hts hown hK hP dX4_standAsNow_8 ?_
        refine lv_iload_n hx hb dX4_standAsNow_11 rfl (lv_at hl 1 rfl) ?_
        refine lv_aload_n hx hb dX4_standAsNow_12 rfl (lv_at hl 0 rfl) ?_
        refine sl_gX_13_0_4 hx hb hts hown hK hP dX4_standAsNow_13 ?_
        refine sl_gX_1_1_4 hx hb hts hown hK hP dX4_standAsNow_16 ?_
        refine lv_iload_n hx hb dX4_standAsNow_19 rfl (lv_at hl 1 rfl) ?_
        refine sg_iald hx hb hK hP 3 (by decide) 0 rfl rfl (i := y1_2) (vp_in_iff.mpr ⟨by omega, by omega⟩) dX4_standAsNow_20 ?_
        refine lv_topi (fun v_3 ev_3 => ?_)
        have q_4 : 0 ≤ v_3.toInt ∧ v_3.toInt ≤ 60 := by rw [ev_3]; exact hI 3 _
        refine sg_iast hx hb hh hA hK hP hS 14 (by decide) 0 (fun _ => rfl) rfl (i := y1_2) (x := v_3) (vp_in_iff.mpr ⟨by omega, by omega⟩) dX4_standAsNow_21 (fun f_5 H locs ef_5 hP hS => ?_)
        have hI : sgI loX hiX f_5 := by rw [ef_5]; exact sgI.put hI 14 y1_2.toNatClampNeg (show 0 ≤ (v_3 : Int32).toInt ∧ (v_3 : Int32).toInt ≤ 60 from q_4)
        have hF : sgK WkX4_standAsNow f f_5 := sgK.put hF ef_5 (by rfl)
        obtain ⟨v_6, ev_6⟩ : ∃ z : Int32, z = y1_2 + 1 := ⟨_, rfl⟩
        have q_7 : v_6.toInt = y1_2.toInt + 1 := by rw [ev_6]; exact (bn_addc y1_2 1 (by decide) (by omega) (by omega))
        refine lv_iinc (v := v_6) (lv' := [(1, .int v_6), (0, .ref (h 13))]) hx hb dX4_standAsNow_22 hl (k := 1) rfl (by rw [ev_6]; rfl) (by decide) rfl (fun ls hl => ?_)
        refine lv_goto (tgt := 2) hx hb dX4_standAsNow_25 (by decide) ?_
        exact ih_2 v_6 f_5 _ _ _ (hs.trans (((if_pos c_2).trans (spl_e ev_3 (spl_e ef_5 (spl_e ev_6 rfl)))))) (by omega) ⟨by omega, by omega⟩ hI hF hP hS (lv_sub hl [1, 0] rfl)
  refine lv_iconst (v := 0) hx hb dX4_standAsNow_0 ic_0 ?_
  refine lv_istore_n (lv' := [(1, .int 0), (0, .ref (h 13))]) hx hb dX4_standAsNow_1 rfl hl (by decide) rfl (fun ls hl => ?_)
  exact loop_2 4 0 f _ _ _ hs (by have kc0 : (0 : Int32).toInt = 0 := ti_0; omega) (by decide) hI hF hP hS (lv_sub hl [1, 0] rfl)

abbrev WkX4_begin : List (Nat × Nat × Option Nat) := [(13, 13, some 5), (13, 13, some 6), (14, 14, none), (15, 15, none), (16, 16, none)]
set_option maxHeartbeats 4000000 in
set_option maxRecDepth 100000 in
theorem kX4_begin (l : Launch) (D : va_G) (ca : Nat → ClassId) (za h : Nat → Nat) (hh : sgH 52 h) (f : sg_F) (L : sg_L) (Q : sg_Q) (hI : sgI loX hiX f) (sz : Nat) : Met l yX4_begin gwX4_begin { frames := 1, cells := 0, slots := 0, locals := 21 } (sgP D vwCl (tyX ca) 52 h (eX ca h) zcX za f L Q sz [.ref (h 13)]) (sgQv D vwCl 52 h (eX ca h) sz (fun f1 L1 Q1 => ((sgI loX hiX f1 ∧ sgK WkX4_begin f f1 ∧ L1 = L ∧ Q1 = Q) ∧ (f1) = sX4_begin f L))) 0 0 (sgA 52 h sz) := by
  refine sg_ofWv (cc := cX4_begin) (maxL := 2) RX4 (by decide) rfl rfl (Nat.le_of_ble_eq_true rfl) ?_
  intro p e s m below meth cd Qz ls hx hb hml hown hts hK hZ hP hS hl hret
  have hA := sgY.self (n := 52) (h := h) (sz := s.heap.size)
  have hl : lv_has ls 2 [(0, .ref (h 13))] := hl
  obtain ⟨H, hH⟩ : ∃ z : Heap, z = s.heap := ⟨_, rfl⟩
  obtain ⟨locs, hlo⟩ : ∃ z : List Loc, z = [] := ⟨_, rfl⟩
  have hP : va_P D vwCl (sgw 52 h (eX ca h) f L Q) H := by rw [hH]; exact hP
  have hS : va_S (sgA 52 h s.heap.size) s.heap H locs := by rw [hH, hlo]; exact hS
  suffices hgo : W p l e ({ frames := 1, cells := 0, slots := 0, locals := 21 }) s m ([.ref (h 13)] : List Value).toArray below meth cd H locs 0 0 Qz (F0 m 0 ls []) by rw [hH, hlo] at hgo; exact hgo
  clear hH hlo
  obtain ⟨sp, hsp⟩ : ∃ z : sg_F, z = sX4_begin f L := ⟨_, rfl⟩
  have hs : sp = sX4_begin f L := hsp
  have hF : sgK WkX4_begin f f := sgK.rf
  have loop_32 : ∀ (n_32 : Nat) (y1_32 : Int32) (fp_32 : sg_F) (H : Heap) (locs : List Loc) (ls : Array Slot), sp = sX4_begin_l32 n_32 y1_32 fp_32 L → 8 - y1_32.toInt < (n_32 : Int) → 0 ≤ (fp_32 13 5).toInt ∧ (fp_32 13 5).toInt ≤ 0 → 0 ≤ (fp_32 13 6).toInt ∧ (fp_32 13 6).toInt ≤ 0 → 0 ≤ y1_32.toInt ∧ y1_32.toInt ≤ 8 → sgI loX hiX fp_32 → sgK WkX4_begin f fp_32 → va_P D vwCl (sgw 52 h (eX ca h) fp_32 L Q) H → va_S (sgA 52 h s.heap.size) s.heap H locs → lv_has ls 2 [(0, .ref (h 13)), (1, .int y1_32)] → W p l e ({ frames := 1, cells := 0, slots := 0, locals := 21 }) s m ([.ref (h 13)] : List Value).toArray below meth cd H locs 0 0 Qz (F0 m 32 ls []) := by
    intro n_32
    induction n_32 with
    | zero => intro y1_32 fp_32 H locs ls hs hm_32 hy0_32 hy1_32 hy2_32 hI hF hP hS hl; exact absurd hm_32 (by omega)
    | succ n_32 ih_32 =>
      intro y1_32 fp_32 H locs ls hs hm_32 hy0_32 hy1_32 hy2_32 hI hF hP hS hl
      have hs : sp = sX4_begin_h32 (sX4_begin_l32 n_32) y1_32 fp_32 L := hs
      obtain ⟨v_1, ev_1⟩ : ∃ z : Int32, z = fp_32 13 5 := ⟨_, rfl⟩
      have q_2 : (fp_32 13 5).toInt = v_1.toInt := by rw [ev_1]
      obtain ⟨v_3, ev_3⟩ : ∃ z : Int32, z = fp_32 13 6 := ⟨_, rfl⟩
      replace hs := hs.trans (spl_e ev_1 (spl_e ev_3 rfl))
      have q_4 : (fp_32 13 6).toInt = v_3.toInt := by rw [ev_3]
      refine lv_iload_n hx hb dX4_begin_32 rfl (lv_at hl 1 rfl) ?_
      refine lv_bipush (v := 8) hx hb dX4_begin_33 bp_8 ?_
      refine lv_icmp_ge (tgt := 51) hx hb dX4_begin_35 (by decide) (fun c => ?_) (fun c => ?_)
      · skip
        have c_5 : 8 ≤ y1_32.toInt := (by first | exact (cm_le0 ti_8 c) | (have z := bn_le c; have k1 : (8 : Int32).toInt = 8 := ti_8; omega))
        refine lv_aload_n hx hb dX4_begin_51 rfl (lv_at hl 0 rfl) ?_
        refine sg_callv (va_runV (As := []) (rest := []) ⟨hx, hb, hml, hown, hts⟩ (kX4_standAsNow l D ca za h hh fp_32 L Q hI H.size) (sl_c4_standAsNow_0_0_0_0_4 hts ⟨Nat.le_of_ble_eq_true rfl, Nat.le_of_ble_eq_true rfl⟩) (sl_vX_13 hA hK hP hS hZ) rfl rfl hl.1 rfl (lv_room (Nat.le_of_ble_eq_true rfl)) dX4_begin_52 ⟨Nat.le_refl _, Nat.le_refl _⟩) hA hS (fun f_7 L_8 Q_9 H locs hq hP hS => ?_)
        obtain ⟨⟨hI, hk_f_7, eL9, eQ9⟩, u_10⟩ := hq
        rw [eL9, eQ9] at hP; clear eL9 eQ9
        have hF : sgK WkX4_begin f f_7 := sgK.tr hF hk_f_7 (by decide +kernel)
        exact hret _ _ _ _ f_7 L Q dX4_begin_55 hP hS ⟨⟨hI, hF, rfl, rfl⟩, (Eq.trans (Eq.symm (hs.trans ((if_neg (Int.not_lt.mpr c_5)).trans (spl_e u_10 rfl)))) hsp)⟩
      · skip
        have c_6 : y1_32.toInt < 8 := (by first | exact (cm_nle0 ti_8 c) | (have z := bn_nle c; have k1 : (8 : Int32).toInt = 8 := ti_8; omega))
        refine lv_aload_n hx hb dX4_begin_38 rfl (lv_at hl 0 rfl) ?_
        refine sl_gX_13_4_4 hx hb hts hown hK hP dX4_begin_39 ?_
        refine lv_iload_n hx hb dX4_begin_42 rfl (lv_at hl 1 rfl) ?_
        refine lv_iconst (v := 0) hx hb dX4_begin_43 ic_0 ?_
        refine sg_iast hx hb hh hA hK hP hS 16 (by decide) 0 (fun _ => rfl) rfl (i := y1_32) (x := 0) (vp_in_iff.mpr ⟨by omega, by omega⟩) dX4_begin_44 (fun f_11 H locs ef_11 hP hS => ?_)
        have hI : sgI loX hiX f_11 := by rw [ef_11]; exact sgI.put hI 16 y1_32.toNatClampNeg (bn_top _)
        have hF : sgK WkX4_begin f f_11 := sgK.put hF ef_11 (by rfl)
        obtain ⟨v_12, ev_12⟩ : ∃ z : Int32, z = y1_32 + 1 := ⟨_, rfl⟩
        have q_13 : v_12.toInt = y1_32.toInt + 1 := by rw [ev_12]; exact (bn_addc y1_32 1 (by decide) (by omega) (by omega))
        refine lv_iinc (v := v_12) (lv' := [(1, .int v_12), (0, .ref (h 13))]) hx hb dX4_begin_45 hl (k := 1) rfl (by rw [ev_12]; rfl) (by decide) rfl (fun ls hl => ?_)
        refine lv_goto (tgt := 32) hx hb dX4_begin_48 (by decide) ?_
        exact ih_32 v_12 f_11 _ _ _ (hs.trans ((if_pos c_6).trans (spl_e ef_11 (spl_e ev_12 rfl)))) (by omega) (by have zz13_5 : (f_11 13 5).toInt = v_1.toInt := (congrArg Int32.toInt (show f_11 13 5 = v_1 from (by rw [ef_11, sg_up_n (by decide)]; exact ev_1.symm))); exact ⟨by omega, by omega⟩) (by have zz13_6 : (f_11 13 6).toInt = v_3.toInt := (congrArg Int32.toInt (show f_11 13 6 = v_3 from (by rw [ef_11, sg_up_n (by decide)]; exact ev_3.symm))); exact ⟨by omega, by omega⟩) ⟨by omega, by omega⟩ hI hF hP hS (lv_sub hl [1, 0] rfl)
  have loop_12 : ∀ (n_12 : Nat) (y1_12 : Int32) (fp_12 : sg_F) (H : Heap) (locs : List Loc) (ls : Array Slot), sp = sX4_begin_l12 n_12 y1_12 fp_12 L → 3 - y1_12.toInt < (n_12 : Int) → 0 ≤ (fp_12 13 5).toInt ∧ (fp_12 13 5).toInt ≤ 0 → 0 ≤ (fp_12 13 6).toInt ∧ (fp_12 13 6).toInt ≤ 0 → 0 ≤ y1_12.toInt ∧ y1_12.toInt ≤ 3 → sgI loX hiX fp_12 → sgK WkX4_begin f fp_12 → va_P D vwCl (sgw 52 h (eX ca h) fp_12 L Q) H → va_S (sgA 52 h s.heap.size) s.heap H locs → lv_has ls 2 [(0, .ref (h 13)), (1, .int y1_12)] → W p l e ({ frames := 1, cells := 0, slots := 0, locals := 21 }) s m ([.ref (h 13)] : List Value).toArray below meth cd H locs 0 0 Qz (F0 m 12 ls []) := by
    intro n_12
    induction n_12 with
    | zero => intro y1_12 fp_12 H locs ls hs hm_12 hy0_12 hy1_12 hy2_12 hI hF hP hS hl; exact absurd hm_12 (by omega)
    | succ n_12 ih_12 =>
      intro y1_12 fp_12 H locs ls hs hm_12 hy0_12 hy1_12 hy2_12 hI hF hP hS hl
      have hs : sp = sX4_begin_h12 (sX4_begin_l12 n_12) y1_12 fp_12 L := hs
      obtain ⟨v_14, ev_14⟩ : ∃ z : Int32, z = fp_12 13 5 := ⟨_, rfl⟩
      have q_15 : (fp_12 13 5).toInt = v_14.toInt := by rw [ev_14]
      obtain ⟨v_16, ev_16⟩ : ∃ z : Int32, z = fp_12 13 6 := ⟨_, rfl⟩
      replace hs := hs.trans (spl_e ev_14 (spl_e ev_16 rfl))
      have q_17 : (fp_12 13 6).toInt = v_16.toInt := by rw [ev_16]
      refine lv_iload_n hx hb dX4_begin_12 rfl (lv_at hl 1 rfl) ?_
      refine lv_iconst (v := 3) hx hb dX4_begin_13 ic_3 ?_
      refine lv_icmp_ge (tgt := 30) hx hb dX4_begin_14 (by decide) (fun c => ?_) (fun c => ?_)
      · skip
        have c_18 : 3 ≤ y1_12.toInt := (by first | exact (cm_le0 ti_3 c) | (have z := bn_le c; have k1 : (3 : Int32).toInt = 3 := ti_3; omega))
        refine lv_iconst (v := 0) hx hb dX4_begin_30 ic_0 ?_
        refine lv_istore_n (lv' := [(1, .int 0), (0, .ref (h 13))]) hx hb dX4_begin_31 rfl hl (by decide) rfl (fun ls hl => ?_)
        exact loop_32 9 0 fp_12 _ _ _ (hs.trans ((if_neg (Int.not_lt.mpr c_18)).trans rfl)) (by have kc0 : (0 : Int32).toInt = 0 := ti_0; omega) (by have zz13_5 : (fp_12 13 5).toInt = v_14.toInt := (congrArg Int32.toInt (show fp_12 13 5 = v_14 from ev_14.symm)); exact ⟨by omega, by omega⟩) (by have zz13_6 : (fp_12 13 6).toInt = v_16.toInt := (congrArg Int32.toInt (show fp_12 13 6 = v_16 from ev_16.symm)); exact ⟨by omega, by omega⟩) (by decide) hI hF hP hS (lv_sub hl [1, 0] rfl)
      · skip
        have c_19 : y1_12.toInt < 3 := (by first | exact (cm_nle0 ti_3 c) | (have z := bn_nle c; have k1 : (3 : Int32).toInt = 3 := ti_3; omega))
        refine lv_aload_n hx hb dX4_begin_17 rfl (lv_at hl 0 rfl) ?_
        refine sl_gX_13_3_4 hx hb hts hown hK hP dX4_begin_18 ?_
        refine lv_iload_n hx hb dX4_begin_21 rfl (lv_at hl 1 rfl) ?_
        refine lv_iconst (v := 0) hx hb dX4_begin_22 ic_0 ?_
        refine sg_iast hx hb hh hA hK hP hS 15 (by decide) 0 (fun _ => rfl) rfl (i := y1_12) (x := 0) (vp_in_iff.mpr ⟨by omega, by omega⟩) dX4_begin_23 (fun f_20 H locs ef_20 hP hS => ?_)
        have hI : sgI loX hiX f_20 := by rw [ef_20]; exact sgI.put hI 15 y1_12.toNatClampNeg (bn_top _)
        have hF : sgK WkX4_begin f f_20 := sgK.put hF ef_20 (by rfl)
        obtain ⟨v_21, ev_21⟩ : ∃ z : Int32, z = y1_12 + 1 := ⟨_, rfl⟩
        have q_22 : v_21.toInt = y1_12.toInt + 1 := by rw [ev_21]; exact (bn_addc y1_12 1 (by decide) (by omega) (by omega))
        refine lv_iinc (v := v_21) (lv' := [(1, .int v_21), (0, .ref (h 13))]) hx hb dX4_begin_24 hl (k := 1) rfl (by rw [ev_21]; rfl) (by decide) rfl (fun ls hl => ?_)
        refine lv_goto (tgt := 12) hx hb dX4_begin_27 (by decide) ?_
        exact ih_12 v_21 f_20 _ _ _ (hs.trans ((if_pos c_19).trans (spl_e ef_20 (spl_e ev_21 rfl)))) (by omega) (by have zz13_5 : (f_20 13 5).toInt = v_14.toInt := (congrArg Int32.toInt (show f_20 13 5 = v_14 from (by rw [ef_20, sg_up_n (by decide)]; exact ev_14.symm))); exact ⟨by omega, by omega⟩) (by have zz13_6 : (f_20 13 6).toInt = v_16.toInt := (congrArg Int32.toInt (show f_20 13 6 = v_16 from (by rw [ef_20, sg_up_n (by decide)]; exact ev_16.symm))); exact ⟨by omega, by omega⟩) ⟨by omega, by omega⟩ hI hF hP hS (lv_sub hl [1, 0] rfl)
  refine lv_aload_n hx hb dX4_begin_0 rfl (lv_at hl 0 rfl) ?_
  refine lv_iconst (v := 0) hx hb dX4_begin_1 ic_0 ?_
  refine sl_pX_13_5_4 (x := 0) hx hb hts hown hh hA hK hP hS dX4_begin_2 (fun f_23 H locs ef_23 hP hS => ?_)
  have hI : sgI loX hiX f_23 := by rw [ef_23]; exact sgI.put hI 13 5 (bn_top _)
  have hF : sgK WkX4_begin f f_23 := sgK.put hF ef_23 (by rfl)
  refine lv_aload_n hx hb dX4_begin_5 rfl (lv_at hl 0 rfl) ?_
  refine lv_iconst (v := 0) hx hb dX4_begin_6 ic_0 ?_
  refine sl_pX_13_6_4 (x := 0) hx hb hts hown hh hA hK hP hS dX4_begin_7 (fun f_24 H locs ef_24 hP hS => ?_)
  have hI : sgI loX hiX f_24 := by rw [ef_24]; exact sgI.put hI 13 6 (bn_top _)
  have hF : sgK WkX4_begin f f_24 := sgK.put hF ef_24 (by rfl)
  refine lv_iconst (v := 0) hx hb dX4_begin_10 ic_0 ?_
  refine lv_istore_n (lv' := [(1, .int 0), (0, .ref (h 13))]) hx hb dX4_begin_11 rfl hl (by decide) rfl (fun ls hl => ?_)
  exact loop_12 4 0 f_24 _ _ _ (hs.trans ((spl_e ef_23 (spl_e ef_24 rfl)))) (by have kc0 : (0 : Int32).toInt = 0 := ti_0; omega) (by have zz13_5 : (f_24 13 5).toInt = 0 := (congrArg Int32.toInt (show f_24 13 5 = 0 from (by rw [ef_24, sg_up_s, sgu_n (by decide)]; exact (by rw [ef_23, sg_up_s, sgu_s])))).trans (by decide); exact ⟨by omega, by omega⟩) (by have zz13_6 : (f_24 13 6).toInt = 0 := (congrArg Int32.toInt (show f_24 13 6 = 0 from (by rw [ef_24, sg_up_s, sgu_s]))).trans (by decide); exact ⟨by omega, by omega⟩) (by decide) hI hF hP hS (lv_sub hl [1, 0] rfl)

set_option maxHeartbeats 4000000 in
set_option maxRecDepth 100000 in
theorem kX0_turned (l : Launch) (D : va_G) (ca : Nat → ClassId) (za h : Nat → Nat) (hh : sgH 52 h) (f : sg_F) (L : sg_L) (Q : sg_Q) (hI : sgI loX hiX f) (x0 : Int32) (x1 : Int32) (x2 : Int32) (x3 : Int32) (b0 : 0 ≤ x0.toInt ∧ x0.toInt ≤ 7) (b1 : 0 ≤ x1.toInt ∧ x1.toInt ≤ 2) (b2 : 0 ≤ x2.toInt ∧ x2.toInt ≤ 60) (b3 : 0 ≤ x3.toInt ∧ x3.toInt ≤ 60) (sz : Nat) : Met l yX0_turned gwX0_turned { frames := 1, cells := 0, slots := 0, locals := 22 } (sgP D vwCl (tyX ca) 52 h (eX ca h) zcX za f L Q sz [.ref (h 1), .int x0, .int x1, .int x2, .int x3]) (sgQi D vwCl 52 h (eX ca h) sz (fun r f1 L1 Q1 => ((f1 = f ∧ L1 = L ∧ Q1 = Q) ∧ (0 ≤ r.toInt ∧ r.toInt ≤ 60) ∧ (r) = sX0_turned x0 x1 x2 x3 f L))) 0 0 (sgA 52 h sz) := by
  refine sg_ofWi (cc := cX0_turned) (maxL := 6) RX0 (by decide) rfl rfl (Nat.le_of_ble_eq_true rfl) ?_
  intro p e s m below meth cd Qz ls hx hb hml hown hts hK hZ hP hS hl hret
  have hA := sgY.self (n := 52) (h := h) (sz := s.heap.size)
  have hl : lv_has ls 6 [(0, .ref (h 1)), (1, .int x0), (2, .int x1), (3, .int x2), (4, .int x3)] := hl
  obtain ⟨H, hH⟩ : ∃ z : Heap, z = s.heap := ⟨_, rfl⟩
  obtain ⟨locs, hlo⟩ : ∃ z : List Loc, z = [] := ⟨_, rfl⟩
  have hP : va_P D vwCl (sgw 52 h (eX ca h) f L Q) H := by rw [hH]; exact hP
  have hS : va_S (sgA 52 h s.heap.size) s.heap H locs := by rw [hH, hlo]; exact hS
  suffices hgo : W p l e ({ frames := 1, cells := 0, slots := 0, locals := 22 }) s m ([.ref (h 1), .int x0, .int x1, .int x2, .int x3] : List Value).toArray below meth cd H locs 0 0 Qz (F0 m 0 ls []) by rw [hH, hlo] at hgo; exact hgo
  clear hH hlo
  obtain ⟨sp, hsp⟩ : ∃ z : Int32, z = sX0_turned x0 x1 x2 x3 f L := ⟨_, rfl⟩
  have hs : sp = sX0_turned x0 x1 x2 x3 f L := hsp
  refine lv_aload_n hx hb dX0_turned_0 rfl (lv_at hl 0 rfl) ?_
  refine lv_iload_n hx hb dX0_turned_1 rfl (lv_at hl 1 rfl) ?_
  refine lv_iload_n hx hb dX0_turned_2 rfl (lv_at hl 2 rfl) ?_
  refine sg_calli (va_runV (As := [.int x0, .int x1]) (rest := []) ⟨hx, hb, hml, hown, hts⟩ (kX0_numberOf l D ca za h hh f L Q hI x0 x1 b0 ⟨by omega, by omega⟩ H.size) (sl_c0_numberOf_0_0_0_0_0 hts ⟨Nat.le_of_ble_eq_true rfl, Nat.le_of_ble_eq_true rfl⟩) (sl_vX_1 hA hK hP hS hZ) rfl rfl hl.1 rfl (lv_room (Nat.le_of_ble_eq_true rfl)) dX0_turned_3 ⟨Nat.le_refl _, Nat.le_refl _⟩) hA hS (fun r_4 f_1 L_2 Q_3 H locs hq hP hS => ?_)
  obtain ⟨⟨ef9, eL9, eQ9⟩, hq, u_5⟩ := hq
  rw [ef9, eL9, eQ9] at hP; clear ef9 eL9 eQ9
  refine lv_istore (lv' := [(5, .int r_4), (0, .ref (h 1)), (1, .int x0), (2, .int x1), (3, .int x2), (4, .int x3)]) hx hb dX0_turned_6 hl (by decide) rfl (fun ls hl => ?_)
  refine lv_iload_n hx hb dX0_turned_8 rfl (lv_at hl 4 rfl) ?_
  refine lv_iload hx hb dX0_turned_9 (lv_at hl 0 rfl) ?_
  refine lv_isub hx hb dX0_turned_11 ?_
  refine lv_topi (fun v_6 ev_6 => ?_)
  have q_7 : v_6.toInt = x2.toInt - r_4.toInt := by rw [ev_6]; first | exact bn_subI (by omega) (by omega) | exact (bn_subI (by omega) (by omega)).trans (by omega)
  refine va_mabs hx hb (hml.trans hl.1.symm) hown (hts _ (List.mem_cons_of_mem _ mw_262)) (hts _ (List.mem_cons_of_mem _ mw_90)) (hts _ (List.mem_cons_of_mem _ mw_11)) (hts _ (List.mem_cons_of_mem _ mw_91)) (Nat.le_of_ble_eq_true rfl) (Nat.le_of_ble_eq_true rfl) (Nat.le_refl _) (Nat.le_refl _) dX0_turned_12 ?_
  refine lv_topi (fun v_8 ev_8 => ?_)
  replace hs := hs.trans (spl_e u_5 (spl_e ev_6 (spl_e ev_8 rfl)))
  have q_9 : (0 ≤ v_6.toInt ∧ v_8.toInt = v_6.toInt) ∨ (v_6.toInt < 0 ∧ v_8.toInt = -v_6.toInt) := by rw [ev_8]; exact bn_absI (by omega)
  refine lv_iload hx hb dX0_turned_15 (lv_at hl 5 rfl) ?_
  refine lv_icmp_le (tgt := 25) hx hb dX0_turned_17 (by decide) (fun c => ?_) (fun c => ?_)
  · skip
    have c_10 : v_8.toInt ≤ x3.toInt := (by first | exact (bn_le c) | (have z := bn_le c; omega))
    refine lv_iload_n hx hb dX0_turned_25 rfl (lv_at hl 4 rfl) ?_
    exact hret _ _ _ _ (x2) f L Q dX0_turned_26 hP hS ⟨⟨rfl, rfl, rfl⟩, ⟨by omega, by omega⟩, (Eq.trans (Eq.symm (hs.trans ((if_neg (Int.not_lt.mpr c_10)).trans rfl))) hsp)⟩
  · skip
    have c_11 : x3.toInt < v_8.toInt := (by first | exact (bn_nle c) | (have z := bn_nle c; omega))
    refine lv_iload hx hb dX0_turned_20 (lv_at hl 0 rfl) ?_
    refine lv_goto (tgt := 26) hx hb dX0_turned_22 (by decide) ?_
    exact hret _ _ _ _ (r_4) f L Q dX0_turned_26 hP hS ⟨⟨rfl, rfl, rfl⟩, ⟨by omega, by omega⟩, (Eq.trans (Eq.symm (hs.trans ((if_pos c_11).trans rfl))) hsp)⟩

abbrev WkX4_turnTo : List (Nat × Nat × Option Nat) := [(13, 13, some 6), (14, 14, none), (15, 15, none)]
set_option maxHeartbeats 4000000 in
set_option maxRecDepth 100000 in
theorem kX4_turnTo (l : Launch) (D : va_G) (ca : Nat → ClassId) (za h : Nat → Nat) (hh : sgH 52 h) (f : sg_F) (L : sg_L) (Q : sg_Q) (hI : sgI loX hiX f) (x0 : Int32) (x1 : Int32) (b0 : 0 ≤ x0.toInt ∧ x0.toInt ≤ 2) (b1 : 0 ≤ x1.toInt ∧ x1.toInt ≤ 60) (sz : Nat) : Met l yX4_turnTo gwX4_turnTo { frames := 1, cells := 0, slots := 0, locals := 21 } (sgP D vwCl (tyX ca) 52 h (eX ca h) zcX za f L Q sz [.ref (h 13), .int x0, .int x1]) (sgQi D vwCl 52 h (eX ca h) sz (fun r f1 L1 Q1 => ((sgI loX hiX f1 ∧ sgK WkX4_turnTo f f1 ∧ L1 = L ∧ Q1 = Q) ∧ True ∧ (r, f1) = sX4_turnTo x0 x1 f L))) 0 0 (sgA 52 h sz) := by
  refine sg_ofWi (cc := cX4_turnTo) (maxL := 5) RX4 (by decide) rfl rfl (Nat.le_of_ble_eq_true rfl) ?_
  intro p e s m below meth cd Qz ls hx hb hml hown hts hK hZ hP hS hl hret
  have hA := sgY.self (n := 52) (h := h) (sz := s.heap.size)
  have hl : lv_has ls 5 [(0, .ref (h 13)), (1, .int x0), (2, .int x1)] := hl
  obtain ⟨H, hH⟩ : ∃ z : Heap, z = s.heap := ⟨_, rfl⟩
  obtain ⟨locs, hlo⟩ : ∃ z : List Loc, z = [] := ⟨_, rfl⟩
  have hP : va_P D vwCl (sgw 52 h (eX ca h) f L Q) H := by rw [hH]; exact hP
  have hS : va_S (sgA 52 h s.heap.size) s.heap H locs := by rw [hH, hlo]; exact hS
  suffices hgo : W p l e ({ frames := 1, cells := 0, slots := 0, locals := 21 }) s m ([.ref (h 13), .int x0, .int x1] : List Value).toArray below meth cd H locs 0 0 Qz (F0 m 0 ls []) by rw [hH, hlo] at hgo; exact hgo
  clear hH hlo
  obtain ⟨sp, hsp⟩ : ∃ z : Int32 × sg_F, z = sX4_turnTo x0 x1 f L := ⟨_, rfl⟩
  have hs : sp = sX4_turnTo x0 x1 f L := hsp
  have hF : sgK WkX4_turnTo f f := sgK.rf
  refine lv_iload_n hx hb dX4_turnTo_0 rfl (lv_at hl 2 rfl) ?_
  refine lv_aload_n hx hb dX4_turnTo_1 rfl (lv_at hl 0 rfl) ?_
  refine sl_gX_13_2_4 hx hb hts hown hK hP dX4_turnTo_2 ?_
  refine lv_iload_n hx hb dX4_turnTo_5 rfl (lv_at hl 1 rfl) ?_
  refine sg_iald hx hb hK hP 14 (by decide) 0 rfl rfl (i := x0) (vp_in_iff.mpr ⟨by omega, by omega⟩) dX4_turnTo_6 ?_
  refine lv_topi (fun v_1 ev_1 => ?_)
  have q_2 : 0 ≤ v_1.toInt ∧ v_1.toInt ≤ 60 := by rw [ev_1]; exact hI 14 _
  refine lv_isub hx hb dX4_turnTo_7 ?_
  refine lv_topi (fun v_3 ev_3 => ?_)
  have q_4 : v_3.toInt = x1.toInt - v_1.toInt := by rw [ev_3]; first | exact bn_subI (by omega) (by omega) | exact (bn_subI (by omega) (by omega)).trans (by omega)
  refine va_mabs hx hb (hml.trans hl.1.symm) hown (hts _ (List.mem_cons_of_mem _ mw_374)) (hts _ (List.mem_cons_of_mem _ mw_90)) (hts _ (List.mem_cons_of_mem _ mw_11)) (hts _ (List.mem_cons_of_mem _ mw_91)) (Nat.le_of_ble_eq_true rfl) (Nat.le_of_ble_eq_true rfl) (Nat.le_refl _) (Nat.le_refl _) dX4_turnTo_8 ?_
  refine lv_topi (fun v_5 ev_5 => ?_)
  have q_6 : (0 ≤ v_3.toInt ∧ v_5.toInt = v_3.toInt) ∨ (v_3.toInt < 0 ∧ v_5.toInt = -v_3.toInt) := by rw [ev_5]; exact bn_absI (by omega)
  refine lv_istore_n (lv' := [(3, .int v_5), (0, .ref (h 13)), (1, .int x0), (2, .int x1)]) hx hb dX4_turnTo_11 rfl hl (by decide) rfl (fun ls hl => ?_)
  refine lv_iload_n hx hb dX4_turnTo_12 rfl (lv_at hl 0 rfl) ?_
  refine lv_aload_n hx hb dX4_turnTo_13 rfl (lv_at hl 1 rfl) ?_
  refine sl_gX_13_0_4 hx hb hts hown hK hP dX4_turnTo_14 ?_
  refine lv_iload_n hx hb dX4_turnTo_17 rfl (lv_at hl 2 rfl) ?_
  refine sg_calli (va_runV (As := [.int x0]) (rest := [.int v_5]) ⟨hx, hb, hml, hown, hts⟩ (kX0_priceOf l D ca za h hh f L Q hI x0 b0 H.size) (sl_c0_priceOf_0_0_0_0_4 hts ⟨Nat.le_of_ble_eq_true rfl, Nat.le_of_ble_eq_true rfl⟩) (sl_vX_1 hA hK hP hS hZ) rfl rfl hl.1 rfl (lv_room (Nat.le_of_ble_eq_true rfl)) dX4_turnTo_18 ⟨Nat.le_refl _, Nat.le_refl _⟩) hA hS (fun r_10 f_7 L_8 Q_9 H locs hq hP hS => ?_)
  obtain ⟨⟨ef9, eL9, eQ9⟩, hq, u_11⟩ := hq
  rw [ef9, eL9, eQ9] at hP; clear ef9 eL9 eQ9
  refine lv_imul hx hb dX4_turnTo_21 ?_
  refine lv_topi (fun v_12 ev_12 => ?_)
  refine lv_istore (lv' := [(4, .int v_12), (3, .int v_5), (0, .ref (h 13)), (1, .int x0), (2, .int x1)]) hx hb dX4_turnTo_22 hl (by decide) rfl (fun ls hl => ?_)
  refine lv_aload_n hx hb dX4_turnTo_24 rfl (lv_at hl 2 rfl) ?_
  refine sl_gX_13_3_4 hx hb hts hown hK hP dX4_turnTo_25 ?_
  refine lv_iload_n hx hb dX4_turnTo_28 rfl (lv_at hl 3 rfl) ?_
  refine lv_dup2_11 hx hb dX4_turnTo_29 rfl rfl ?_
  refine sg_iald hx hb hK hP 15 (by decide) 0 rfl rfl (i := x0) (vp_in_iff.mpr ⟨by omega, by omega⟩) dX4_turnTo_30 ?_
  refine lv_topi (fun v_13 ev_13 => ?_)
  refine lv_iload_n hx hb dX4_turnTo_31 rfl (lv_at hl 1 rfl) ?_
  refine lv_iadd hx hb dX4_turnTo_32 ?_
  refine lv_topi (fun v_14 ev_14 => ?_)
  refine sg_iast hx hb hh hA hK hP hS 15 (by decide) 0 (fun _ => rfl) rfl (i := x0) (x := v_14) (vp_in_iff.mpr ⟨by omega, by omega⟩) dX4_turnTo_33 (fun f_15 H locs ef_15 hP hS => ?_)
  have hI : sgI loX hiX f_15 := by rw [ef_15]; exact sgI.put hI 15 x0.toNatClampNeg (bn_top _)
  have hF : sgK WkX4_turnTo f f_15 := sgK.put hF ef_15 (by rfl)
  refine lv_aload_n hx hb dX4_turnTo_34 rfl (lv_at hl 2 rfl) ?_
  refine lv_dup hx hb dX4_turnTo_35 rfl ?_
  refine sl_gX_13_6_4 (v := (f_15 13 6)) hx hb hts hown hK hP rfl dX4_turnTo_36 ?_
  refine lv_topi (fun v_16 ev_16 => ?_)
  refine lv_iload hx hb dX4_turnTo_39 (lv_at hl 0 rfl) ?_
  refine lv_iadd hx hb dX4_turnTo_41 ?_
  refine lv_topi (fun v_17 ev_17 => ?_)
  refine sl_pX_13_6_4 (x := v_17) hx hb hts hown hh hA hK hP hS dX4_turnTo_42 (fun f_18 H locs ef_18 hP hS => ?_)
  have hI : sgI loX hiX f_18 := by rw [ef_18]; exact sgI.put hI 13 6 (bn_top _)
  have hF : sgK WkX4_turnTo f f_18 := sgK.put hF ef_18 (by rfl)
  refine lv_aload_n hx hb dX4_turnTo_45 rfl (lv_at hl 2 rfl) ?_
  refine sl_gX_13_2_4 hx hb hts hown hK hP dX4_turnTo_46 ?_
  refine lv_iload_n hx hb dX4_turnTo_49 rfl (lv_at hl 3 rfl) ?_
  refine lv_iload_n hx hb dX4_turnTo_50 rfl (lv_at hl 4 rfl) ?_
  refine sg_iast hx hb hh hA hK hP hS 14 (by decide) 0 (fun _ => rfl) rfl (i := x0) (x := x1) (vp_in_iff.mpr ⟨by omega, by omega⟩) dX4_turnTo_51 (fun f_19 H locs ef_19 hP hS => ?_)
  have hI : sgI loX hiX f_19 := by rw [ef_19]; exact sgI.put hI 14 x0.toNatClampNeg (show 0 ≤ (x1 : Int32).toInt ∧ (x1 : Int32).toInt ≤ 60 from b1)
  have hF : sgK WkX4_turnTo f f_19 := sgK.put hF ef_19 (by rfl)
  refine lv_iload hx hb dX4_turnTo_52 (lv_at hl 0 rfl) ?_
  exact hret _ _ _ _ (v_12) f_19 L Q dX4_turnTo_54 hP hS ⟨⟨hI, hF, rfl, rfl⟩, trivial, (Eq.trans (Eq.symm (hs.trans ((spl_e ev_1 (spl_e ev_3 (spl_e ev_5 (spl_e u_11 (spl_e ev_12 (spl_e ev_13 (spl_e ev_14 (spl_e ef_15 (spl_e ev_16 (spl_e ev_17 (spl_e ef_18 (spl_e ef_19 rfl))))))))))))))) hsp)⟩

set_option maxHeartbeats 4000000 in
set_option maxRecDepth 100000 in
theorem kX0_fetch (l : Launch) (D : va_G) (ca : Nat → ClassId) (za h : Nat → Nat) (hh : sgH 52 h) (f : sg_F) (L : sg_L) (Q : sg_Q) (hI : sgI loX hiX f) (sz : Nat) : Met l yX0_fetch gwX0_fetch { frames := 0, cells := 0, slots := 0, locals := 0 } (sgP D vwCl (tyX ca) 52 h (eX ca h) zcX za f L Q sz [.ref (h 1)]) (sgQi D vwCl 52 h (eX ca h) sz (fun r f1 L1 Q1 => ((f1 = f ∧ L1 = L ∧ Q1 = Q) ∧ (0 ≤ r.toInt ∧ r.toInt ≤ 99) ∧ (r) = sX0_fetch f L))) 0 0 (sgA 52 h sz) := by
  refine sg_ofWi (cc := cX0_fetch) (maxL := 1) RX0 (by decide) rfl rfl (Nat.le_of_ble_eq_true rfl) ?_
  intro p e s m below meth cd Qz ls hx hb hml hown hts hK hZ hP hS hl hret
  have hA := sgY.self (n := 52) (h := h) (sz := s.heap.size)
  have hl : lv_has ls 1 [(0, .ref (h 1))] := hl
  obtain ⟨H, hH⟩ : ∃ z : Heap, z = s.heap := ⟨_, rfl⟩
  obtain ⟨locs, hlo⟩ : ∃ z : List Loc, z = [] := ⟨_, rfl⟩
  have hP : va_P D vwCl (sgw 52 h (eX ca h) f L Q) H := by rw [hH]; exact hP
  have hS : va_S (sgA 52 h s.heap.size) s.heap H locs := by rw [hH, hlo]; exact hS
  suffices hgo : W p l e ({ frames := 0, cells := 0, slots := 0, locals := 0 }) s m ([.ref (h 1)] : List Value).toArray below meth cd H locs 0 0 Qz (F0 m 0 ls []) by rw [hH, hlo] at hgo; exact hgo
  clear hH hlo
  obtain ⟨sp, hsp⟩ : ∃ z : Int32, z = sX0_fetch f L := ⟨_, rfl⟩
  have hs : sp = sX0_fetch f L := hsp
  refine lv_aload_n hx hb dX0_fetch_0 rfl (lv_at hl 0 rfl) ?_
  refine sl_gX_1_0_0 hx hb hts hown hK hP dX0_fetch_1 ?_
  refine lv_bipush (v := 70) hx hb dX0_fetch_4 bp_70 ?_
  refine sg_iald hx hb hK hP 2 (by decide) 0 rfl rfl (i := 70) (vp_in_iff.mpr (by decide)) dX0_fetch_6 ?_
  refine lv_topi (fun v_1 ev_1 => ?_)
  have q_2 : 70 < 64 → v_1.toInt ≤ 60 := by rw [ev_1]; have z1 := segX2_r hI (j := Int32.toNatClampNeg 70); have z2 := bn_clI (x := 70) (by have k0 : (70 : Int32).toInt = 70 := ti_70; omega); have k0 : (70 : Int32).toInt = 70 := ti_70; intro z3; exact (z1.2.2 (by omega)).2
  have q_3 : 0 ≤ v_1.toInt ∧ v_1.toInt ≤ 99 := by rw [ev_1]; have z1 := segX2_r hI (j := Int32.toNatClampNeg 70); have z2 := bn_clI (x := 70) (by have k0 : (70 : Int32).toInt = 70 := ti_70; omega); have k0 : (70 : Int32).toInt = 70 := ti_70; omega
  exact hret _ _ _ _ (v_1) f L Q dX0_fetch_7 hP hS ⟨⟨rfl, rfl, rfl⟩, ⟨by omega, by omega⟩, (Eq.trans (Eq.symm (hs.trans ((spl_e ev_1 rfl)))) hsp)⟩

abbrev WkX4_comes : List (Nat × Nat × Option Nat) := [(8, 8, none), (9, 9, none), (13, 13, some 5), (13, 13, some 6), (14, 14, none), (15, 15, none), (16, 16, none)]
set_option maxHeartbeats 4000000 in
set_option maxRecDepth 100000 in
theorem kX4_comes (l : Launch) (D : va_G) (ca : Nat → ClassId) (za h : Nat → Nat) (hh : sgH 52 h) (f : sg_F) (L : sg_L) (Q : sg_Q) (hI : sgI loX hiX f) (x0 : Int32) (b0 : 0 ≤ x0.toInt ∧ x0.toInt ≤ 7) (sz : Nat) : Met l yX4_comes gwX4_comes { frames := 4, cells := 0, slots := 0, locals := 102 } (sgP D vwCl (tyX ca) 52 h (eX ca h) zcX za f L Q sz [.ref (h 13), .int x0]) (sgQv D vwCl 52 h (eX ca h) sz (fun f1 L1 Q1 => ((sgI loX hiX f1 ∧ sgK WkX4_comes f f1 ∧ L1 = L ∧ Q1 = Q) ∧ (f1) = sX4_comes x0 f L))) 0 0 (sgA 52 h sz) := by
  refine sg_ofWv (cc := cX4_comes) (maxL := 6) RX4 (by decide) rfl rfl (Nat.le_of_ble_eq_true rfl) ?_
  intro p e s m below meth cd Qz ls hx hb hml hown hts hK hZ hP hS hl hret
  have hA := sgY.self (n := 52) (h := h) (sz := s.heap.size)
  have hl : lv_has ls 6 [(0, .ref (h 13)), (1, .int x0)] := hl
  obtain ⟨H, hH⟩ : ∃ z : Heap, z = s.heap := ⟨_, rfl⟩
  obtain ⟨locs, hlo⟩ : ∃ z : List Loc, z = [] := ⟨_, rfl⟩
  have hP : va_P D vwCl (sgw 52 h (eX ca h) f L Q) H := by rw [hH]; exact hP
  have hS : va_S (sgA 52 h s.heap.size) s.heap H locs := by rw [hH, hlo]; exact hS
  suffices hgo : W p l e ({ frames := 4, cells := 0, slots := 0, locals := 102 }) s m ([.ref (h 13), .int x0] : List Value).toArray below meth cd H locs 0 0 Qz (F0 m 0 ls []) by rw [hH, hlo] at hgo; exact hgo
  clear hH hlo
  obtain ⟨sp, hsp⟩ : ∃ z : sg_F, z = sX4_comes x0 f L := ⟨_, rfl⟩
  have hs : sp = sX4_comes x0 f L := hsp
  have hF : sgK WkX4_comes f f := sgK.rf
  have loop_28 : ∀ (n_28 : Nat) (y2_28 : Int32) (y3_28 : Int32) (fp_28 : sg_F) (H : Heap) (locs : List Loc) (ls : Array Slot), sp = sX4_comes_l28 x0 n_28 y2_28 y3_28 fp_28 L → 3 - y3_28.toInt < (n_28 : Int) → 0 ≤ y2_28.toInt ∧ y2_28.toInt ≤ 60 → 0 ≤ y3_28.toInt ∧ y3_28.toInt ≤ 3 → sgI loX hiX fp_28 → sgK WkX4_comes f fp_28 → va_P D vwCl (sgw 52 h (eX ca h) fp_28 L Q) H → va_S (sgA 52 h s.heap.size) s.heap H locs → lv_has ls 6 [(0, .ref (h 13)), (1, .int x0), (2, .int y2_28), (3, .int y3_28)] → W p l e ({ frames := 4, cells := 0, slots := 0, locals := 102 }) s m ([.ref (h 13), .int x0] : List Value).toArray below meth cd H locs 0 0 Qz (F0 m 28 ls []) := by
    intro n_28
    induction n_28 with
    | zero => intro y2_28 y3_28 fp_28 H locs ls hs hm_28 hy0_28 hy1_28 hI hF hP hS hl; exact absurd hm_28 (by omega)
    | succ n_28 ih_28 =>
      intro y2_28 y3_28 fp_28 H locs ls hs hm_28 hy0_28 hy1_28 hI hF hP hS hl
      have hs : sp = sX4_comes_h28 x0 (sX4_comes_l28 x0 n_28) y2_28 y3_28 fp_28 L := hs
      refine lv_iload_n hx hb dX4_comes_28 rfl (lv_at hl 3 rfl) ?_
      refine lv_iconst (v := 3) hx hb dX4_comes_29 ic_3 ?_
      refine lv_icmp_ge (tgt := 124) hx hb dX4_comes_30 (by decide) (fun c => ?_) (fun c => ?_)
      · skip
        have c_1 : 3 ≤ y3_28.toInt := (by first | exact (cm_le0 ti_3 c) | (have z := bn_le c; have k1 : (3 : Int32).toInt = 3 := ti_3; omega))
        exact hret _ _ _ _ fp_28 L Q dX4_comes_124 hP hS ⟨⟨hI, hF, rfl, rfl⟩, (Eq.trans (Eq.symm (hs.trans (((if_neg (Int.not_lt.mpr c_1)).trans rfl)))) hsp)⟩
      · skip
        have c_2 : y3_28.toInt < 3 := (by first | exact (cm_nle0 ti_3 c) | (have z := bn_nle c; have k1 : (3 : Int32).toInt = 3 := ti_3; omega))
        refine lv_aload_n hx hb dX4_comes_33 rfl (lv_at hl 0 rfl) ?_
        refine lv_iload_n hx hb dX4_comes_34 rfl (lv_at hl 3 rfl) ?_
        refine lv_aload_n hx hb dX4_comes_35 rfl (lv_at hl 0 rfl) ?_
        refine sl_gX_13_0_4 hx hb hts hown hK hP dX4_comes_36 ?_
        refine lv_iload_n hx hb dX4_comes_39 rfl (lv_at hl 1 rfl) ?_
        refine lv_iload_n hx hb dX4_comes_40 rfl (lv_at hl 3 rfl) ?_
        refine lv_aload_n hx hb dX4_comes_41 rfl (lv_at hl 0 rfl) ?_
        refine sl_gX_13_2_4 hx hb hts hown hK hP dX4_comes_42 ?_
        refine lv_iload_n hx hb dX4_comes_45 rfl (lv_at hl 3 rfl) ?_
        refine sg_iald hx hb hK hP 14 (by decide) 0 rfl rfl (i := y3_28) (vp_in_iff.mpr ⟨by omega, by omega⟩) dX4_comes_46 ?_
        refine lv_topi (fun v_3 ev_3 => ?_)
        have q_4 : 0 ≤ v_3.toInt ∧ v_3.toInt ≤ 60 := by rw [ev_3]; exact hI 14 _
        refine lv_iload_n hx hb dX4_comes_47 rfl (lv_at hl 2 rfl) ?_
        refine sg_calli (va_runV (As := [.int x0, .int y3_28, .int v_3, .int y2_28]) (rest := [.int y3_28, .ref (h 13)]) ⟨hx, hb, hml, hown, hts⟩ (kX0_turned l D ca za h hh fp_28 L Q hI x0 y3_28 v_3 y2_28 b0 ⟨by omega, by omega⟩ q_4 hy0_28 H.size) (sl_c0_turned_1_0_0_22_4 hts ⟨Nat.le_of_ble_eq_true rfl, Nat.le_of_ble_eq_true rfl⟩) (sl_vX_1 hA hK hP hS hZ) rfl rfl hl.1 rfl (lv_room (Nat.le_of_ble_eq_true rfl)) dX4_comes_48 ⟨Nat.le_refl _, Nat.le_refl _⟩) hA hS (fun r_8 f_5 L_6 Q_7 H locs hq hP hS => ?_)
        obtain ⟨⟨ef9, eL9, eQ9⟩, hq, u_9⟩ := hq
        rw [ef9, eL9, eQ9] at hP; clear ef9 eL9 eQ9
        refine sg_calli (va_runV (As := [.int y3_28, .int r_8]) (rest := []) ⟨hx, hb, hml, hown, hts⟩ (kX4_turnTo l D ca za h hh fp_28 L Q hI y3_28 r_8 ⟨by omega, by omega⟩ ⟨by omega, by omega⟩ H.size) (sl_c4_turnTo_1_0_0_21_4 hts ⟨Nat.le_of_ble_eq_true rfl, Nat.le_of_ble_eq_true rfl⟩) (sl_vX_13 hA hK hP hS hZ) rfl rfl hl.1 rfl (lv_room (Nat.le_of_ble_eq_true rfl)) dX4_comes_51 ⟨Nat.le_refl _, Nat.le_refl _⟩) hA hS (fun r_13 f_10 L_11 Q_12 H locs hq hP hS => ?_)
        obtain ⟨⟨hI, hk_f_10, eL9, eQ9⟩, hq, u_14⟩ := hq
        rw [eL9, eQ9] at hP; clear eL9 eQ9
        have hF : sgK WkX4_comes f f_10 := sgK.tr hF hk_f_10 (by decide +kernel)
        refine lv_istore (lv' := [(4, .int r_13), (0, .ref (h 13)), (1, .int x0), (2, .int y2_28), (3, .int y3_28)]) hx hb dX4_comes_54 hl (by decide) rfl (fun ls hl => ?_)
        refine lv_aload_n hx hb dX4_comes_56 rfl (lv_at hl 1 rfl) ?_
        refine sl_gX_13_4_4 hx hb hts hown hK hP dX4_comes_57 ?_
        refine lv_iload_n hx hb dX4_comes_60 rfl (lv_at hl 2 rfl) ?_
        refine lv_dup2_11 hx hb dX4_comes_61 rfl rfl ?_
        refine sg_iald hx hb hK hP 16 (by decide) 0 rfl rfl (i := x0) (vp_in_iff.mpr ⟨by omega, by omega⟩) dX4_comes_62 ?_
        refine lv_topi (fun v_15 ev_15 => ?_)
        refine lv_iconst (v := 0) hx hb dX4_comes_63 ic_0 ?_
        refine lv_iload hx hb dX4_comes_64 (lv_at hl 0 rfl) ?_
        refine lv_aload_n hx hb dX4_comes_66 rfl (lv_at hl 1 rfl) ?_
        refine sl_gX_13_0_4 hx hb hts hown hK hP dX4_comes_67 ?_
        refine sg_calli (va_runV (As := []) (rest := [.int r_13, .int 0, .int v_15, .int x0, .ref (h 16)]) ⟨hx, hb, hml, hown, hts⟩ (kX0_fetch l D ca za h hh f_10 L Q hI H.size) (sl_c0_fetch_0_0_0_0_4 hts ⟨Nat.le_of_ble_eq_true rfl, Nat.le_of_ble_eq_true rfl⟩) (sl_vX_1 hA hK hP hS hZ) rfl rfl hl.1 rfl (lv_room (Nat.le_of_ble_eq_true rfl)) dX4_comes_70 ⟨Nat.le_refl _, Nat.le_refl _⟩) hA hS (fun r_19 f_16 L_17 Q_18 H locs hq hP hS => ?_)
        obtain ⟨⟨ef9, eL9, eQ9⟩, hq, u_20⟩ := hq
        rw [ef9, eL9, eQ9] at hP; clear ef9 eL9 eQ9
        refine lv_isub hx hb dX4_comes_73 ?_
        refine lv_topi (fun v_21 ev_21 => ?_)
        refine va_mmax hx hb (hml.trans hl.1.symm) hown (hts _ (List.mem_cons_of_mem _ mw_485)) (hts _ (List.mem_cons_of_mem _ mw_82)) (hts _ (List.mem_cons_of_mem _ mw_11)) (hts _ (List.mem_cons_of_mem _ mw_83)) (Nat.le_of_ble_eq_true rfl) (Nat.le_of_ble_eq_true rfl) (Nat.le_refl _) (Nat.le_refl _) dX4_comes_74 ?_
        refine lv_topi (fun v_22 ev_22 => ?_)
        have q_23 : (0 < v_21.toInt ∧ v_22.toInt = v_21.toInt) ∨ (v_21.toInt ≤ 0 ∧ v_22.toInt = 0) := by have z := bn_maxI (0 : Int32) v_21; rw [← ev_22] at z; have k0 : (0 : Int32).toInt = 0 := ti_0; omega
        refine lv_iadd hx hb dX4_comes_77 ?_
        refine lv_topi (fun v_24 ev_24 => ?_)
        refine sg_iast hx hb hh hA hK hP hS 16 (by decide) 0 (fun _ => rfl) rfl (i := x0) (x := v_24) (vp_in_iff.mpr ⟨by omega, by omega⟩) dX4_comes_78 (fun f_25 H locs ef_25 hP hS => ?_)
        have hI : sgI loX hiX f_25 := by rw [ef_25]; exact sgI.put hI 16 x0.toNatClampNeg (bn_top _)
        have hF : sgK WkX4_comes f f_25 := sgK.put hF ef_25 (by rfl)
        refine lv_aload_n hx hb dX4_comes_79 rfl (lv_at hl 1 rfl) ?_
        refine sl_gX_13_0_4 hx hb hts hown hK hP dX4_comes_80 ?_
        refine lv_iload_n hx hb dX4_comes_83 rfl (lv_at hl 2 rfl) ?_
        refine lv_iload_n hx hb dX4_comes_84 rfl (lv_at hl 4 rfl) ?_
        refine lv_aload_n hx hb dX4_comes_85 rfl (lv_at hl 1 rfl) ?_
        refine sl_gX_13_2_4 hx hb hts hown hK hP dX4_comes_86 ?_
        refine lv_iload_n hx hb dX4_comes_89 rfl (lv_at hl 4 rfl) ?_
        refine sg_iald hx hb hK hP 14 (by decide) 0 rfl rfl (i := y3_28) (vp_in_iff.mpr ⟨by omega, by omega⟩) dX4_comes_90 ?_
        refine lv_topi (fun v_26 ev_26 => ?_)
        have q_27 : 0 ≤ v_26.toInt ∧ v_26.toInt ≤ 60 := by rw [ev_26]; exact hI 14 _
        refine sg_calli (va_runV (As := [.int x0, .int y3_28, .int v_26]) (rest := []) ⟨hx, hb, hml, hown, hts⟩ (kX0_lossAt l D ca za h hh f_25 L Q hI x0 y3_28 v_26 ⟨by omega, by omega⟩ ⟨by omega, by omega⟩ q_27 H.size) (sl_c0_lossAt_3_0_0_74_4 hts ⟨Nat.le_of_ble_eq_true rfl, Nat.le_of_ble_eq_true rfl⟩) (sl_vX_1 hA hK hP hS hZ) rfl rfl hl.1 rfl (lv_room (Nat.le_of_ble_eq_true rfl)) dX4_comes_91 ⟨Nat.le_refl _, Nat.le_refl _⟩) hA hS (fun r_31 f_28 L_29 Q_30 H locs hq hP hS => ?_)
        obtain ⟨⟨hI, hk_f_28, eL9, eQ9⟩, hq, u_32⟩ := hq
        rw [eL9, eQ9] at hP; clear eL9 eQ9
        have hF : sgK WkX4_comes f f_28 := sgK.tr hF hk_f_28 (by decide +kernel)
        refine lv_istore (lv' := [(5, .int r_31), (4, .int r_13), (0, .ref (h 13)), (1, .int x0), (2, .int y2_28), (3, .int y3_28)]) hx hb dX4_comes_94 hl (by decide) rfl (fun ls hl => ?_)
        refine lv_aload_n hx hb dX4_comes_96 rfl (lv_at hl 2 rfl) ?_
        refine lv_dup hx hb dX4_comes_97 rfl ?_
        refine sl_gX_13_5_4 (v := (f_28 13 5)) hx hb hts hown hK hP rfl dX4_comes_98 ?_
        refine lv_topi (fun v_33 ev_33 => ?_)
        refine lv_iload hx hb dX4_comes_101 (lv_at hl 0 rfl) ?_
        refine lv_iadd hx hb dX4_comes_103 ?_
        refine lv_topi (fun v_34 ev_34 => ?_)
        refine sl_pX_13_5_4 (x := v_34) hx hb hts hown hh hA hK hP hS dX4_comes_104 (fun f_35 H locs ef_35 hP hS => ?_)
        have hI : sgI loX hiX f_35 := by rw [ef_35]; exact sgI.put hI 13 5 (bn_top _)
        have hF : sgK WkX4_comes f f_35 := sgK.put hF ef_35 (by rfl)
        refine lv_aload_n hx hb dX4_comes_107 rfl (lv_at hl 2 rfl) ?_
        refine lv_dup hx hb dX4_comes_108 rfl ?_
        refine sl_gX_13_6_4 (v := (f_35 13 6)) hx hb hts hown hK hP rfl dX4_comes_109 ?_
        refine lv_topi (fun v_36 ev_36 => ?_)
        refine lv_iload hx hb dX4_comes_112 (lv_at hl 0 rfl) ?_
        refine lv_iadd hx hb dX4_comes_114 ?_
        refine lv_topi (fun v_37 ev_37 => ?_)
        refine sl_pX_13_6_4 (x := v_37) hx hb hts hown hh hA hK hP hS dX4_comes_115 (fun f_38 H locs ef_38 hP hS => ?_)
        have hI : sgI loX hiX f_38 := by rw [ef_38]; exact sgI.put hI 13 6 (bn_top _)
        have hF : sgK WkX4_comes f f_38 := sgK.put hF ef_38 (by rfl)
        obtain ⟨v_39, ev_39⟩ : ∃ z : Int32, z = y3_28 + 1 := ⟨_, rfl⟩
        have q_40 : v_39.toInt = y3_28.toInt + 1 := by rw [ev_39]; exact (bn_addc y3_28 1 (by decide) (by omega) (by omega))
        refine lv_iinc (v := v_39) (lv' := [(3, .int v_39), (5, .int r_31), (4, .int r_13), (0, .ref (h 13)), (1, .int x0), (2, .int y2_28)]) hx hb dX4_comes_118 hl (k := 5) rfl (by rw [ev_39]; rfl) (by decide) rfl (fun ls hl => ?_)
        refine lv_goto (tgt := 28) hx hb dX4_comes_121 (by decide) ?_
        exact ih_28 y2_28 v_39 f_38 _ _ _ (hs.trans (((if_pos c_2).trans (spl_e ev_3 (spl_e u_9 (spl2_e u_14 (spl_e ev_15 (spl_e u_20 (spl_e ev_21 (spl_e ev_22 (spl_e ev_24 (spl_e ef_25 (spl_e ev_26 (spl2_e u_32 (spl_e ev_33 (spl_e ev_34 (spl_e ef_35 (spl_e ev_36 (spl_e ev_37 (spl_e ef_38 (spl_e ev_39 rfl))))))))))))))))))))) (by omega) hy0_28 ⟨by omega, by omega⟩ hI hF hP hS (lv_sub hl [3, 4, 5, 0] rfl)
  refine lv_iload_n hx hb dX4_comes_0 rfl (lv_at hl 1 rfl) ?_
  refine lv_aload_n hx hb dX4_comes_1 rfl (lv_at hl 0 rfl) ?_
  refine sl_gX_13_7_4 (v := (f 13 7)) hx hb hts hown hK hP rfl dX4_comes_2 ?_
  refine lv_topi (fun v_41 ev_41 => ?_)
  replace hs := hs.trans (spl_e ev_41 rfl)
  have q_42 : (-1) ≤ v_41.toInt ∧ v_41.toInt ≤ 7 := by rw [ev_41]; exact hI 13 7
  refine lv_icmp_ne (tgt := 15) hx hb dX4_comes_5 (by decide) (fun c => ?_) (fun c => ?_)
  · skip
    have c_43 : x0.toInt ≠ v_41.toInt := (by first | exact (bn_ne c) | (have z := bn_ne c; omega))
    refine lv_aload_n hx hb dX4_comes_15 rfl (lv_at hl 0 rfl) ?_
    refine sl_gX_13_0_4 hx hb hts hown hK hP dX4_comes_16 ?_
    refine lv_iload_n hx hb dX4_comes_19 rfl (lv_at hl 1 rfl) ?_
    refine lv_bipush (v := 6) hx hb dX4_comes_20 bp_6 ?_
    refine sg_calli (va_runV (As := [.int x0, .int 6]) (rest := []) ⟨hx, hb, hml, hown, hts⟩ (kX0_numberOf l D ca za h hh f L Q hI x0 6 b0 (by decide) H.size) (sl_c0_numberOf_0_0_0_0_4 hts ⟨Nat.le_of_ble_eq_true rfl, Nat.le_of_ble_eq_true rfl⟩) (sl_vX_1 hA hK hP hS hZ) rfl rfl hl.1 rfl (lv_room (Nat.le_of_ble_eq_true rfl)) dX4_comes_22 ⟨Nat.le_refl _, Nat.le_refl _⟩) hA hS (fun r_48 f_45 L_46 Q_47 H locs hq hP hS => ?_)
    obtain ⟨⟨ef9, eL9, eQ9⟩, hq, u_49⟩ := hq
    rw [ef9, eL9, eQ9] at hP; clear ef9 eL9 eQ9
    refine lv_istore_n (lv' := [(2, .int r_48), (0, .ref (h 13)), (1, .int x0)]) hx hb dX4_comes_25 rfl hl (by decide) rfl (fun ls hl => ?_)
    refine lv_iconst (v := 0) hx hb dX4_comes_26 ic_0 ?_
    refine lv_istore_n (lv' := [(3, .int 0), (2, .int r_48), (0, .ref (h 13)), (1, .int x0)]) hx hb dX4_comes_27 rfl hl (by decide) rfl (fun ls hl => ?_)
    exact loop_28 4 r_48 0 f _ _ _ (hs.trans ((if_neg c_43).trans (spl_e u_49 rfl))) (by have kc1 : (0 : Int32).toInt = 0 := ti_0; omega) ⟨by omega, by omega⟩ (by decide) hI hF hP hS (lv_sub hl [2, 3, 1, 0] rfl)
  · skip
    have c_44 : x0.toInt = v_41.toInt := (by first | exact (Int32.toInt_inj.mpr c) | (have z := Int32.toInt_inj.mpr c; omega))
    refine lv_aload_n hx hb dX4_comes_8 rfl (lv_at hl 0 rfl) ?_
    refine sl_gX_13_8_4 (v := (f 13 8)) hx hb hts hown hK hP rfl dX4_comes_9 ?_
    refine lv_topi (fun v_50 ev_50 => ?_)
    have q_51 : 0 ≤ v_50.toInt ∧ v_50.toInt ≤ 60 := by rw [ev_50]; exact hI 13 8
    refine lv_goto (tgt := 25) hx hb dX4_comes_12 (by decide) ?_
    refine lv_istore_n (lv' := [(2, .int v_50), (0, .ref (h 13)), (1, .int x0)]) hx hb dX4_comes_25 rfl hl (by decide) rfl (fun ls hl => ?_)
    refine lv_iconst (v := 0) hx hb dX4_comes_26 ic_0 ?_
    refine lv_istore_n (lv' := [(3, .int 0), (2, .int v_50), (0, .ref (h 13)), (1, .int x0)]) hx hb dX4_comes_27 rfl hl (by decide) rfl (fun ls hl => ?_)
    exact loop_28 4 v_50 0 f _ _ _ (hs.trans ((if_pos c_44).trans (spl_e ev_50 rfl))) (by have kc1 : (0 : Int32).toInt = 0 := ti_0; omega) q_51 (by decide) hI hF hP hS (lv_sub hl [2, 3, 1, 0] rfl)

abbrev WkX4_slip : List (Nat × Nat × Option Nat) := [(14, 14, none)]
set_option maxHeartbeats 4000000 in
set_option maxRecDepth 100000 in
theorem kX4_slip (l : Launch) (D : va_G) (ca : Nat → ClassId) (za h : Nat → Nat) (hh : sgH 52 h) (f : sg_F) (L : sg_L) (Q : sg_Q) (hI : sgI loX hiX f) (sz : Nat) : Met l yX4_slip gwX4_slip { frames := 2, cells := 0, slots := 0, locals := 43 } (sgP D vwCl (tyX ca) 52 h (eX ca h) zcX za f L Q sz [.ref (h 13)]) (sgQv D vwCl 52 h (eX ca h) sz (fun f1 L1 Q1 => ((sgI loX hiX f1 ∧ sgK WkX4_slip f f1 ∧ L1 = L ∧ Q1 = Q) ∧ (f1) = sX4_slip f L))) 0 0 (sgA 52 h sz) := by
  refine sg_ofWv (cc := cX4_slip) (maxL := 2) RX4 (by decide) rfl rfl (Nat.le_of_ble_eq_true rfl) ?_
  intro p e s m below meth cd Qz ls hx hb hml hown hts hK hZ hP hS hl hret
  have hA := sgY.self (n := 52) (h := h) (sz := s.heap.size)
  have hl : lv_has ls 2 [(0, .ref (h 13))] := hl
  obtain ⟨H, hH⟩ : ∃ z : Heap, z = s.heap := ⟨_, rfl⟩
  obtain ⟨locs, hlo⟩ : ∃ z : List Loc, z = [] := ⟨_, rfl⟩
  have hP : va_P D vwCl (sgw 52 h (eX ca h) f L Q) H := by rw [hH]; exact hP
  have hS : va_S (sgA 52 h s.heap.size) s.heap H locs := by rw [hH, hlo]; exact hS
  suffices hgo : W p l e ({ frames := 2, cells := 0, slots := 0, locals := 43 }) s m ([.ref (h 13)] : List Value).toArray below meth cd H locs 0 0 Qz (F0 m 0 ls []) by rw [hH, hlo] at hgo; exact hgo
  clear hH hlo
  obtain ⟨sp, hsp⟩ : ∃ z : sg_F, z = sX4_slip f L := ⟨_, rfl⟩
  have hs : sp = sX4_slip f L := hsp
  have hF : sgK WkX4_slip f f := sgK.rf
  have loop_2 : ∀ (n_2 : Nat) (y1_2 : Int32) (fp_2 : sg_F) (H : Heap) (locs : List Loc) (ls : Array Slot), sp = sX4_slip_l2 n_2 y1_2 fp_2 L → 3 - y1_2.toInt < (n_2 : Int) → 0 ≤ y1_2.toInt ∧ y1_2.toInt ≤ 3 → sgI loX hiX fp_2 → sgK WkX4_slip f fp_2 → va_P D vwCl (sgw 52 h (eX ca h) fp_2 L Q) H → va_S (sgA 52 h s.heap.size) s.heap H locs → lv_has ls 2 [(0, .ref (h 13)), (1, .int y1_2)] → W p l e ({ frames := 2, cells := 0, slots := 0, locals := 43 }) s m ([.ref (h 13)] : List Value).toArray below meth cd H locs 0 0 Qz (F0 m 2 ls []) := by
    intro n_2
    induction n_2 with
    | zero => intro y1_2 fp_2 H locs ls hs hm_2 hy0_2 hI hF hP hS hl; exact absurd hm_2 (by omega)
    | succ n_2 ih_2 =>
      intro y1_2 fp_2 H locs ls hs hm_2 hy0_2 hI hF hP hS hl
      have hs : sp = sX4_slip_h2 (sX4_slip_l2 n_2) y1_2 fp_2 L := hs
      refine lv_iload_n hx hb dX4_slip_2 rfl (lv_at hl 1 rfl) ?_
      refine lv_iconst (v := 3) hx hb dX4_slip_3 ic_3 ?_
      refine lv_icmp_ge (tgt := 33) hx hb dX4_slip_4 (by decide) (fun c => ?_) (fun c => ?_)
      · skip
        have c_1 : 3 ≤ y1_2.toInt := (by first | exact (cm_le0 ti_3 c) | (have z := bn_le c; have k1 : (3 : Int32).toInt = 3 := ti_3; omega))
        exact hret _ _ _ _ fp_2 L Q dX4_slip_33 hP hS ⟨⟨hI, hF, rfl, rfl⟩, (Eq.trans (Eq.symm (hs.trans (((if_neg (Int.not_lt.mpr c_1)).trans rfl)))) hsp)⟩
      · skip
        have c_2 : y1_2.toInt < 3 := (by first | exact (cm_nle0 ti_3 c) | (have z := bn_nle c; have k1 : (3 : Int32).toInt = 3 := ti_3; omega))
        refine lv_aload_n hx hb dX4_slip_7 rfl (lv_at hl 0 rfl) ?_
        refine sl_gX_13_2_4 hx hb hts hown hK hP dX4_slip_8 ?_
        refine lv_iload_n hx hb dX4_slip_11 rfl (lv_at hl 1 rfl) ?_
        refine lv_aload_n hx hb dX4_slip_12 rfl (lv_at hl 0 rfl) ?_
        refine sl_gX_13_0_4 hx hb hts hown hK hP dX4_slip_13 ?_
        refine lv_iload_n hx hb dX4_slip_16 rfl (lv_at hl 1 rfl) ?_
        refine lv_aload_n hx hb dX4_slip_17 rfl (lv_at hl 0 rfl) ?_
        refine sl_gX_13_2_4 hx hb hts hown hK hP dX4_slip_18 ?_
        refine lv_iload_n hx hb dX4_slip_21 rfl (lv_at hl 1 rfl) ?_
        refine sg_iald hx hb hK hP 14 (by decide) 0 rfl rfl (i := y1_2) (vp_in_iff.mpr ⟨by omega, by omega⟩) dX4_slip_22 ?_
        refine lv_topi (fun v_3 ev_3 => ?_)
        have q_4 : 0 ≤ v_3.toInt ∧ v_3.toInt ≤ 60 := by rw [ev_3]; exact hI 14 _
        refine sg_calli (va_runV (As := [.int y1_2, .int v_3]) (rest := [.int y1_2, .ref (h 14)]) ⟨hx, hb, hml, hown, hts⟩ (kX0_slipped l D ca za h hh fp_2 L Q hI y1_2 v_3 ⟨by omega, by omega⟩ q_4 H.size) (sl_c0_slipped_1_0_0_21_4 hts ⟨Nat.le_of_ble_eq_true rfl, Nat.le_of_ble_eq_true rfl⟩) (sl_vX_1 hA hK hP hS hZ) rfl rfl hl.1 rfl (lv_room (Nat.le_of_ble_eq_true rfl)) dX4_slip_23 ⟨Nat.le_refl _, Nat.le_refl _⟩) hA hS (fun r_8 f_5 L_6 Q_7 H locs hq hP hS => ?_)
        obtain ⟨⟨ef9, eL9, eQ9⟩, hq, u_9⟩ := hq
        rw [ef9, eL9, eQ9] at hP; clear ef9 eL9 eQ9
        refine sg_iast hx hb hh hA hK hP hS 14 (by decide) 0 (fun _ => rfl) rfl (i := y1_2) (x := r_8) (vp_in_iff.mpr ⟨by omega, by omega⟩) dX4_slip_26 (fun f_10 H locs ef_10 hP hS => ?_)
        have hI : sgI loX hiX f_10 := by rw [ef_10]; exact sgI.put hI 14 y1_2.toNatClampNeg (show 0 ≤ (r_8 : Int32).toInt ∧ (r_8 : Int32).toInt ≤ 60 from ⟨by omega, by omega⟩)
        have hF : sgK WkX4_slip f f_10 := sgK.put hF ef_10 (by rfl)
        obtain ⟨v_11, ev_11⟩ : ∃ z : Int32, z = y1_2 + 1 := ⟨_, rfl⟩
        have q_12 : v_11.toInt = y1_2.toInt + 1 := by rw [ev_11]; exact (bn_addc y1_2 1 (by decide) (by omega) (by omega))
        refine lv_iinc (v := v_11) (lv' := [(1, .int v_11), (0, .ref (h 13))]) hx hb dX4_slip_27 hl (k := 1) rfl (by rw [ev_11]; rfl) (by decide) rfl (fun ls hl => ?_)
        refine lv_goto (tgt := 2) hx hb dX4_slip_30 (by decide) ?_
        exact ih_2 v_11 f_10 _ _ _ (hs.trans (((if_pos c_2).trans (spl_e ev_3 (spl_e u_9 (spl_e ef_10 (spl_e ev_11 rfl))))))) (by omega) ⟨by omega, by omega⟩ hI hF hP hS (lv_sub hl [1, 0] rfl)
  refine lv_iconst (v := 0) hx hb dX4_slip_0 ic_0 ?_
  refine lv_istore_n (lv' := [(1, .int 0), (0, .ref (h 13))]) hx hb dX4_slip_1 rfl hl (by decide) rfl (fun ls hl => ?_)
  exact loop_2 4 0 f _ _ _ hs (by have kc0 : (0 : Int32).toInt = 0 := ti_0; omega) (by decide) hI hF hP hS (lv_sub hl [1, 0] rfl)
