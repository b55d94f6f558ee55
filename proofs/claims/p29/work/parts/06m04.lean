/-! contracts of any state. Laid by a program (wip/tool) -/
abbrev WkX12_marked : List (Nat × Nat × Option Nat) := [(0, 0, some 12), (0, 0, some 13), (0, 0, some 14), (0, 0, some 15), (0, 0, some 16), (0, 0, some 23), (0, 0, some 29), (0, 0, some 30), (0, 0, some 31), (8, 8, none), (12, 12, none), (13, 13, none)]
set_option maxHeartbeats 4000000 in
set_option maxRecDepth 100000 in
theorem kX12_marked (l : Launch) (D : va_G) (ca : Nat → ClassId) (za h : Nat → Nat) (hh : sgH 26 h) (f : sg_F) (L : sg_L) (Q : sg_Q) (hI : sgI loM hiM f) (x0 : Int32) (sz : Nat) : Met l yX12_marked gwX12_marked { frames := 47, cells := 0, slots := 0, locals := 1079 } (sgP D vwCl (tyX ca) 26 h (eM ca h) zcM za f L Q sz [.ref (h 0), .int x0]) (sgQi D vwCl 26 h (eM ca h) sz (fun r f1 L1 Q1 => ((sgI loM hiM f1 ∧ sgK WkX12_marked f f1 ∧ L1 = L ∧ Q1 = Q) ∧ True ∧ (r, f1) = sX12_marked x0 f L))) 0 0 (sgA 26 h sz) := by
  refine sg_ofWi (cc := cX12_marked) (maxL := 4) RX12 (by decide) rfl rfl (Nat.le_of_ble_eq_true rfl) ?_
  intro p e s m below meth cd Qz ls hx hb hml hown hts hK hZ hP hS hl hret
  have hA := sgY.self (n := 26) (h := h) (sz := s.heap.size)
  have hl : lv_has ls 4 [(0, .ref (h 0)), (1, .int x0)] := hl
  obtain ⟨H, hH⟩ : ∃ z : Heap, z = s.heap := ⟨_, rfl⟩
  obtain ⟨locs, hlo⟩ : ∃ z : List Loc, z = [] := ⟨_, rfl⟩
  have hP : va_P D vwCl (sgw 26 h (eM ca h) f L Q) H := by rw [hH]; exact hP
  have hS : va_S (sgA 26 h s.heap.size) s.heap H locs := by rw [hH, hlo]; exact hS
  suffices hgo : W p l e ({ frames := 47, cells := 0, slots := 0, locals := 1079 }) s m ([.ref (h 0), .int x0] : List Value).toArray below meth cd H locs 0 0 Qz (F0 m 0 ls []) by rw [hH, hlo] at hgo; exact hgo
  clear hH hlo
  obtain ⟨sp, hsp⟩ : ∃ z : Int32 × sg_F, z = sX12_marked x0 f L := ⟨_, rfl⟩
  have hs : sp = sX12_marked x0 f L := hsp
  have hF : sgK WkX12_marked f f := sgK.rf
  refine lv_aload_n hx hb dX12_marked_0 rfl (lv_at hl 0 rfl) ?_
  refine lv_iload_n hx hb dX12_marked_1 rfl (lv_at hl 1 rfl) ?_
  refine sg_calli (va_runV (As := [.int x0]) (rest := []) ⟨hx, hb, hml, hown, hts⟩ (kX12_bytesIs l D ca za h hh f L Q hI x0 H.size) (sl_c12_bytesIs_2_0_0_45_12 hts ⟨Nat.le_of_ble_eq_true rfl, Nat.le_of_ble_eq_true rfl⟩) (sl_vM_0 hA hK hP hS hZ) rfl rfl hl.1 rfl (lv_room (Nat.le_of_ble_eq_true rfl)) dX12_marked_2 ⟨Nat.le_refl _, Nat.le_refl _⟩) hA hS (fun r_4 f_1 L_2 Q_3 H locs hq hP hS => ?_)
  obtain ⟨⟨ef9, eL9, eQ9⟩, hq, u_5⟩ := hq
  replace hs := hs.trans (spl_e u_5 rfl)
  rw [ef9, eL9, eQ9] at hP; clear ef9 eL9 eQ9
  rcases hq with ⟨rfl, hq⟩ | hq | ⟨rfl, hq⟩
  · skip
    have hc_6 := hq
    refine lv_if_ge (tgt := 14) hx hb dX12_marked_5 (by decide) (fun c => ?_) (fun c => absurd c (by decide))
    refine lv_aload_n hx hb dX12_marked_14 rfl (lv_at hl 0 rfl) ?_
    refine lv_iload_n hx hb dX12_marked_15 rfl (lv_at hl 1 rfl) ?_
    refine sg_calli (va_runV (As := [.int x0]) (rest := []) ⟨hx, hb, hml, hown, hts⟩ (kX12_weekOf l D ca za h hh f L Q hI x0 ⟨by omega, by omega⟩ H.size) (sl_c12_weekOf_46_0_0_1055_12 hts ⟨Nat.le_of_ble_eq_true rfl, Nat.le_of_ble_eq_true rfl⟩) (sl_vM_0 hA hK hP hS hZ) rfl rfl hl.1 rfl (lv_room (Nat.le_of_ble_eq_true rfl)) dX12_marked_16 ⟨Nat.le_refl _, Nat.le_refl _⟩) hA hS (fun r_10 f_7 L_8 Q_9 H locs hq hP hS => ?_)
    obtain ⟨⟨hI, hk_f_7, eL9, eQ9⟩, hq, u_11⟩ := hq
    rw [eL9, eQ9] at hP; clear eL9 eQ9
    have hF : sgK WkX12_marked f f_7 := sgK.tr hF hk_f_7 (by decide +kernel)
    refine lv_istore_n (lv' := [(2, .int r_10), (0, .ref (h 0)), (1, .int x0)]) hx hb dX12_marked_19 rfl hl (by decide) rfl (fun ls hl => ?_)
    refine lv_aload_n hx hb dX12_marked_20 rfl (lv_at hl 1 rfl) ?_
    refine lv_iconst (v := 1) hx hb dX12_marked_21 ic_1 ?_
    refine sg_put (ci := 12) (x := 1) (ty := .boolean) (C := RX12) (T := TX12) (N := 55) hx hb hts (fun w h => List.mem_cons_of_mem _ (gx_12 w h)) tyX12 tyX12_ok nmX12 hown hh hA hK hP hS 0 (by decide) rfl rfl 23 (by decide) (hts _ (List.mem_cons_of_mem _ mw_762)) (fun _ h9 => h9) rfl rfl (by decide +kernel) (by decide) (by decide) (Nat.le_of_ble_eq_true rfl) dX12_marked_22 (fun f_12 H locs ef_12 hP hS => ?_)
    have hI : sgI loM hiM f_12 := by rw [ef_12]; exact sgI.put hI 0 23 (show 0 ≤ (1 : Int32).toInt ∧ (1 : Int32).toInt ≤ 1 from by decide)
    have hF : sgK WkX12_marked f f_12 := sgK.put hF ef_12 (by rfl)
    refine lv_aload_n hx hb dX12_marked_25 rfl (lv_at hl 1 rfl) ?_
    refine lv_iload_n hx hb dX12_marked_26 rfl (lv_at hl 2 rfl) ?_
    refine sg_calli (va_runV (As := [.int x0]) (rest := []) ⟨hx, hb, hml, hown, hts⟩ (kX12_weekOf l D ca za h hh f_12 L Q hI x0 ⟨by omega, by omega⟩ H.size) (sl_c12_weekOf_46_0_0_1055_12 hts ⟨Nat.le_of_ble_eq_true rfl, Nat.le_of_ble_eq_true rfl⟩) (sl_vM_0 hA hK hP hS hZ) rfl rfl hl.1 rfl (lv_room (Nat.le_of_ble_eq_true rfl)) dX12_marked_27 ⟨Nat.le_refl _, Nat.le_refl _⟩) hA hS (fun r_16 f_13 L_14 Q_15 H locs hq hP hS => ?_)
    obtain ⟨⟨hI, hk_f_13, eL9, eQ9⟩, hq, u_17⟩ := hq
    rw [eL9, eQ9] at hP; clear eL9 eQ9
    have hF : sgK WkX12_marked f f_13 := sgK.tr hF hk_f_13 (by decide +kernel)
    refine lv_istore_n (lv' := [(3, .int r_16), (2, .int r_10), (0, .ref (h 0)), (1, .int x0)]) hx hb dX12_marked_30 rfl hl (by decide) rfl (fun ls hl => ?_)
    refine lv_aload_n hx hb dX12_marked_31 rfl (lv_at hl 2 rfl) ?_
    refine lv_iconst (v := 0) hx hb dX12_marked_32 ic_0 ?_
    refine sg_put (ci := 12) (x := 0) (ty := .boolean) (C := RX12) (T := TX12) (N := 55) hx hb hts (fun w h => List.mem_cons_of_mem _ (gx_12 w h)) tyX12 tyX12_ok nmX12 hown hh hA hK hP hS 0 (by decide) rfl rfl 23 (by decide) (hts _ (List.mem_cons_of_mem _ mw_762)) (fun _ h9 => h9) rfl rfl (by decide +kernel) (by decide) (by decide) (Nat.le_of_ble_eq_true rfl) dX12_marked_33 (fun f_18 H locs ef_18 hP hS => ?_)
    have hI : sgI loM hiM f_18 := by rw [ef_18]; exact sgI.put hI 0 23 (show 0 ≤ (0 : Int32).toInt ∧ (0 : Int32).toInt ≤ 1 from by decide)
    have hF : sgK WkX12_marked f f_18 := sgK.put hF ef_18 (by rfl)
    refine lv_iload_n hx hb dX12_marked_36 rfl (lv_at hl 1 rfl) ?_
    refine lv_iload_n hx hb dX12_marked_37 rfl (lv_at hl 0 rfl) ?_
    refine lv_isub hx hb dX12_marked_38 ?_
    refine lv_topi (fun v_19 ev_19 => ?_)
    exact hret _ _ _ _ (v_19) f_18 L Q dX12_marked_39 hP hS ⟨⟨hI, hF, rfl, rfl⟩, trivial, (Eq.trans (Eq.symm (hs.trans ((if_pos rfl).trans (spl2_e u_11 (spl_e ef_12 (spl2_e u_17 (spl_e ef_18 (spl_e ev_19 rfl)))))))) hsp)⟩
  · skip
    have hc_6 := hq
    refine lv_if_ge (tgt := 14) hx hb dX12_marked_5 (by decide) (fun c => ?_) (fun c => ?_)
    · skip
      exfalso; have c_20 : 0 ≤ r_4.toInt := (by first | exact (cm_le0 ti_0 c) | (have z := bn_le c; have k1 : (0 : Int32).toInt = 0 := ti_0; omega)); omega
    · skip
      have c_21 : r_4.toInt < 0 := (by first | exact (cm_nle0 ti_0 c) | (have z := bn_nle c; have k1 : (0 : Int32).toInt = 0 := ti_0; omega))
      refine lv_aload_n hx hb dX12_marked_8 rfl (lv_at hl 0 rfl) ?_
      refine lv_iload_n hx hb dX12_marked_9 rfl (lv_at hl 1 rfl) ?_
      refine sg_calli (va_runV (As := [.int x0]) (rest := []) ⟨hx, hb, hml, hown, hts⟩ (kX12_bytesIs l D ca za h hh f L Q hI x0 H.size) (sl_c12_bytesIs_2_0_0_45_12 hts ⟨Nat.le_of_ble_eq_true rfl, Nat.le_of_ble_eq_true rfl⟩) (sl_vM_0 hA hK hP hS hZ) rfl rfl hl.1 rfl (lv_room (Nat.le_of_ble_eq_true rfl)) dX12_marked_10 ⟨Nat.le_refl _, Nat.le_refl _⟩) hA hS (fun r_25 f_22 L_23 Q_24 H locs hq hP hS => ?_)
      obtain ⟨⟨ef9, eL9, eQ9⟩, hq, u_26⟩ := hq
      rw [ef9, eL9, eQ9] at hP; clear ef9 eL9 eQ9
      rw [show r_25 = r_4 from u_26.trans u_5.symm]
      exact hret _ _ _ _ (r_4) f L Q dX12_marked_13 hP hS ⟨⟨hI, hF, rfl, rfl⟩, trivial, (Eq.trans (Eq.symm (hs.trans ((if_neg (fun z9 => by have k9 : (1 : Int32).toInt = 1 := ti_1; have h9 := hc_6; rw [z9] at h9; omega)).trans ((if_neg (fun z9 => by have k9 : ((-1) : Int32).toInt = (-1) := ti_m1; have h9 := hc_6; rw [z9] at h9; omega)).trans rfl)))) hsp)⟩
  · skip
    have hc_6 := hq
    refine lv_if_ge (tgt := 14) hx hb dX12_marked_5 (by decide) (fun c => absurd c (by decide)) (fun c => ?_)
    refine lv_aload_n hx hb dX12_marked_8 rfl (lv_at hl 0 rfl) ?_
    refine lv_iload_n hx hb dX12_marked_9 rfl (lv_at hl 1 rfl) ?_
    refine sg_calli (va_runV (As := [.int x0]) (rest := []) ⟨hx, hb, hml, hown, hts⟩ (kX12_bytesIs l D ca za h hh f L Q hI x0 H.size) (sl_c12_bytesIs_2_0_0_45_12 hts ⟨Nat.le_of_ble_eq_true rfl, Nat.le_of_ble_eq_true rfl⟩) (sl_vM_0 hA hK hP hS hZ) rfl rfl hl.1 rfl (lv_room (Nat.le_of_ble_eq_true rfl)) dX12_marked_10 ⟨Nat.le_refl _, Nat.le_refl _⟩) hA hS (fun r_30 f_27 L_28 Q_29 H locs hq hP hS => ?_)
    obtain ⟨⟨ef9, eL9, eQ9⟩, hq, u_31⟩ := hq
    rw [ef9, eL9, eQ9] at hP; clear ef9 eL9 eQ9
    rw [show r_30 = (-1) from u_31.trans u_5.symm]
    have k99 : ((-1) : Int32).toInt = (-1) := ti_m1
    exact hret _ _ _ _ (-1) f L Q dX12_marked_13 hP hS ⟨⟨hI, hF, rfl, rfl⟩, trivial, (Eq.trans (Eq.symm (hs.trans ((if_neg (by decide)).trans ((if_pos rfl).trans rfl)))) hsp)⟩

abbrev WkX12_wilful : List (Nat × Nat × Option Nat) := [(0, 0, some 12), (0, 0, some 13), (0, 0, some 14), (0, 0, some 15), (0, 0, some 16), (0, 0, some 24), (0, 0, some 25), (0, 0, some 29), (0, 0, some 30), (0, 0, some 31), (8, 8, none), (12, 12, none), (13, 13, none)]
set_option maxHeartbeats 4000000 in
set_option maxRecDepth 100000 in
theorem kX12_wilful (l : Launch) (D : va_G) (ca : Nat → ClassId) (za h : Nat → Nat) (hh : sgH 26 h) (f : sg_F) (L : sg_L) (Q : sg_Q) (hI : sgI loM hiM f) (x0 : Int32) (x1 : Int32) (x2 : Int32) (sz : Nat) : Met l yX12_wilful gwX12_wilful { frames := 47, cells := 0, slots := 0, locals := 1079 } (sgP D vwCl (tyX ca) 26 h (eM ca h) zcM za f L Q sz [.ref (h 0), .int x0, .int x1, .int x2]) (sgQi D vwCl 26 h (eM ca h) sz (fun r f1 L1 Q1 => ((sgI loM hiM f1 ∧ sgK WkX12_wilful f f1 ∧ L1 = L ∧ Q1 = Q) ∧ True ∧ (r, f1) = sX12_wilful x0 x1 x2 f L))) 0 0 (sgA 26 h sz) := by
  refine sg_ofWi (cc := cX12_wilful) (maxL := 6) RX12 (by decide) rfl rfl (Nat.le_of_ble_eq_true rfl) ?_
  intro p e s m below meth cd Qz ls hx hb hml hown hts hK hZ hP hS hl hret
  have hA := sgY.self (n := 26) (h := h) (sz := s.heap.size)
  have hl : lv_has ls 6 [(0, .ref (h 0)), (1, .int x0), (2, .int x1), (3, .int x2)] := hl
  obtain ⟨H, hH⟩ : ∃ z : Heap, z = s.heap := ⟨_, rfl⟩
  obtain ⟨locs, hlo⟩ : ∃ z : List Loc, z = [] := ⟨_, rfl⟩
  have hP : va_P D vwCl (sgw 26 h (eM ca h) f L Q) H := by rw [hH]; exact hP
  have hS : va_S (sgA 26 h s.heap.size) s.heap H locs := by rw [hH, hlo]; exact hS
  suffices hgo : W p l e ({ frames := 47, cells := 0, slots := 0, locals := 1079 }) s m ([.ref (h 0), .int x0, .int x1, .int x2] : List Value).toArray below meth cd H locs 0 0 Qz (F0 m 0 ls []) by rw [hH, hlo] at hgo; exact hgo
  clear hH hlo
  obtain ⟨sp, hsp⟩ : ∃ z : Int32 × sg_F, z = sX12_wilful x0 x1 x2 f L := ⟨_, rfl⟩
  have hs : sp = sX12_wilful x0 x1 x2 f L := hsp
  have hF : sgK WkX12_wilful f f := sgK.rf
  refine lv_aload_n hx hb dX12_wilful_0 rfl (lv_at hl 0 rfl) ?_
  refine lv_iload_n hx hb dX12_wilful_1 rfl (lv_at hl 1 rfl) ?_
  refine sg_calli (va_runV (As := [.int x0]) (rest := []) ⟨hx, hb, hml, hown, hts⟩ (kX12_bytesIs l D ca za h hh f L Q hI x0 H.size) (sl_c12_bytesIs_2_0_0_45_12 hts ⟨Nat.le_of_ble_eq_true rfl, Nat.le_of_ble_eq_true rfl⟩) (sl_vM_0 hA hK hP hS hZ) rfl rfl hl.1 rfl (lv_room (Nat.le_of_ble_eq_true rfl)) dX12_wilful_2 ⟨Nat.le_refl _, Nat.le_refl _⟩) hA hS (fun r_4 f_1 L_2 Q_3 H locs hq hP hS => ?_)
  obtain ⟨⟨ef9, eL9, eQ9⟩, hq, u_5⟩ := hq
  replace hs := hs.trans (spl_e u_5 rfl)
  rw [ef9, eL9, eQ9] at hP; clear ef9 eL9 eQ9
  rcases hq with ⟨rfl, hq⟩ | hq | ⟨rfl, hq⟩
  · skip
    have hc_6 := hq
    refine lv_if_lt (tgt := 25) hx hb dX12_wilful_5 (by decide) (fun c => absurd c (by decide)) (fun c => ?_)
    refine lv_aload_n hx hb dX12_wilful_8 rfl (lv_at hl 0 rfl) ?_
    refine lv_iload_n hx hb dX12_wilful_9 rfl (lv_at hl 2 rfl) ?_
    obtain ⟨w_7, ew_7⟩ : ∃ z : Int64, z = Int32.toInt64 x1 := ⟨_, rfl⟩
    have q_8 : w_7.toInt = x1.toInt := by rw [ew_7]; exact Int32.toInt_toInt64 _
    refine lv_i2l (v := w_7) hx hb dX12_wilful_10 ew_7.symm ?_
    obtain ⟨v_9, ev_9⟩ : ∃ z : Int32, z = f 0 6 := ⟨_, rfl⟩
    have q_10 : 0 ≤ v_9.toInt ∧ v_9.toInt ≤ 8 := by rw [ev_9]; exact hI 0 6
    have q_11 : (f 0 6).toInt = v_9.toInt := (congrArg Int32.toInt (show f 0 6 = v_9 from ev_9.symm))
    refine sg_calli (va_runV (As := [.long w_7]) (rest := []) ⟨hx, hb, hml, hown, hts⟩ (kX12_isSitter l D ca za h hh f L Q hI w_7 H.size) (sl_c12_isSitter_1_0_0_25_12 hts ⟨Nat.le_of_ble_eq_true rfl, Nat.le_of_ble_eq_true rfl⟩) (sl_vM_0 hA hK hP hS hZ) rfl rfl hl.1 rfl (lv_room (Nat.le_of_ble_eq_true rfl)) dX12_wilful_11 ⟨Nat.le_refl _, Nat.le_refl _⟩) hA hS (fun r_16 f_13 L_14 Q_15 H locs hq hP hS => ?_)
    obtain ⟨⟨ef9, eL9, eQ9⟩, hq, u_17⟩ := hq
    replace hs := hs.trans ((if_pos rfl).trans (spl_e ew_7 (spl_e ev_9 (spl_e u_17 rfl))))
    rw [ef9, eL9, eQ9] at hP; clear ef9 eL9 eQ9
    rcases hq with ⟨rfl, hq⟩ | ⟨rfl, hq⟩
    · skip
      have hc_18 := hq
      refine lv_if_eq (tgt := 25) hx hb dX12_wilful_14 (by decide) (fun c => absurd c (by decide)) (fun c => ?_)
      refine lv_iload_n hx hb dX12_wilful_17 rfl (lv_at hl 3 rfl) ?_
      obtain ⟨w_19, ew_19⟩ : ∃ z : Int64, z = Int32.toInt64 x2 := ⟨_, rfl⟩
      have q_20 : w_19.toInt = x2.toInt := by rw [ew_19]; exact Int32.toInt_toInt64 _
      refine lv_i2l (v := w_19) hx hb dX12_wilful_18 ew_19.symm ?_
      refine sg_calli (va_runS (As := [.long w_19]) (rest := []) ⟨hx, hb, hml, hown, hts⟩ (kX12_isSetting l D ca za h hh f L Q hI w_19 H.size) (va_cwS 1 hts (gw_S (fun _ h => List.mem_cons_of_mem _ h) mw_653 mw_654 mw_619 mw_652) rfl rfl rfl hd_yX12_isSetting.2 ⟨Nat.le_of_ble_eq_true rfl, Nat.le_of_ble_eq_true rfl⟩) (sg_preS hA hK hP hS hZ) rfl rfl hl.1 rfl (lv_room (Nat.le_of_ble_eq_true rfl)) dX12_wilful_19 ⟨Nat.le_refl _, Nat.le_refl _⟩) hA hS (fun r_24 f_21 L_22 Q_23 H locs hq hP hS => ?_)
      obtain ⟨⟨ef9, eL9, eQ9⟩, hq, u_25⟩ := hq
      replace hs := hs.trans ((if_pos rfl).trans (spl_e ew_19 (spl_e u_25 rfl)))
      rw [ef9, eL9, eQ9] at hP; clear ef9 eL9 eQ9
      rcases hq with ⟨rfl, hq⟩ | ⟨rfl, hq⟩
      · skip
        have hc_26 := hq
        refine lv_if_ne (tgt := 29) hx hb dX12_wilful_22 (by decide) (fun c => ?_) (fun c => absurd c (by decide))
        refine lv_aload_n hx hb dX12_wilful_29 rfl (lv_at hl 0 rfl) ?_
        refine lv_iload_n hx hb dX12_wilful_30 rfl (lv_at hl 1 rfl) ?_
        refine sg_calli (va_runV (As := [.int x0]) (rest := []) ⟨hx, hb, hml, hown, hts⟩ (kX12_weekOf l D ca za h hh f L Q hI x0 ⟨by omega, by omega⟩ H.size) (sl_c12_weekOf_46_0_0_1055_12 hts ⟨Nat.le_of_ble_eq_true rfl, Nat.le_of_ble_eq_true rfl⟩) (sl_vM_0 hA hK hP hS hZ) rfl rfl hl.1 rfl (lv_room (Nat.le_of_ble_eq_true rfl)) dX12_wilful_31 ⟨Nat.le_refl _, Nat.le_refl _⟩) hA hS (fun r_30 f_27 L_28 Q_29 H locs hq hP hS => ?_)
        obtain ⟨⟨hI, hk_f_27, eL9, eQ9⟩, hq, u_31⟩ := hq
        rw [eL9, eQ9] at hP; clear eL9 eQ9
        have hF : sgK WkX12_wilful f f_27 := sgK.tr hF hk_f_27 (by decide +kernel)
        refine lv_istore (lv' := [(4, .int r_30), (0, .ref (h 0)), (1, .int x0), (2, .int x1), (3, .int x2)]) hx hb dX12_wilful_34 hl (by decide) rfl (fun ls hl => ?_)
        refine lv_aload_n hx hb dX12_wilful_36 rfl (lv_at hl 1 rfl) ?_
        refine lv_iload_n hx hb dX12_wilful_37 rfl (lv_at hl 3 rfl) ?_
        refine sl_pM_0_24_12 (x := x1) hx hb hts hown hh hA hK hP hS dX12_wilful_38 (fun f_32 H locs ef_32 hP hS => ?_)
        have hI : sgI loM hiM f_32 := by rw [ef_32]; exact sgI.put hI 0 24 (show (-1) ≤ (x1 : Int32).toInt ∧ (x1 : Int32).toInt ≤ 7 from ⟨by omega, by omega⟩)
        have hF : sgK WkX12_wilful f f_32 := sgK.put hF ef_32 (by rfl)
        refine lv_aload_n hx hb dX12_wilful_41 rfl (lv_at hl 1 rfl) ?_
        refine lv_iload_n hx hb dX12_wilful_42 rfl (lv_at hl 4 rfl) ?_
        refine sl_pM_0_25_12 (x := x2) hx hb hts hown hh hA hK hP hS dX12_wilful_43 (fun f_33 H locs ef_33 hP hS => ?_)
        have hI : sgI loM hiM f_33 := by rw [ef_33]; exact sgI.put hI 0 25 (show 0 ≤ (x2 : Int32).toInt ∧ (x2 : Int32).toInt ≤ 60 from ⟨by omega, by omega⟩)
        have hF : sgK WkX12_wilful f f_33 := sgK.put hF ef_33 (by rfl)
        refine lv_aload_n hx hb dX12_wilful_46 rfl (lv_at hl 1 rfl) ?_
        refine lv_iload_n hx hb dX12_wilful_47 rfl (lv_at hl 2 rfl) ?_
        refine sg_calli (va_runV (As := [.int x0]) (rest := []) ⟨hx, hb, hml, hown, hts⟩ (kX12_weekOf l D ca za h hh f_33 L Q hI x0 ⟨by omega, by omega⟩ H.size) (sl_c12_weekOf_46_0_0_1055_12 hts ⟨Nat.le_of_ble_eq_true rfl, Nat.le_of_ble_eq_true rfl⟩) (sl_vM_0 hA hK hP hS hZ) rfl rfl hl.1 rfl (lv_room (Nat.le_of_ble_eq_true rfl)) dX12_wilful_48 ⟨Nat.le_refl _, Nat.le_refl _⟩) hA hS (fun r_37 f_34 L_35 Q_36 H locs hq hP hS => ?_)
        obtain ⟨⟨hI, hk_f_34, eL9, eQ9⟩, hq, u_38⟩ := hq
        rw [eL9, eQ9] at hP; clear eL9 eQ9
        have hF : sgK WkX12_wilful f f_34 := sgK.tr hF hk_f_34 (by decide +kernel)
        refine lv_istore (lv' := [(5, .int r_37), (4, .int r_30), (0, .ref (h 0)), (1, .int x0), (2, .int x1), (3, .int x2)]) hx hb dX12_wilful_51 hl (by decide) rfl (fun ls hl => ?_)
        refine lv_aload_n hx hb dX12_wilful_53 rfl (lv_at hl 2 rfl) ?_
        refine lv_iconst (v := (-1)) hx hb dX12_wilful_54 ic_m1 ?_
        refine sl_pM_0_24_12 (x := (-1)) hx hb hts hown hh hA hK hP hS dX12_wilful_55 (fun f_39 H locs ef_39 hP hS => ?_)
        have hI : sgI loM hiM f_39 := by rw [ef_39]; exact sgI.put hI 0 24 (show (-1) ≤ ((-1) : Int32).toInt ∧ ((-1) : Int32).toInt ≤ 7 from by decide)
        have hF : sgK WkX12_wilful f f_39 := sgK.put hF ef_39 (by rfl)
        refine lv_iload hx hb dX12_wilful_58 (lv_at hl 0 rfl) ?_
        refine lv_iload hx hb dX12_wilful_60 (lv_at hl 1 rfl) ?_
        refine lv_isub hx hb dX12_wilful_62 ?_
        refine lv_topi (fun v_40 ev_40 => ?_)
        exact hret _ _ _ _ (v_40) f_39 L Q dX12_wilful_63 hP hS ⟨⟨hI, hF, rfl, rfl⟩, trivial, (Eq.trans (Eq.symm (hs.trans ((if_pos rfl).trans (spl2_e u_31 (spl_e ef_32 (spl_e ef_33 (spl2_e u_38 (spl_e ef_39 (spl_e ev_40 rfl))))))))) hsp)⟩
      · skip
        have hc_26 := hq
        refine lv_if_ne (tgt := 29) hx hb dX12_wilful_22 (by decide) (fun c => absurd c (by decide)) (fun c => ?_)
        refine lv_ldcw (v := (-2000000000)) hx hb hown (hts _ (List.mem_cons_of_mem _ mw_694)) dX12_wilful_25 ?_
        have k99 : ((-2000000000) : Int32).toInt = (-2000000000) := ti_m2000000000
        exact hret _ _ _ _ (-2000000000) f L Q dX12_wilful_28 hP hS ⟨⟨hI, hF, rfl, rfl⟩, trivial, (Eq.trans (Eq.symm (hs.trans ((if_neg (by decide)).trans rfl))) hsp)⟩
    · skip
      have hc_18 := hq
      refine lv_if_eq (tgt := 25) hx hb dX12_wilful_14 (by decide) (fun c => ?_) (fun c => absurd c (by decide))
      refine lv_ldcw (v := (-2000000000)) hx hb hown (hts _ (List.mem_cons_of_mem _ mw_694)) dX12_wilful_25 ?_
      have k99 : ((-2000000000) : Int32).toInt = (-2000000000) := ti_m2000000000
      exact hret _ _ _ _ (-2000000000) f L Q dX12_wilful_28 hP hS ⟨⟨hI, hF, rfl, rfl⟩, trivial, (Eq.trans (Eq.symm (hs.trans ((if_neg (by decide)).trans rfl))) hsp)⟩
  · skip
    have hc_6 := hq
    refine lv_if_lt (tgt := 25) hx hb dX12_wilful_5 (by decide) (fun c => ?_) (fun c => ?_)
    · skip
      have c_41 : r_4.toInt < 0 := (by first | exact (cm_lt1 ti_0 c) | (have z := bn_lt c; have k1 : (0 : Int32).toInt = 0 := ti_0; omega))
      refine lv_ldcw (v := (-2000000000)) hx hb hown (hts _ (List.mem_cons_of_mem _ mw_694)) dX12_wilful_25 ?_
      have k99 : ((-2000000000) : Int32).toInt = (-2000000000) := ti_m2000000000
      exact hret _ _ _ _ (-2000000000) f L Q dX12_wilful_28 hP hS ⟨⟨hI, hF, rfl, rfl⟩, trivial, (Eq.trans (Eq.symm (hs.trans ((if_neg (fun z9 => by have k9 : (1 : Int32).toInt = 1 := ti_1; have h9 := hc_6; rw [z9] at h9; omega)).trans ((if_neg (fun z9 => by have k9 : ((-1) : Int32).toInt = (-1) := ti_m1; have h9 := hc_6; rw [z9] at h9; omega)).trans rfl)))) hsp)⟩
    · skip
      exfalso; have c_42 : 0 ≤ r_4.toInt := (by first | exact (cm_nlt1 ti_0 c) | (have z := bn_nlt c; have k1 : (0 : Int32).toInt = 0 := ti_0; omega)); omega
  · skip
    have hc_6 := hq
    refine lv_if_lt (tgt := 25) hx hb dX12_wilful_5 (by decide) (fun c => ?_) (fun c => absurd c (by decide))
    refine lv_ldcw (v := (-2000000000)) hx hb hown (hts _ (List.mem_cons_of_mem _ mw_694)) dX12_wilful_25 ?_
    have k99 : ((-2000000000) : Int32).toInt = (-2000000000) := ti_m2000000000
    exact hret _ _ _ _ (-2000000000) f L Q dX12_wilful_28 hP hS ⟨⟨hI, hF, rfl, rfl⟩, trivial, (Eq.trans (Eq.symm (hs.trans ((if_neg (by decide)).trans ((if_pos rfl).trans rfl)))) hsp)⟩

set_option maxHeartbeats 4000000 in
set_option maxRecDepth 100000 in
theorem kX12_sitsSet (l : Launch) (D : va_G) (ca : Nat → ClassId) (za h : Nat → Nat) (hh : sgH 26 h) (f : sg_F) (L : sg_L) (Q : sg_Q) (hI : sgI loM hiM f) (x0 : Int32) (b0 : 0 ≤ x0.toInt ∧ x0.toInt ≤ 5) (sz : Nat) : Met l yX12_sitsSet gwX12_sitsSet { frames := 3, cells := 0, slots := 0, locals := 71 } (sgP D vwCl (tyX ca) 26 h (eM ca h) zcM za f L Q sz [.ref (h 0), .int x0]) (sgQi D vwCl 26 h (eM ca h) sz (fun r f1 L1 Q1 => ((f1 = f ∧ L1 = L ∧ Q1 = Q) ∧ (0 ≤ r.toInt ∧ r.toInt ≤ 255) ∧ (r) = sX12_sitsSet x0 f L))) 0 0 (sgA 26 h sz) := by
  refine sg_ofWi (cc := cX12_sitsSet) (maxL := 4) RX12 (by decide) rfl rfl (Nat.le_of_ble_eq_true rfl) ?_
  intro p e s m below meth cd Qz ls hx hb hml hown hts hK hZ hP hS hl hret
  have hA := sgY.self (n := 26) (h := h) (sz := s.heap.size)
  have hl : lv_has ls 4 [(0, .ref (h 0)), (1, .int x0)] := hl
  obtain ⟨H, hH⟩ : ∃ z : Heap, z = s.heap := ⟨_, rfl⟩
  obtain ⟨locs, hlo⟩ : ∃ z : List Loc, z = [] := ⟨_, rfl⟩
  have hP : va_P D vwCl (sgw 26 h (eM ca h) f L Q) H := by rw [hH]; exact hP
  have hS : va_S (sgA 26 h s.heap.size) s.heap H locs := by rw [hH, hlo]; exact hS
  suffices hgo : W p l e ({ frames := 3, cells := 0, slots := 0, locals := 71 }) s m ([.ref (h 0), .int x0] : List Value).toArray below meth cd H locs 0 0 Qz (F0 m 0 ls []) by rw [hH, hlo] at hgo; exact hgo
  clear hH hlo
  obtain ⟨sp, hsp⟩ : ∃ z : Int32, z = sX12_sitsSet x0 f L := ⟨_, rfl⟩
  have hs : sp = sX12_sitsSet x0 f L := hsp
  have loop_4 : ∀ (n_4 : Nat) (y2_4 : Int32) (y3_4 : Int32) (H : Heap) (locs : List Loc) (ls : Array Slot), sp = sX12_sitsSet_l4 x0 n_4 y2_4 y3_4 f L → 21 - y3_4.toInt < (n_4 : Int) → 0 ≤ y2_4.toInt ∧ y2_4.toInt ≤ 255 → 0 ≤ y3_4.toInt ∧ y3_4.toInt ≤ 21 → va_P D vwCl (sgw 26 h (eM ca h) f L Q) H → va_S (sgA 26 h s.heap.size) s.heap H locs → lv_has ls 4 [(0, .ref (h 0)), (1, .int x0), (2, .int y2_4), (3, .int y3_4)] → W p l e ({ frames := 3, cells := 0, slots := 0, locals := 71 }) s m ([.ref (h 0), .int x0] : List Value).toArray below meth cd H locs 0 0 Qz (F0 m 4 ls []) := by
    intro n_4
    induction n_4 with
    | zero => intro y2_4 y3_4 H locs ls hs hm_4 hy0_4 hy1_4 hP hS hl; exact absurd hm_4 (by omega)
    | succ n_4 ih_4 =>
      intro y2_4 y3_4 H locs ls hs hm_4 hy0_4 hy1_4 hP hS hl
      have hs : sp = sX12_sitsSet_h4 x0 (sX12_sitsSet_l4 x0 n_4) y2_4 y3_4 f L := hs
      refine lv_iload_n hx hb dX12_sitsSet_4 rfl (lv_at hl 3 rfl) ?_
      refine lv_aload_n hx hb dX12_sitsSet_5 rfl (lv_at hl 0 rfl) ?_
      refine lv_iload_n hx hb dX12_sitsSet_6 rfl (lv_at hl 1 rfl) ?_
      refine sg_calli (va_runV (As := [.int x0]) (rest := [.int y3_4]) ⟨hx, hb, hml, hown, hts⟩ (kX12_shiftsOf l D ca za h hh f L Q hI x0 b0 H.size) (sl_c12_shiftsOf_0_0_0_0_12 hts ⟨Nat.le_of_ble_eq_true rfl, Nat.le_of_ble_eq_true rfl⟩) (sl_vM_0 hA hK hP hS hZ) rfl rfl hl.1 rfl (lv_room (Nat.le_of_ble_eq_true rfl)) dX12_sitsSet_7 ⟨Nat.le_refl _, Nat.le_refl _⟩) hA hS (fun r_4 f_1 L_2 Q_3 H locs hq hP hS => ?_)
      obtain ⟨⟨ef9, eL9, eQ9⟩, hq, u_5⟩ := hq
      replace hs := hs.trans (spl_e u_5 rfl)
      rw [ef9, eL9, eQ9] at hP; clear ef9 eL9 eQ9
      refine lv_icmp_ge (tgt := 43) hx hb dX12_sitsSet_10 (by decide) (fun c => ?_) (fun c => ?_)
      · skip
        have c_6 : r_4.toInt ≤ y3_4.toInt := (by first | exact (bn_le c) | (have z := bn_le c; omega))
        refine lv_iload_n hx hb dX12_sitsSet_43 rfl (lv_at hl 2 rfl) ?_
        exact hret _ _ _ _ (y2_4) f L Q dX12_sitsSet_44 hP hS ⟨⟨rfl, rfl, rfl⟩, ⟨by omega, by omega⟩, (Eq.trans (Eq.symm (hs.trans ((if_neg (Int.not_lt.mpr c_6)).trans rfl))) hsp)⟩
      · skip
        have c_7 : y3_4.toInt < r_4.toInt := (by first | exact (bn_nle c) | (have z := bn_nle c; omega))
        refine lv_iload_n hx hb dX12_sitsSet_13 rfl (lv_at hl 2 rfl) ?_
        refine lv_aload_n hx hb dX12_sitsSet_14 rfl (lv_at hl 0 rfl) ?_
        refine lv_iload_n hx hb dX12_sitsSet_15 rfl (lv_at hl 1 rfl) ?_
        refine lv_iload_n hx hb dX12_sitsSet_16 rfl (lv_at hl 3 rfl) ?_
        refine sg_calli (va_runV (As := [.int x0, .int y3_4]) (rest := [.int y2_4]) ⟨hx, hb, hml, hown, hts⟩ (kX12_whoSits l D ca za h hh f L Q hI x0 y3_4 b0 ⟨by omega, by omega⟩ H.size) (sl_c12_whoSits_2_0_0_47_12 hts ⟨Nat.le_of_ble_eq_true rfl, Nat.le_of_ble_eq_true rfl⟩) (sl_vM_0 hA hK hP hS hZ) rfl rfl hl.1 rfl (lv_room (Nat.le_of_ble_eq_true rfl)) dX12_sitsSet_17 ⟨Nat.le_refl _, Nat.le_refl _⟩) hA hS (fun r_11 f_8 L_9 Q_10 H locs hq hP hS => ?_)
        obtain ⟨⟨ef9, eL9, eQ9⟩, hq, u_12⟩ := hq
        replace hs := hs.trans ((if_pos c_7).trans (spl_e u_12 rfl))
        rw [ef9, eL9, eQ9] at hP; clear ef9 eL9 eQ9
        refine lv_if_lt (tgt := 34) hx hb dX12_sitsSet_20 (by decide) (fun c => ?_) (fun c => ?_)
        · skip
          have c_13 : r_11.toInt < 0 := (by first | exact (cm_lt1 ti_0 c) | (have z := bn_lt c; have k1 : (0 : Int32).toInt = 0 := ti_0; omega))
          refine lv_iconst (v := 0) hx hb dX12_sitsSet_34 ic_0 ?_
          refine lv_ior hx hb dX12_sitsSet_35 ?_
          refine lv_topi (fun v_15 ev_15 => ?_)
          have q_16 : 0 ≤ v_15.toInt ∧ v_15.toInt ≤ 255 := by rw [ev_15]; have k1 : (0 : Int32).toInt = 0 := ti_0; exact bn_or255 (x := y2_4) (y := 0) (by omega) (by omega) (by omega) (by omega)
          refine lv_istore_n (lv' := [(2, .int v_15), (0, .ref (h 0)), (1, .int x0), (3, .int y3_4)]) hx hb dX12_sitsSet_36 rfl hl (by decide) rfl (fun ls hl => ?_)
          obtain ⟨v_17, ev_17⟩ : ∃ z : Int32, z = y3_4 + 1 := ⟨_, rfl⟩
          have q_18 : v_17.toInt = y3_4.toInt + 1 := by rw [ev_17]; exact (bn_addc y3_4 1 (by decide) (by omega) (by omega))
          refine lv_iinc (v := v_17) (lv' := [(3, .int v_17), (2, .int v_15), (0, .ref (h 0)), (1, .int x0)]) hx hb dX12_sitsSet_37 hl (k := 3) rfl (by rw [ev_17]; rfl) (by decide) rfl (fun ls hl => ?_)
          refine lv_goto (tgt := 4) hx hb dX12_sitsSet_40 (by decide) ?_
          exact ih_4 v_15 v_17 _ _ _ (hs.trans ((if_pos c_13).trans (spl_e ev_15 (spl_e ev_17 rfl)))) (by omega) q_16 ⟨by omega, by omega⟩ hP hS (lv_sub hl [2, 3, 1, 0] rfl)
        · skip
          have c_14 : 0 ≤ r_11.toInt := (by first | exact (cm_nlt1 ti_0 c) | (have z := bn_nlt c; have k1 : (0 : Int32).toInt = 0 := ti_0; omega))
          refine lv_iconst (v := 1) hx hb dX12_sitsSet_23 ic_1 ?_
          refine lv_aload_n hx hb dX12_sitsSet_24 rfl (lv_at hl 0 rfl) ?_
          refine lv_iload_n hx hb dX12_sitsSet_25 rfl (lv_at hl 1 rfl) ?_
          refine lv_iload_n hx hb dX12_sitsSet_26 rfl (lv_at hl 3 rfl) ?_
          refine sg_calli (va_runV (As := [.int x0, .int y3_4]) (rest := [.int 1, .int y2_4]) ⟨hx, hb, hml, hown, hts⟩ (kX12_whoSits l D ca za h hh f L Q hI x0 y3_4 b0 ⟨by omega, by omega⟩ H.size) (sl_c12_whoSits_2_0_0_47_12 hts ⟨Nat.le_of_ble_eq_true rfl, Nat.le_of_ble_eq_true rfl⟩) (sl_vM_0 hA hK hP hS hZ) rfl rfl hl.1 rfl (lv_room (Nat.le_of_ble_eq_true rfl)) dX12_sitsSet_27 ⟨Nat.le_refl _, Nat.le_refl _⟩) hA hS (fun r_22 f_19 L_20 Q_21 H locs hq hP hS => ?_)
          obtain ⟨⟨ef9, eL9, eQ9⟩, hq, u_23⟩ := hq
          rw [ef9, eL9, eQ9] at hP; clear ef9 eL9 eQ9
          rw [show r_22 = r_11 from u_23.trans u_12.symm]
          refine lv_ishl hx hb dX12_sitsSet_30 ?_
          refine lv_topi (fun v_24 ev_24 => ?_)
          have q_25 : 1 ≤ v_24.toInt ∧ v_24.toInt ≤ 128 := by rw [ev_24]; have z := bn_shl1 (y := r_11) (by omega) (by omega); omega
          refine lv_goto (tgt := 35) hx hb dX12_sitsSet_31 (by decide) ?_
          refine lv_ior hx hb dX12_sitsSet_35 ?_
          refine lv_topi (fun v_26 ev_26 => ?_)
          have q_27 : 0 ≤ v_26.toInt ∧ v_26.toInt ≤ 255 := by rw [ev_26]; exact bn_or255 (x := y2_4) (y := v_24) (by omega) (by omega) (by omega) (by omega)
          refine lv_istore_n (lv' := [(2, .int v_26), (0, .ref (h 0)), (1, .int x0), (3, .int y3_4)]) hx hb dX12_sitsSet_36 rfl hl (by decide) rfl (fun ls hl => ?_)
          obtain ⟨v_28, ev_28⟩ : ∃ z : Int32, z = y3_4 + 1 := ⟨_, rfl⟩
          have q_29 : v_28.toInt = y3_4.toInt + 1 := by rw [ev_28]; exact (bn_addc y3_4 1 (by decide) (by omega) (by omega))
          refine lv_iinc (v := v_28) (lv' := [(3, .int v_28), (2, .int v_26), (0, .ref (h 0)), (1, .int x0)]) hx hb dX12_sitsSet_37 hl (k := 3) rfl (by rw [ev_28]; rfl) (by decide) rfl (fun ls hl => ?_)
          refine lv_goto (tgt := 4) hx hb dX12_sitsSet_40 (by decide) ?_
          exact ih_4 v_26 v_28 _ _ _ (hs.trans ((if_neg (Int.not_lt.mpr c_14)).trans (spl_e ev_24 (spl_e ev_26 (spl_e ev_28 rfl))))) (by omega) q_27 ⟨by omega, by omega⟩ hP hS (lv_sub hl [2, 3, 1, 0] rfl)
  refine lv_iconst (v := 0) hx hb dX12_sitsSet_0 ic_0 ?_
  refine lv_istore_n (lv' := [(2, .int 0), (0, .ref (h 0)), (1, .int x0)]) hx hb dX12_sitsSet_1 rfl hl (by decide) rfl (fun ls hl => ?_)
  refine lv_iconst (v := 0) hx hb dX12_sitsSet_2 ic_0 ?_
  refine lv_istore_n (lv' := [(3, .int 0), (2, .int 0), (0, .ref (h 0)), (1, .int x0)]) hx hb dX12_sitsSet_3 rfl hl (by decide) rfl (fun ls hl => ?_)
  exact loop_4 22 0 0 _ _ _ hs (by have kc0 : (0 : Int32).toInt = 0 := ti_0; have kc1 : (0 : Int32).toInt = 0 := ti_0; omega) (by decide) (by decide) hP hS (lv_sub hl [2, 3, 1, 0] rfl)

set_option maxHeartbeats 4000000 in
set_option maxRecDepth 100000 in
theorem kX12_chairLoss (l : Launch) (D : va_G) (ca : Nat → ClassId) (za h : Nat → Nat) (hh : sgH 26 h) (f : sg_F) (L : sg_L) (Q : sg_Q) (hI : sgI loM hiM f) (x0 : Int32) (x1 : Int32) (b0 : 0 ≤ x0.toInt ∧ x0.toInt ≤ 255) (b1 : 0 ≤ x1.toInt ∧ x1.toInt ≤ 7) (sz : Nat) : Met l yX12_chairLoss gwX12_chairLoss { frames := 1, cells := 0, slots := 0, locals := 21 } (sgP D vwCl (tyX ca) 26 h (eM ca h) zcM za f L Q sz [.ref (h 0), .int x0, .int x1]) (sgQi D vwCl 26 h (eM ca h) sz (fun r f1 L1 Q1 => ((f1 = f ∧ L1 = L ∧ Q1 = Q) ∧ True ∧ (r) = sX12_chairLoss x0 x1 f L))) 0 0 (sgA 26 h sz) := by
  refine sg_ofWi (cc := cX12_chairLoss) (maxL := 7) RX12 (by decide) rfl rfl (Nat.le_of_ble_eq_true rfl) ?_
  intro p e s m below meth cd Qz ls hx hb hml hown hts hK hZ hP hS hl hret
  have hA := sgY.self (n := 26) (h := h) (sz := s.heap.size)
  have hl : lv_has ls 7 [(0, .ref (h 0)), (1, .int x0), (2, .int x1)] := hl
  obtain ⟨H, hH⟩ : ∃ z : Heap, z = s.heap := ⟨_, rfl⟩
  obtain ⟨locs, hlo⟩ : ∃ z : List Loc, z = [] := ⟨_, rfl⟩
  have hP : va_P D vwCl (sgw 26 h (eM ca h) f L Q) H := by rw [hH]; exact hP
  have hS : va_S (sgA 26 h s.heap.size) s.heap H locs := by rw [hH, hlo]; exact hS
  suffices hgo : W p l e ({ frames := 1, cells := 0, slots := 0, locals := 21 }) s m ([.ref (h 0), .int x0, .int x1] : List Value).toArray below meth cd H locs 0 0 Qz (F0 m 0 ls []) by rw [hH, hlo] at hgo; exact hgo
  clear hH hlo
  obtain ⟨sp, hsp⟩ : ∃ z : Int32, z = sX12_chairLoss x0 x1 f L := ⟨_, rfl⟩
  have hs : sp = sX12_chairLoss x0 x1 f L := hsp
  have loop_5 : ∀ (n_5 : Nat) (y3_5 : Int32) (y4_5 : Int32) (H : Heap) (locs : List Loc) (ls : Array Slot), sp = sX12_chairLoss_l5 x0 x1 n_5 y3_5 y4_5 f L → 61 - y4_5.toInt < (n_5 : Int) → 0 ≤ y4_5.toInt ∧ y4_5.toInt ≤ 61 → va_P D vwCl (sgw 26 h (eM ca h) f L Q) H → va_S (sgA 26 h s.heap.size) s.heap H locs → lv_has ls 7 [(0, .ref (h 0)), (1, .int x0), (2, .int x1), (3, .int y3_5), (4, .int y4_5)] → W p l e ({ frames := 1, cells := 0, slots := 0, locals := 21 }) s m ([.ref (h 0), .int x0, .int x1] : List Value).toArray below meth cd H locs 0 0 Qz (F0 m 5 ls []) := by
    intro n_5
    induction n_5 with
    | zero => intro y3_5 y4_5 H locs ls hs hm_5 hy0_5 hP hS hl; exact absurd hm_5 (by omega)
    | succ n_5 ih_5 =>
      have blk_85 : ∀ (y4_85 : Int32) (y5_85 : Int32) (H : Heap) (locs : List Loc) (ls : Array Slot), sp = sX12_chairLoss_b85 (sX12_chairLoss_l5 x0 x1 n_5) x0 x1 y4_85 y5_85 f L → 61 - y4_85.toInt < ((n_5 + 1 : Nat) : Int) → 0 ≤ y4_85.toInt ∧ y4_85.toInt ≤ 60 → va_P D vwCl (sgw 26 h (eM ca h) f L Q) H → va_S (sgA 26 h s.heap.size) s.heap H locs → lv_has ls 7 [(0, .ref (h 0)), (1, .int x0), (2, .int x1), (4, .int y4_85), (5, .int y5_85)] → W p l e ({ frames := 1, cells := 0, slots := 0, locals := 21 }) s m ([.ref (h 0), .int x0, .int x1] : List Value).toArray below meth cd H locs 0 0 Qz (F0 m 85 ls []) := by
        intro y4_85 y5_85 H locs ls hs hm_5 hy0_85 hP hS hl
        refine lv_iload hx hb dX12_chairLoss_85 (lv_at hl 4 rfl) ?_
        refine lv_goto (tgt := 91) hx hb dX12_chairLoss_87 (by decide) ?_
        refine lv_istore_n (lv' := [(3, .int y5_85), (0, .ref (h 0)), (1, .int x0), (2, .int x1), (4, .int y4_85), (5, .int y5_85)]) hx hb dX12_chairLoss_91 rfl hl (by decide) rfl (fun ls hl => ?_)
        obtain ⟨v_1, ev_1⟩ : ∃ z : Int32, z = y4_85 + 1 := ⟨_, rfl⟩
        have q_2 : v_1.toInt = y4_85.toInt + 1 := by rw [ev_1]; exact (bn_addc y4_85 1 (by decide) (by omega) (by omega))
        refine lv_iinc (v := v_1) (lv' := [(4, .int v_1), (3, .int y5_85), (0, .ref (h 0)), (1, .int x0), (2, .int x1), (5, .int y5_85)]) hx hb dX12_chairLoss_92 hl (k := 4) rfl (by rw [ev_1]; rfl) (by decide) rfl (fun ls hl => ?_)
        refine lv_goto (tgt := 5) hx hb dX12_chairLoss_95 (by decide) ?_
        exact ih_5 y5_85 v_1 _ _ _ (hs.trans ((spl_e ev_1 rfl))) (by omega) ⟨by omega, by omega⟩ hP hS (lv_sub hl [2, 3, 4, 1, 0] rfl)
      have loop_18 : ∀ (n_18 : Nat) (y3_18 : Int32) (y4_18 : Int32) (y5_18 : Int32) (y6_18 : Int32) (H : Heap) (locs : List Loc) (ls : Array Slot), sp = sX12_chairLoss_l18 (sX12_chairLoss_l5 x0 x1 n_5) x0 x1 n_18 y3_18 y4_18 y5_18 y6_18 f L → 8 - y6_18.toInt < (n_18 : Int) → 61 - y4_18.toInt < ((n_5 + 1 : Nat) : Int) → 0 ≤ y4_18.toInt ∧ y4_18.toInt ≤ 60 → 0 ≤ y6_18.toInt ∧ y6_18.toInt ≤ 8 → va_P D vwCl (sgw 26 h (eM ca h) f L Q) H → va_S (sgA 26 h s.heap.size) s.heap H locs → lv_has ls 7 [(0, .ref (h 0)), (1, .int x0), (2, .int x1), (3, .int y3_18), (4, .int y4_18), (5, .int y5_18), (6, .int y6_18)] → W p l e ({ frames := 1, cells := 0, slots := 0, locals := 21 }) s m ([.ref (h 0), .int x0, .int x1] : List Value).toArray below meth cd H locs 0 0 Qz (F0 m 18 ls []) := by
        intro n_18
        induction n_18 with
        | zero => intro y3_18 y4_18 y5_18 y6_18 H locs ls hs hm_18 hm_5 hy0_18 hy1_18 hP hS hl; exact absurd hm_18 (by omega)
        | succ n_18 ih_18 =>
          intro y3_18 y4_18 y5_18 y6_18 H locs ls hs hm_18 hm_5 hy0_18 hy1_18 hP hS hl
          have hs : sp = sX12_chairLoss_h18 (sX12_chairLoss_l5 x0 x1 n_5) x0 x1 (sX12_chairLoss_l18 (sX12_chairLoss_l5 x0 x1 n_5) x0 x1 n_18) y3_18 y4_18 y5_18 y6_18 f L := hs
          refine lv_iload hx hb dX12_chairLoss_18 (lv_at hl 6 rfl) ?_
          refine lv_aload_n hx hb dX12_chairLoss_20 rfl (lv_at hl 0 rfl) ?_
          refine sl_gM_0_6_12 (v := (f 0 6)) hx hb hts hown hK hP rfl dX12_chairLoss_21 ?_
          refine lv_topi (fun v_3 ev_3 => ?_)
          replace hs := hs.trans (spl_e ev_3 rfl)
          have q_4 : 0 ≤ v_3.toInt ∧ v_3.toInt ≤ 8 := by rw [ev_3]; exact hI 0 6
          refine lv_icmp_ge (tgt := 75) hx hb dX12_chairLoss_24 (by decide) (fun c => ?_) (fun c => ?_)
          · skip
            have c_5 : v_3.toInt ≤ y6_18.toInt := (by first | exact (bn_le c) | (have z := bn_le c; omega))
            replace hs := hs.trans ((if_neg (Int.not_lt.mpr c_5)).trans rfl)
            refine lv_iload_n hx hb dX12_chairLoss_75 rfl (lv_at hl 3 rfl) ?_
            refine lv_if_lt (tgt := 85) hx hb dX12_chairLoss_76 (by decide) (fun c => ?_) (fun c => ?_)
            · skip
              have c_7 : y3_18.toInt < 0 := (by first | exact (cm_lt1 ti_0 c) | (have z := bn_lt c; have k1 : (0 : Int32).toInt = 0 := ti_0; omega))
              exact blk_85 y4_18 y5_18 _ _ _ (hs.trans ((if_pos c_7).trans rfl)) hm_5 hy0_18 hP hS (lv_sub hl [0, 1, 2, 4, 5] rfl)
            · skip
              have c_8 : 0 ≤ y3_18.toInt := (by first | exact (cm_nlt1 ti_0 c) | (have z := bn_nlt c; have k1 : (0 : Int32).toInt = 0 := ti_0; omega))
              replace hs := hs.trans ((if_neg (Int.not_lt.mpr c_8)).trans rfl)
              refine lv_iload hx hb dX12_chairLoss_79 (lv_at hl 5 rfl) ?_
              refine lv_iload_n hx hb dX12_chairLoss_81 rfl (lv_at hl 3 rfl) ?_
              refine lv_icmp_ge (tgt := 90) hx hb dX12_chairLoss_82 (by decide) (fun c => ?_) (fun c => ?_)
              · skip
                have c_9 : y3_18.toInt ≤ y5_18.toInt := (by first | exact (bn_le c) | (have z := bn_le c; omega))
                refine lv_iload_n hx hb dX12_chairLoss_90 rfl (lv_at hl 3 rfl) ?_
                refine lv_istore_n (lv' := [(3, .int y3_18), (0, .ref (h 0)), (1, .int x0), (2, .int x1), (4, .int y4_18), (5, .int y5_18), (6, .int y6_18)]) hx hb dX12_chairLoss_91 rfl hl (by decide) rfl (fun ls hl => ?_)
                obtain ⟨v_11, ev_11⟩ : ∃ z : Int32, z = y4_18 + 1 := ⟨_, rfl⟩
                have q_12 : v_11.toInt = y4_18.toInt + 1 := by rw [ev_11]; exact (bn_addc y4_18 1 (by decide) (by omega) (by omega))
                refine lv_iinc (v := v_11) (lv' := [(4, .int v_11), (3, .int y3_18), (0, .ref (h 0)), (1, .int x0), (2, .int x1), (5, .int y5_18), (6, .int y6_18)]) hx hb dX12_chairLoss_92 hl (k := 4) rfl (by rw [ev_11]; rfl) (by decide) rfl (fun ls hl => ?_)
                refine lv_goto (tgt := 5) hx hb dX12_chairLoss_95 (by decide) ?_
                exact ih_5 y3_18 v_11 _ _ _ (hs.trans ((if_neg (Int.not_lt.mpr c_9)).trans (spl_e ev_11 rfl))) (by omega) ⟨by omega, by omega⟩ hP hS (lv_sub hl [2, 3, 4, 1, 0] rfl)
              · skip
                have c_10 : y5_18.toInt < y3_18.toInt := (by first | exact (bn_nle c) | (have z := bn_nle c; omega))
                exact blk_85 y4_18 y5_18 _ _ _ (hs.trans ((if_pos c_10).trans rfl)) hm_5 hy0_18 hP hS (lv_sub hl [0, 1, 2, 4, 5] rfl)
          · skip
            have c_6 : y6_18.toInt < v_3.toInt := (by first | exact (bn_nle c) | (have z := bn_nle c; omega))
            refine lv_iload hx hb dX12_chairLoss_27 (lv_at hl 5 rfl) ?_
            refine lv_iload_n hx hb dX12_chairLoss_29 rfl (lv_at hl 1 rfl) ?_
            refine lv_iload hx hb dX12_chairLoss_30 (lv_at hl 6 rfl) ?_
            refine sg_calli (va_runS (As := [.int x0, .int y6_18]) (rest := [.int y5_18]) ⟨hx, hb, hml, hown, hts⟩ (kX12_isIn l D ca za h hh f L Q hI x0 y6_18 ⟨by omega, by omega⟩ ⟨by omega, by omega⟩ H.size) (va_cwS 2 hts (gw_S (fun _ h => List.mem_cons_of_mem _ h) mw_832 mw_833 mw_619 mw_831) rfl rfl rfl hd_yX12_isIn.2 ⟨Nat.le_of_ble_eq_true rfl, Nat.le_of_ble_eq_true rfl⟩) (sg_preS hA hK hP hS hZ) rfl rfl hl.1 rfl (lv_room (Nat.le_of_ble_eq_true rfl)) dX12_chairLoss_32 ⟨Nat.le_refl _, Nat.le_refl _⟩) hA hS (fun r_16 f_13 L_14 Q_15 H locs hq hP hS => ?_)
            obtain ⟨⟨ef9, eL9, eQ9⟩, hq, u_17⟩ := hq
            replace hs := hs.trans ((if_pos c_6).trans (spl_e u_17 rfl))
            rw [ef9, eL9, eQ9] at hP; clear ef9 eL9 eQ9
            refine lv_if_eq (tgt := 65) hx hb dX12_chairLoss_35 (by decide) (fun c => ?_) (fun c => ?_)
            · skip
              have c_18 : r_16.toInt = 0 := (by first | exact (cm_eq1 ti_0 c) | (have z := Int32.toInt_inj.mpr c; have k1 : (0 : Int32).toInt = 0 := ti_0; omega))
              refine lv_iconst (v := 0) hx hb dX12_chairLoss_65 ic_0 ?_
              refine lv_iadd hx hb dX12_chairLoss_66 ?_
              refine W.eq (g2 := F0 m 67 ls [.int y5_18]) (by rw [Int32.add_zero]) ?_
              refine lv_istore (lv' := [(5, .int y5_18), (0, .ref (h 0)), (1, .int x0), (2, .int x1), (3, .int y3_18), (4, .int y4_18), (6, .int y6_18)]) hx hb dX12_chairLoss_67 hl (by decide) rfl (fun ls hl => ?_)
              obtain ⟨v_20, ev_20⟩ : ∃ z : Int32, z = y6_18 + 1 := ⟨_, rfl⟩
              have q_21 : v_20.toInt = y6_18.toInt + 1 := by rw [ev_20]; exact (bn_addc y6_18 1 (by decide) (by omega) (by omega))
              refine lv_iinc (v := v_20) (lv' := [(6, .int v_20), (5, .int y5_18), (0, .ref (h 0)), (1, .int x0), (2, .int x1), (3, .int y3_18), (4, .int y4_18)]) hx hb dX12_chairLoss_69 hl (k := 6) rfl (by rw [ev_20]; rfl) (by decide) rfl (fun ls hl => ?_)
              refine lv_goto (tgt := 18) hx hb dX12_chairLoss_72 (by decide) ?_
              exact ih_18 y3_18 y4_18 y5_18 v_20 _ _ _ (hs.trans ((if_pos c_18).trans (spl_e ev_20 rfl))) (by omega) hm_5 hy0_18 ⟨by omega, by omega⟩ hP hS (lv_sub hl [2, 3, 4, 5, 6, 1, 0] rfl)
            · skip
              have c_19 : r_16.toInt ≠ 0 := (by first | exact (cm_ne1 ti_0 c) | (have z := bn_ne c; have k1 : (0 : Int32).toInt = 0 := ti_0; omega))
              refine lv_aload_n hx hb dX12_chairLoss_38 rfl (lv_at hl 0 rfl) ?_
              refine sl_gM_0_33_12 hx hb hts hown hK hP dX12_chairLoss_39 ?_
              refine lv_iload hx hb dX12_chairLoss_42 (lv_at hl 6 rfl) ?_
              refine sg_iald hx hb hK hP 15 (by decide) 0 rfl rfl (i := y6_18) (vp_in_iff.mpr ⟨by omega, by omega⟩) dX12_chairLoss_44 ?_
              refine lv_topi (fun v_22 ev_22 => ?_)
              replace hs := hs.trans ((if_neg c_19).trans (spl_e ev_22 rfl))
              have q_23 : 0 ≤ v_22.toInt ∧ v_22.toInt ≤ 7 := by rw [ev_22]; exact hI 15 _
              refine lv_iload_n hx hb dX12_chairLoss_45 rfl (lv_at hl 2 rfl) ?_
              refine lv_icmp_ne (tgt := 65) hx hb dX12_chairLoss_46 (by decide) (fun c => ?_) (fun c => ?_)
              · skip
                have c_24 : v_22.toInt ≠ x1.toInt := (by first | exact (bn_ne c) | (have z := bn_ne c; omega))
                refine lv_iconst (v := 0) hx hb dX12_chairLoss_65 ic_0 ?_
                refine lv_iadd hx hb dX12_chairLoss_66 ?_
                refine W.eq (g2 := F0 m 67 ls [.int y5_18]) (by rw [Int32.add_zero]) ?_
                refine lv_istore (lv' := [(5, .int y5_18), (0, .ref (h 0)), (1, .int x0), (2, .int x1), (3, .int y3_18), (4, .int y4_18), (6, .int y6_18)]) hx hb dX12_chairLoss_67 hl (by decide) rfl (fun ls hl => ?_)
                obtain ⟨v_26, ev_26⟩ : ∃ z : Int32, z = y6_18 + 1 := ⟨_, rfl⟩
                have q_27 : v_26.toInt = y6_18.toInt + 1 := by rw [ev_26]; exact (bn_addc y6_18 1 (by decide) (by omega) (by omega))
                refine lv_iinc (v := v_26) (lv' := [(6, .int v_26), (5, .int y5_18), (0, .ref (h 0)), (1, .int x0), (2, .int x1), (3, .int y3_18), (4, .int y4_18)]) hx hb dX12_chairLoss_69 hl (k := 6) rfl (by rw [ev_26]; rfl) (by decide) rfl (fun ls hl => ?_)
                refine lv_goto (tgt := 18) hx hb dX12_chairLoss_72 (by decide) ?_
                exact ih_18 y3_18 y4_18 y5_18 v_26 _ _ _ (hs.trans ((if_neg c_24).trans (spl_e ev_26 rfl))) (by omega) hm_5 hy0_18 ⟨by omega, by omega⟩ hP hS (lv_sub hl [2, 3, 4, 5, 6, 1, 0] rfl)
              · skip
                have c_25 : v_22.toInt = x1.toInt := (by first | exact (Int32.toInt_inj.mpr c) | (have z := Int32.toInt_inj.mpr c; omega))
                refine lv_aload_n hx hb dX12_chairLoss_49 rfl (lv_at hl 0 rfl) ?_
                refine sl_gM_0_32_12 hx hb hts hown hK hP dX12_chairLoss_50 ?_
                refine lv_bipush (v := 61) hx hb dX12_chairLoss_53 bp_61 ?_
                refine lv_iload hx hb dX12_chairLoss_55 (lv_at hl 6 rfl) ?_
                refine lv_imul hx hb dX12_chairLoss_57 ?_
                refine lv_topi (fun v_28 ev_28 => ?_)
                have q_29 : v_28.toInt = 61 * y6_18.toInt := by rw [ev_28]; exact bn_mulJ (by decide) (by omega) (by omega)
                refine lv_iload hx hb dX12_chairLoss_58 (lv_at hl 4 rfl) ?_
                refine lv_iadd hx hb dX12_chairLoss_60 ?_
                refine lv_topi (fun v_30 ev_30 => ?_)
                have q_31 : v_30.toInt = v_28.toInt + y4_18.toInt := by rw [ev_30]; first | exact bn_addI (by omega) (by omega) | exact (bn_addI (by omega) (by omega)).trans (by omega)
                refine sg_iald hx hb hK hP 14 (by decide) 0 rfl rfl (i := v_30) (vp_in_iff.mpr ⟨by omega, by omega⟩) dX12_chairLoss_61 ?_
                refine lv_topi (fun v_32 ev_32 => ?_)
                refine lv_goto (tgt := 66) hx hb dX12_chairLoss_62 (by decide) ?_
                refine lv_iadd hx hb dX12_chairLoss_66 ?_
                refine lv_topi (fun v_33 ev_33 => ?_)
                refine lv_istore (lv' := [(5, .int v_33), (0, .ref (h 0)), (1, .int x0), (2, .int x1), (3, .int y3_18), (4, .int y4_18), (6, .int y6_18)]) hx hb dX12_chairLoss_67 hl (by decide) rfl (fun ls hl => ?_)
                obtain ⟨v_34, ev_34⟩ : ∃ z : Int32, z = y6_18 + 1 := ⟨_, rfl⟩
                have q_35 : v_34.toInt = y6_18.toInt + 1 := by rw [ev_34]; exact (bn_addc y6_18 1 (by decide) (by omega) (by omega))
                refine lv_iinc (v := v_34) (lv' := [(6, .int v_34), (5, .int v_33), (0, .ref (h 0)), (1, .int x0), (2, .int x1), (3, .int y3_18), (4, .int y4_18)]) hx hb dX12_chairLoss_69 hl (k := 6) rfl (by rw [ev_34]; rfl) (by decide) rfl (fun ls hl => ?_)
                refine lv_goto (tgt := 18) hx hb dX12_chairLoss_72 (by decide) ?_
                exact ih_18 y3_18 y4_18 v_33 v_34 _ _ _ (hs.trans ((if_pos c_25).trans (spl_e ev_28 (spl_e ev_30 (spl_e ev_32 (spl_e ev_33 (spl_e ev_34 rfl))))))) (by omega) hm_5 hy0_18 ⟨by omega, by omega⟩ hP hS (lv_sub hl [2, 3, 4, 5, 6, 1, 0] rfl)
      intro y3_5 y4_5 H locs ls hs hm_5 hy0_5 hP hS hl
      have hs : sp = sX12_chairLoss_h5 x0 x1 (sX12_chairLoss_l5 x0 x1 n_5) y3_5 y4_5 f L := hs
      refine lv_iload hx hb dX12_chairLoss_5 (lv_at hl 4 rfl) ?_
      refine lv_bipush (v := 61) hx hb dX12_chairLoss_7 bp_61 ?_
      refine lv_icmp_ge (tgt := 98) hx hb dX12_chairLoss_9 (by decide) (fun c => ?_) (fun c => ?_)
      · skip
        have c_36 : 61 ≤ y4_5.toInt := (by first | exact (cm_le0 ti_61 c) | (have z := bn_le c; have k1 : (61 : Int32).toInt = 61 := ti_61; omega))
        refine lv_iload_n hx hb dX12_chairLoss_98 rfl (lv_at hl 3 rfl) ?_
        exact hret _ _ _ _ (y3_5) f L Q dX12_chairLoss_99 hP hS ⟨⟨rfl, rfl, rfl⟩, trivial, (Eq.trans (Eq.symm (hs.trans (((if_neg (Int.not_lt.mpr c_36)).trans rfl)))) hsp)⟩
      · skip
        have c_37 : y4_5.toInt < 61 := (by first | exact (cm_nle0 ti_61 c) | (have z := bn_nle c; have k1 : (61 : Int32).toInt = 61 := ti_61; omega))
        refine lv_iconst (v := 0) hx hb dX12_chairLoss_12 ic_0 ?_
        refine lv_istore (lv' := [(5, .int 0), (0, .ref (h 0)), (1, .int x0), (2, .int x1), (3, .int y3_5), (4, .int y4_5)]) hx hb dX12_chairLoss_13 hl (by decide) rfl (fun ls hl => ?_)
        refine lv_iconst (v := 0) hx hb dX12_chairLoss_15 ic_0 ?_
        refine lv_istore (lv' := [(6, .int 0), (5, .int 0), (0, .ref (h 0)), (1, .int x0), (2, .int x1), (3, .int y3_5), (4, .int y4_5)]) hx hb dX12_chairLoss_16 hl (by decide) rfl (fun ls hl => ?_)
        exact loop_18 9 y3_5 y4_5 0 0 _ _ _ (hs.trans (((if_pos c_37).trans rfl))) (by have kc2 : (0 : Int32).toInt = 0 := ti_0; have kc3 : (0 : Int32).toInt = 0 := ti_0; omega) (by have kc2 : (0 : Int32).toInt = 0 := ti_0; have kc3 : (0 : Int32).toInt = 0 := ti_0; omega) ⟨by omega, by omega⟩ (by decide) hP hS (lv_sub hl [2, 3, 4, 5, 6, 1, 0] rfl)
  refine lv_iconst (v := (-1)) hx hb dX12_chairLoss_0 ic_m1 ?_
  refine lv_istore_n (lv' := [(3, .int (-1)), (0, .ref (h 0)), (1, .int x0), (2, .int x1)]) hx hb dX12_chairLoss_1 rfl hl (by decide) rfl (fun ls hl => ?_)
  refine lv_iconst (v := 0) hx hb dX12_chairLoss_2 ic_0 ?_
  refine lv_istore (lv' := [(4, .int 0), (3, .int (-1)), (0, .ref (h 0)), (1, .int x0), (2, .int x1)]) hx hb dX12_chairLoss_3 hl (by decide) rfl (fun ls hl => ?_)
  exact loop_5 62 (-1) 0 _ _ _ hs (by have kc0 : ((-1) : Int32).toInt = (-1) := ti_m1; have kc1 : (0 : Int32).toInt = 0 := ti_0; omega) (by decide) hP hS (lv_sub hl [2, 3, 4, 1, 0] rfl)

abbrev WkX12_chairsOn_8 : List (Nat × Nat × Option Nat) := [(0, 0, some 35), (16, 16, none)]
set_option maxHeartbeats 4000000 in
set_option maxRecDepth 100000 in
theorem kX12_chairsOn_8 (l : Launch) (D : va_G) (ca : Nat → ClassId) (za h : Nat → Nat) (hh : sgH 26 h) (f : sg_F) (L : sg_L) (Q : sg_Q) (hI : sgI loM hiM f) (x1 : Int32) (x2 : Int32) (x3 : Int32) (b1 : 0 ≤ x1.toInt ∧ x1.toInt ≤ 8) (b2 : 0 ≤ x2.toInt ∧ x2.toInt ≤ 255) (b3 : 0 ≤ x3.toInt ∧ x3.toInt ≤ 9) (p0 : 8 ≤ (f 0 6).toInt ∧ (f 0 6).toInt ≤ 8) (sz : Nat) : Met l yX12_chairsOn gwX12_chairsOn { frames := 2, cells := 0, slots := 0, locals := 47 } (sgP D vwCl (tyX ca) 26 h (eM ca h) zcM za f L Q sz [.ref (h 0), .int 8, .int x1, .int x2, .int x3]) (sgQv D vwCl 26 h (eM ca h) sz (fun f1 L1 Q1 => ((sgI loM hiM f1 ∧ sgK WkX12_chairsOn_8 f f1 ∧ L1 = L ∧ Q1 = Q) ∧ (f1) = sX12_chairsOn_8 x1 x2 x3 f L))) 0 0 (sgA 26 h sz) := by
  refine sg_ofWv (cc := cX12_chairsOn) (maxL := 7) RX12 (by decide) rfl rfl (Nat.le_of_ble_eq_true rfl) ?_
  intro p e s m below meth cd Qz ls hx hb hml hown hts hK hZ hP hS hl hret
  have hA := sgY.self (n := 26) (h := h) (sz := s.heap.size)
  have hl : lv_has ls 7 [(0, .ref (h 0)), (1, .int 8), (2, .int x1), (3, .int x2), (4, .int x3)] := hl
  obtain ⟨H, hH⟩ : ∃ z : Heap, z = s.heap := ⟨_, rfl⟩
  obtain ⟨locs, hlo⟩ : ∃ z : List Loc, z = [] := ⟨_, rfl⟩
  have hP : va_P D vwCl (sgw 26 h (eM ca h) f L Q) H := by rw [hH]; exact hP
  have hS : va_S (sgA 26 h s.heap.size) s.heap H locs := by rw [hH, hlo]; exact hS
  suffices hgo : W p l e ({ frames := 2, cells := 0, slots := 0, locals := 47 }) s m ([.ref (h 0), .int 8, .int x1, .int x2, .int x3] : List Value).toArray below meth cd H locs 0 0 Qz (F0 m 0 ls []) by rw [hH, hlo] at hgo; exact hgo
  clear hH hlo
  obtain ⟨sp, hsp⟩ : ∃ z : sg_F, z = sX12_chairsOn_8 x1 x2 x3 f L := ⟨_, rfl⟩
  have hs : sp = sX12_chairsOn_8 x1 x2 x3 f L := hsp
  obtain ⟨v_1, ev_1⟩ : ∃ z : Int32, z = f 0 6 := ⟨_, rfl⟩
  have q_2 : 0 ≤ v_1.toInt ∧ v_1.toInt ≤ 8 := by rw [ev_1]; exact hI 0 6
  have o_3 : (f 0 6).toInt = v_1.toInt := (congrArg Int32.toInt (show f 0 6 = v_1 from ev_1.symm))
  have hF : sgK WkX12_chairsOn_8 f f := sgK.rf
  have loop_63 : ∀ (n_63 : Nat) (y6_63 : Int32) (fp_63 : sg_F) (H : Heap) (locs : List Loc) (ls : Array Slot), sp = sX12_chairsOn_8_l63 x1 x2 x3 n_63 y6_63 fp_63 L → 8 - y6_63.toInt < (n_63 : Int) → 8 ≤ (fp_63 0 6).toInt ∧ (fp_63 0 6).toInt ≤ 8 → 0 ≤ y6_63.toInt ∧ y6_63.toInt ≤ 8 → sgI loM hiM fp_63 → sgK WkX12_chairsOn_8 f fp_63 → va_P D vwCl (sgw 26 h (eM ca h) fp_63 L Q) H → va_S (sgA 26 h s.heap.size) s.heap H locs → lv_has ls 7 [(0, .ref (h 0)), (6, .int y6_63)] → W p l e ({ frames := 2, cells := 0, slots := 0, locals := 47 }) s m ([.ref (h 0), .int 8, .int x1, .int x2, .int x3] : List Value).toArray below meth cd H locs 0 0 Qz (F0 m 63 ls []) := by
    intro n_63
    induction n_63 with
    | zero => intro y6_63 fp_63 H locs ls hs hm_63 hy0_63 hy1_63 hI hF hP hS hl; exact absurd hm_63 (by omega)
    | succ n_63 ih_63 =>
      intro y6_63 fp_63 H locs ls hs hm_63 hy0_63 hy1_63 hI hF hP hS hl
      have hs : sp = sX12_chairsOn_8_h63 x1 x2 x3 (sX12_chairsOn_8_l63 x1 x2 x3 n_63) y6_63 fp_63 L := hs
      obtain ⟨v_4, ev_4⟩ : ∃ z : Int32, z = fp_63 0 6 := ⟨_, rfl⟩
      replace hs := hs.trans (spl_e ev_4 rfl)
      have q_5 : 0 ≤ v_4.toInt ∧ v_4.toInt ≤ 8 := by rw [ev_4]; exact hI 0 6
      have q_6 : (fp_63 0 6).toInt = v_4.toInt := by rw [ev_4]
      refine lv_iload hx hb dX12_chairsOn_63 (lv_at hl 1 rfl) ?_
      refine lv_aload_n hx hb dX12_chairsOn_65 rfl (lv_at hl 0 rfl) ?_
      refine sl_gM_0_6_12 (v := v_4) hx hb hts hown hK hP (show fp_63 0 6 = v_4 from ev_4.symm) dX12_chairsOn_66 ?_
      refine lv_icmp_ge (tgt := 92) hx hb dX12_chairsOn_69 (by decide) (fun c => ?_) (fun c => ?_)
      · skip
        have c_7 : v_4.toInt ≤ y6_63.toInt := (by first | exact (bn_le c) | (have z := bn_le c; omega))
        exact hret _ _ _ _ fp_63 L Q dX12_chairsOn_92 hP hS ⟨⟨hI, hF, rfl, rfl⟩, (Eq.trans (Eq.symm (hs.trans ((if_neg (Int.not_lt.mpr c_7)).trans rfl))) hsp)⟩
      · skip
        have c_8 : y6_63.toInt < v_4.toInt := (by first | exact (bn_nle c) | (have z := bn_nle c; omega))
        refine lv_aload_n hx hb dX12_chairsOn_72 rfl (lv_at hl 0 rfl) ?_
        refine sl_gM_0_34_12 hx hb hts hown hK hP dX12_chairsOn_73 ?_
        refine lv_iload hx hb dX12_chairsOn_76 (lv_at hl 1 rfl) ?_
        refine lv_aload_n hx hb dX12_chairsOn_78 rfl (lv_at hl 0 rfl) ?_
        refine sl_gM_0_33_12 hx hb hts hown hK hP dX12_chairsOn_79 ?_
        refine lv_iload hx hb dX12_chairsOn_82 (lv_at hl 1 rfl) ?_
        refine sg_iald hx hb hK hP 15 (by decide) 0 rfl rfl (i := y6_63) (vp_in_iff.mpr ⟨by omega, by omega⟩) dX12_chairsOn_84 ?_
        refine lv_topi (fun v_9 ev_9 => ?_)
        have q_10 : 0 ≤ v_9.toInt ∧ v_9.toInt ≤ 7 := by rw [ev_9]; exact hI 15 _
        refine sg_iast hx hb hh hA hK hP hS 16 (by decide) 0 (fun _ => rfl) rfl (i := y6_63) (x := v_9) (vp_in_iff.mpr ⟨by omega, by omega⟩) dX12_chairsOn_85 (fun f_11 H locs ef_11 hP hS => ?_)
        have hI : sgI loM hiM f_11 := by rw [ef_11]; exact sgI.put hI 16 y6_63.toNatClampNeg (show 0 ≤ (v_9 : Int32).toInt ∧ (v_9 : Int32).toInt ≤ 7 from q_10)
        have hF : sgK WkX12_chairsOn_8 f f_11 := sgK.put hF ef_11 (by rfl)
        obtain ⟨v_12, ev_12⟩ : ∃ z : Int32, z = y6_63 + 1 := ⟨_, rfl⟩
        have q_13 : v_12.toInt = y6_63.toInt + 1 := by rw [ev_12]; exact (bn_addc y6_63 1 (by decide) (by omega) (by omega))
        refine lv_iinc (v := v_12) (lv' := [(6, .int v_12), (0, .ref (h 0))]) hx hb dX12_chairsOn_86 hl (k := 1) rfl (by rw [ev_12]; rfl) (by decide) rfl (fun ls hl => ?_)
        refine lv_goto (tgt := 63) hx hb dX12_chairsOn_89 (by decide) ?_
        exact ih_63 v_12 f_11 _ _ _ (hs.trans ((if_pos c_8).trans (spl_e ev_9 (spl_e ef_11 (spl_e ev_12 rfl))))) (by omega) (by have zz0_6 : (f_11 0 6).toInt = v_4.toInt := (congrArg Int32.toInt (show f_11 0 6 = v_4 from (by rw [ef_11, sg_up_n (by decide)]; exact ev_4.symm))); exact ⟨by omega, by omega⟩) ⟨by omega, by omega⟩ hI hF hP hS (lv_sub hl [1, 0] rfl)
  have blk_54 : ∀ (y5_54 : Int32) (fp_54 : sg_F) (H : Heap) (locs : List Loc) (ls : Array Slot), sp = sX12_chairsOn_8_b54 x1 x2 x3 y5_54 fp_54 L → 8 ≤ (fp_54 0 6).toInt ∧ (fp_54 0 6).toInt ≤ 8 → sgI loM hiM fp_54 → sgK WkX12_chairsOn_8 f fp_54 → va_P D vwCl (sgw 26 h (eM ca h) fp_54 L Q) H → va_S (sgA 26 h s.heap.size) s.heap H locs → lv_has ls 7 [(0, .ref (h 0)), (5, .int y5_54)] → W p l e ({ frames := 2, cells := 0, slots := 0, locals := 47 }) s m ([.ref (h 0), .int 8, .int x1, .int x2, .int x3] : List Value).toArray below meth cd H locs 0 0 Qz (F0 m 54 ls []) := by
    intro y5_54 fp_54 H locs ls hs hy0_54 hI hF hP hS hl
    obtain ⟨v_14, ev_14⟩ : ∃ z : Int32, z = fp_54 0 6 := ⟨_, rfl⟩
    have q_15 : 0 ≤ v_14.toInt ∧ v_14.toInt ≤ 8 := by rw [ev_14]; exact hI 0 6
    have q_16 : (fp_54 0 6).toInt = v_14.toInt := by rw [ev_14]
    refine lv_aload_n hx hb dX12_chairsOn_54 rfl (lv_at hl 0 rfl) ?_
    refine lv_iload hx hb dX12_chairsOn_55 (lv_at hl 1 rfl) ?_
    refine sl_pM_0_35_12 (x := y5_54) hx hb hts hown hh hA hK hP hS dX12_chairsOn_57 (fun f_17 H locs ef_17 hP hS => ?_)
    have hI : sgI loM hiM f_17 := by rw [ef_17]; exact sgI.put hI 0 35 (bn_top _)
    have hF : sgK WkX12_chairsOn_8 f f_17 := sgK.put hF ef_17 (by rfl)
    refine lv_iconst (v := 0) hx hb dX12_chairsOn_60 ic_0 ?_
    refine lv_istore (lv' := [(6, .int 0), (0, .ref (h 0)), (5, .int y5_54)]) hx hb dX12_chairsOn_61 hl (by decide) rfl (fun ls hl => ?_)
    exact loop_63 9 0 f_17 _ _ _ (hs.trans ((spl_e ev_14 (spl_e ef_17 rfl)))) (by have kc0 : (0 : Int32).toInt = 0 := ti_0; omega) (by have zz0_6 : (f_17 0 6).toInt = v_14.toInt := (congrArg Int32.toInt (show f_17 0 6 = v_14 from (by rw [ef_17, sg_up_s, sgu_n (by decide)]; exact ev_14.symm))); exact ⟨by omega, by omega⟩) (by decide) hI hF hP hS (lv_sub hl [1, 0] rfl)
  have loop_14 : ∀ (n_14 : Nat) (y5_14 : Int32) (y6_14 : Int32) (fp_14 : sg_F) (H : Heap) (locs : List Loc) (ls : Array Slot), sp = sX12_chairsOn_8_l14 x1 x2 x3 n_14 y5_14 y6_14 fp_14 L → 8 - y6_14.toInt < (n_14 : Int) → 8 ≤ (fp_14 0 6).toInt ∧ (fp_14 0 6).toInt ≤ 8 → 0 ≤ y6_14.toInt ∧ y6_14.toInt ≤ 8 → sgI loM hiM fp_14 → sgK WkX12_chairsOn_8 f fp_14 → va_P D vwCl (sgw 26 h (eM ca h) fp_14 L Q) H → va_S (sgA 26 h s.heap.size) s.heap H locs → lv_has ls 7 [(0, .ref (h 0)), (2, .int x1), (3, .int x2), (5, .int y5_14), (6, .int y6_14)] → W p l e ({ frames := 2, cells := 0, slots := 0, locals := 47 }) s m ([.ref (h 0), .int 8, .int x1, .int x2, .int x3] : List Value).toArray below meth cd H locs 0 0 Qz (F0 m 14 ls []) := by
    intro n_14
    induction n_14 with
    | zero => intro y5_14 y6_14 fp_14 H locs ls hs hm_14 hy0_14 hy1_14 hI hF hP hS hl; exact absurd hm_14 (by omega)
    | succ n_14 ih_14 =>
      intro y5_14 y6_14 fp_14 H locs ls hs hm_14 hy0_14 hy1_14 hI hF hP hS hl
      have hs : sp = sX12_chairsOn_8_h14 x1 x2 x3 (sX12_chairsOn_8_l14 x1 x2 x3 n_14) y5_14 y6_14 fp_14 L := hs
      obtain ⟨v_18, ev_18⟩ : ∃ z : Int32, z = fp_14 0 6 := ⟨_, rfl⟩
      replace hs := hs.trans (spl_e ev_18 rfl)
      have q_19 : 0 ≤ v_18.toInt ∧ v_18.toInt ≤ 8 := by rw [ev_18]; exact hI 0 6
      have q_20 : (fp_14 0 6).toInt = v_18.toInt := by rw [ev_18]
      refine lv_iload hx hb dX12_chairsOn_14 (lv_at hl 4 rfl) ?_
      refine lv_iload_n hx hb dX12_chairsOn_16 rfl (lv_at hl 1 rfl) ?_
      refine lv_icmp_ge (tgt := 38) hx hb dX12_chairsOn_17 (by decide) (fun c => ?_) (fun c => ?_)
      · skip
        have c_21 : x1.toInt ≤ y6_14.toInt := (by first | exact (bn_le c) | (have z := bn_le c; omega))
        refine lv_aload_n hx hb dX12_chairsOn_38 rfl (lv_at hl 0 rfl) ?_
        refine sl_gM_0_35_12 (v := (fp_14 0 35)) hx hb hts hown hK hP rfl dX12_chairsOn_39 ?_
        refine lv_topi (fun v_23 ev_23 => ?_)
        replace hs := hs.trans ((if_neg (Int.not_lt.mpr c_21)).trans (spl_e ev_23 rfl))
        refine lv_if_lt (tgt := 54) hx hb dX12_chairsOn_42 (by decide) (fun c => ?_) (fun c => ?_)
        · skip
          have c_24 : v_23.toInt < 0 := (by first | exact (cm_lt1 ti_0 c) | (have z := bn_lt c; have k1 : (0 : Int32).toInt = 0 := ti_0; omega))
          exact blk_54 y5_14 fp_14 _ _ _ (hs.trans ((if_pos c_24).trans rfl)) (by have zz0_6 : (fp_14 0 6).toInt = v_18.toInt := (congrArg Int32.toInt (show fp_14 0 6 = v_18 from ev_18.symm)); exact ⟨by omega, by omega⟩) hI hF hP hS (lv_sub hl [0, 3] rfl)
        · skip
          have c_25 : 0 ≤ v_23.toInt := (by first | exact (cm_nlt1 ti_0 c) | (have z := bn_nlt c; have k1 : (0 : Int32).toInt = 0 := ti_0; omega))
          replace hs := hs.trans ((if_neg (Int.not_lt.mpr c_25)).trans rfl)
          refine lv_iload hx hb dX12_chairsOn_45 (lv_at hl 3 rfl) ?_
          refine lv_aload_n hx hb dX12_chairsOn_47 rfl (lv_at hl 0 rfl) ?_
          refine sl_gM_0_35_12 (v := v_23) hx hb hts hown hK hP (show fp_14 0 35 = v_23 from ev_23.symm) dX12_chairsOn_48 ?_
          refine lv_icmp_ge (tgt := 92) hx hb dX12_chairsOn_51 (by decide) (fun c => ?_) (fun c => ?_)
          · skip
            have c_26 : v_23.toInt ≤ y5_14.toInt := (by first | exact (bn_le c) | (have z := bn_le c; omega))
            exact hret _ _ _ _ fp_14 L Q dX12_chairsOn_92 hP hS ⟨⟨hI, hF, rfl, rfl⟩, (Eq.trans (Eq.symm (hs.trans ((if_neg (Int.not_lt.mpr c_26)).trans rfl))) hsp)⟩
          · skip
            have c_27 : y5_14.toInt < v_23.toInt := (by first | exact (bn_nle c) | (have z := bn_nle c; omega))
            exact blk_54 y5_14 fp_14 _ _ _ (hs.trans ((if_pos c_27).trans rfl)) (by have zz0_6 : (fp_14 0 6).toInt = v_18.toInt := (congrArg Int32.toInt (show fp_14 0 6 = v_18 from ev_18.symm)); exact ⟨by omega, by omega⟩) hI hF hP hS (lv_sub hl [0, 3] rfl)
      · skip
        have c_22 : y6_14.toInt < x1.toInt := (by first | exact (bn_nle c) | (have z := bn_nle c; omega))
        refine lv_iload hx hb dX12_chairsOn_20 (lv_at hl 3 rfl) ?_
        refine lv_aload_n hx hb dX12_chairsOn_22 rfl (lv_at hl 0 rfl) ?_
        refine lv_iload_n hx hb dX12_chairsOn_23 rfl (lv_at hl 2 rfl) ?_
        refine lv_iload hx hb dX12_chairsOn_24 (lv_at hl 4 rfl) ?_
        refine sg_calli (va_runV (As := [.int x2, .int y6_14]) (rest := [.int y5_14]) ⟨hx, hb, hml, hown, hts⟩ (kX12_chairLoss l D ca za h hh fp_14 L Q hI x2 y6_14 b2 ⟨by omega, by omega⟩ H.size) (sl_c12_chairLoss_1_0_0_21_12 hts ⟨Nat.le_of_ble_eq_true rfl, Nat.le_of_ble_eq_true rfl⟩) (sl_vM_0 hA hK hP hS hZ) rfl rfl hl.1 rfl (lv_room (Nat.le_of_ble_eq_true rfl)) dX12_chairsOn_26 ⟨Nat.le_refl _, Nat.le_refl _⟩) hA hS (fun r_31 f_28 L_29 Q_30 H locs hq hP hS => ?_)
        obtain ⟨⟨ef9, eL9, eQ9⟩, hq, u_32⟩ := hq
        rw [ef9, eL9, eQ9] at hP; clear ef9 eL9 eQ9
        refine lv_iadd hx hb dX12_chairsOn_29 ?_
        refine lv_topi (fun v_33 ev_33 => ?_)
        refine lv_istore (lv' := [(5, .int v_33), (0, .ref (h 0)), (2, .int x1), (3, .int x2), (6, .int y6_14)]) hx hb dX12_chairsOn_30 hl (by decide) rfl (fun ls hl => ?_)
        obtain ⟨v_34, ev_34⟩ : ∃ z : Int32, z = y6_14 + 1 := ⟨_, rfl⟩
        have q_35 : v_34.toInt = y6_14.toInt + 1 := by rw [ev_34]; exact (bn_addc y6_14 1 (by decide) (by omega) (by omega))
        refine lv_iinc (v := v_34) (lv' := [(6, .int v_34), (5, .int v_33), (0, .ref (h 0)), (2, .int x1), (3, .int x2)]) hx hb dX12_chairsOn_32 hl (k := 4) rfl (by rw [ev_34]; rfl) (by decide) rfl (fun ls hl => ?_)
        refine lv_goto (tgt := 14) hx hb dX12_chairsOn_35 (by decide) ?_
        exact ih_14 v_33 v_34 fp_14 _ _ _ (hs.trans ((if_pos c_22).trans (spl_e u_32 (spl_e ev_33 (spl_e ev_34 rfl))))) (by omega) (by have zz0_6 : (fp_14 0 6).toInt = v_18.toInt := (congrArg Int32.toInt (show fp_14 0 6 = v_18 from ev_18.symm)); exact ⟨by omega, by omega⟩) ⟨by omega, by omega⟩ hI hF hP hS (lv_sub hl [2, 3, 4, 1, 0] rfl)
  refine lv_iload_n hx hb dX12_chairsOn_0 rfl (lv_at hl 1 rfl) ?_
  refine lv_aload_n hx hb dX12_chairsOn_1 rfl (lv_at hl 0 rfl) ?_
  refine sl_gM_0_6_12 (v := v_1) hx hb hts hown hK hP (show f 0 6 = v_1 from ev_1.symm) dX12_chairsOn_2 ?_
  refine lv_icmp_ne (tgt := 93) hx hb dX12_chairsOn_5 (by decide) (fun c => ?_) (fun c => ?_)
  · skip
    exfalso; have c_36 : 8 ≠ v_1.toInt := (by first | exact (cm_ne0 ti_8 c) | (have z := bn_ne c; have k0 : (8 : Int32).toInt = 8 := ti_8; omega)); first | exact absurd (by assumption) c_36 | omega
  · skip
    have c_37 : 8 = v_1.toInt := (by first | exact (cm_eq0 ti_8 c) | (have z := Int32.toInt_inj.mpr c; have k0 : (8 : Int32).toInt = 8 := ti_8; omega))
    refine lv_iconst (v := 0) hx hb dX12_chairsOn_8 ic_0 ?_
    refine lv_istore (lv' := [(5, .int 0), (0, .ref (h 0)), (1, .int 8), (2, .int x1), (3, .int x2), (4, .int x3)]) hx hb dX12_chairsOn_9 hl (by decide) rfl (fun ls hl => ?_)
    refine lv_iconst (v := 0) hx hb dX12_chairsOn_11 ic_0 ?_
    refine lv_istore (lv' := [(6, .int 0), (5, .int 0), (0, .ref (h 0)), (1, .int 8), (2, .int x1), (3, .int x2), (4, .int x3)]) hx hb dX12_chairsOn_12 hl (by decide) rfl (fun ls hl => ?_)
    exact loop_14 9 0 0 f _ _ _ (hs.trans ((spl_e ev_1 rfl))) (by have kc0 : (0 : Int32).toInt = 0 := ti_0; have kc1 : (0 : Int32).toInt = 0 := ti_0; omega) (by have zz0_6 : (f 0 6).toInt = v_1.toInt := (congrArg Int32.toInt (show f 0 6 = v_1 from ev_1.symm)); exact ⟨by omega, by omega⟩) (by decide) hI hF hP hS (lv_sub hl [2, 4, 5, 1, 0] rfl)

abbrev WkX12_chairsOn_7 : List (Nat × Nat × Option Nat) := [(0, 0, some 35), (15, 15, none), (16, 16, none)]
set_option maxHeartbeats 4000000 in
set_option maxRecDepth 100000 in
theorem kX12_chairsOn_7 (l : Launch) (D : va_G) (ca : Nat → ClassId) (za h : Nat → Nat) (hh : sgH 26 h) (f : sg_F) (L : sg_L) (Q : sg_Q) (hI : sgI loM hiM f) (x1 : Int32) (x2 : Int32) (x3 : Int32) (b1 : 0 ≤ x1.toInt ∧ x1.toInt ≤ 7) (b2 : 0 ≤ x2.toInt ∧ x2.toInt ≤ 255) (b3 : 0 ≤ x3.toInt ∧ x3.toInt ≤ 9) (p0 : 7 ≤ (f 0 6).toInt ∧ (f 0 6).toInt ≤ 8) (sz : Nat) : Met l yX12_chairsOn gwX12_chairsOn { frames := 3, cells := 0, slots := 0, locals := 73 } (sgP D vwCl (tyX ca) 26 h (eM ca h) zcM za f L Q sz [.ref (h 0), .int 7, .int x1, .int x2, .int x3]) (sgQv D vwCl 26 h (eM ca h) sz (fun f1 L1 Q1 => ((sgI loM hiM f1 ∧ sgK WkX12_chairsOn_7 f f1 ∧ L1 = L ∧ Q1 = Q) ∧ (f1) = sX12_chairsOn_7 x1 x2 x3 f L))) 0 0 (sgA 26 h sz) := by
  refine sg_ofWv (cc := cX12_chairsOn) (maxL := 7) RX12 (by decide) rfl rfl (Nat.le_of_ble_eq_true rfl) ?_
  intro p e s m below meth cd Qz ls hx hb hml hown hts hK hZ hP hS hl hret
  have hA := sgY.self (n := 26) (h := h) (sz := s.heap.size)
  have hl : lv_has ls 7 [(0, .ref (h 0)), (1, .int 7), (2, .int x1), (3, .int x2), (4, .int x3)] := hl
  obtain ⟨H, hH⟩ : ∃ z : Heap, z = s.heap := ⟨_, rfl⟩
  obtain ⟨locs, hlo⟩ : ∃ z : List Loc, z = [] := ⟨_, rfl⟩
  have hP : va_P D vwCl (sgw 26 h (eM ca h) f L Q) H := by rw [hH]; exact hP
  have hS : va_S (sgA 26 h s.heap.size) s.heap H locs := by rw [hH, hlo]; exact hS
  suffices hgo : W p l e ({ frames := 3, cells := 0, slots := 0, locals := 73 }) s m ([.ref (h 0), .int 7, .int x1, .int x2, .int x3] : List Value).toArray below meth cd H locs 0 0 Qz (F0 m 0 ls []) by rw [hH, hlo] at hgo; exact hgo
  clear hH hlo
  obtain ⟨sp, hsp⟩ : ∃ z : sg_F, z = sX12_chairsOn_7 x1 x2 x3 f L := ⟨_, rfl⟩
  have hs : sp = sX12_chairsOn_7 x1 x2 x3 f L := hsp
  obtain ⟨v_1, ev_1⟩ : ∃ z : Int32, z = f 0 6 := ⟨_, rfl⟩
  replace hs := hs.trans (spl_e ev_1 rfl)
  have q_2 : 0 ≤ v_1.toInt ∧ v_1.toInt ≤ 8 := by rw [ev_1]; exact hI 0 6
  have o_3 : (f 0 6).toInt = v_1.toInt := (congrArg Int32.toInt (show f 0 6 = v_1 from ev_1.symm))
  have hF : sgK WkX12_chairsOn_7 f f := sgK.rf
  have loop_63 : ∀ (n_63 : Nat) (y6_63 : Int32) (fp_63 : sg_F) (H : Heap) (locs : List Loc) (ls : Array Slot), sp = sX12_chairsOn_7_l63 x1 x2 x3 n_63 y6_63 fp_63 L → 7 - y6_63.toInt < (n_63 : Int) → 7 ≤ (fp_63 0 6).toInt ∧ (fp_63 0 6).toInt ≤ 7 → 0 ≤ y6_63.toInt ∧ y6_63.toInt ≤ 7 → sgI loM hiM fp_63 → sgK WkX12_chairsOn_7 f fp_63 → va_P D vwCl (sgw 26 h (eM ca h) fp_63 L Q) H → va_S (sgA 26 h s.heap.size) s.heap H locs → lv_has ls 7 [(0, .ref (h 0)), (6, .int y6_63)] → W p l e ({ frames := 3, cells := 0, slots := 0, locals := 73 }) s m ([.ref (h 0), .int 7, .int x1, .int x2, .int x3] : List Value).toArray below meth cd H locs 0 0 Qz (F0 m 63 ls []) := by
    intro n_63
    induction n_63 with
    | zero => intro y6_63 fp_63 H locs ls hs hm_63 hy0_63 hy1_63 hI hF hP hS hl; exact absurd hm_63 (by omega)
    | succ n_63 ih_63 =>
      intro y6_63 fp_63 H locs ls hs hm_63 hy0_63 hy1_63 hI hF hP hS hl
      have hs : sp = sX12_chairsOn_7_h63 x1 x2 x3 (sX12_chairsOn_7_l63 x1 x2 x3 n_63) y6_63 fp_63 L := hs
      obtain ⟨v_4, ev_4⟩ : ∃ z : Int32, z = fp_63 0 6 := ⟨_, rfl⟩
      replace hs := hs.trans (spl_e ev_4 rfl)
      have q_5 : 0 ≤ v_4.toInt ∧ v_4.toInt ≤ 8 := by rw [ev_4]; exact hI 0 6
      have q_6 : (fp_63 0 6).toInt = v_4.toInt := by rw [ev_4]
      refine lv_iload hx hb dX12_chairsOn_63 (lv_at hl 1 rfl) ?_
      refine lv_aload_n hx hb dX12_chairsOn_65 rfl (lv_at hl 0 rfl) ?_
      refine sl_gM_0_6_12 (v := v_4) hx hb hts hown hK hP (show fp_63 0 6 = v_4 from ev_4.symm) dX12_chairsOn_66 ?_
      refine lv_icmp_ge (tgt := 92) hx hb dX12_chairsOn_69 (by decide) (fun c => ?_) (fun c => ?_)
      · skip
        have c_7 : v_4.toInt ≤ y6_63.toInt := (by first | exact (bn_le c) | (have z := bn_le c; omega))
        exact hret _ _ _ _ fp_63 L Q dX12_chairsOn_92 hP hS ⟨⟨hI, hF, rfl, rfl⟩, (Eq.trans (Eq.symm (hs.trans ((if_neg (Int.not_lt.mpr c_7)).trans rfl))) hsp)⟩
      · skip
        have c_8 : y6_63.toInt < v_4.toInt := (by first | exact (bn_nle c) | (have z := bn_nle c; omega))
        refine lv_aload_n hx hb dX12_chairsOn_72 rfl (lv_at hl 0 rfl) ?_
        refine sl_gM_0_34_12 hx hb hts hown hK hP dX12_chairsOn_73 ?_
        refine lv_iload hx hb dX12_chairsOn_76 (lv_at hl 1 rfl) ?_
        refine lv_aload_n hx hb dX12_chairsOn_78 rfl (lv_at hl 0 rfl) ?_
        refine sl_gM_0_33_12 hx hb hts hown hK hP dX12_chairsOn_79 ?_
        refine lv_iload hx hb dX12_chairsOn_82 (lv_at hl 1 rfl) ?_
        refine sg_iald hx hb hK hP 15 (by decide) 0 rfl rfl (i := y6_63) (vp_in_iff.mpr ⟨by omega, by omega⟩) dX12_chairsOn_84 ?_
        refine lv_topi (fun v_9 ev_9 => ?_)
        have q_10 : 0 ≤ v_9.toInt ∧ v_9.toInt ≤ 7 := by rw [ev_9]; exact hI 15 _
        refine sg_iast hx hb hh hA hK hP hS 16 (by decide) 0 (fun _ => rfl) rfl (i := y6_63) (x := v_9) (vp_in_iff.mpr ⟨by omega, by omega⟩) dX12_chairsOn_85 (fun f_11 H locs ef_11 hP hS => ?_)
        have hI : sgI loM hiM f_11 := by rw [ef_11]; exact sgI.put hI 16 y6_63.toNatClampNeg (show 0 ≤ (v_9 : Int32).toInt ∧ (v_9 : Int32).toInt ≤ 7 from q_10)
        have hF : sgK WkX12_chairsOn_7 f f_11 := sgK.put hF ef_11 (by rfl)
        obtain ⟨v_12, ev_12⟩ : ∃ z : Int32, z = y6_63 + 1 := ⟨_, rfl⟩
        have q_13 : v_12.toInt = y6_63.toInt + 1 := by rw [ev_12]; exact (bn_addc y6_63 1 (by decide) (by omega) (by omega))
        refine lv_iinc (v := v_12) (lv' := [(6, .int v_12), (0, .ref (h 0))]) hx hb dX12_chairsOn_86 hl (k := 1) rfl (by rw [ev_12]; rfl) (by decide) rfl (fun ls hl => ?_)
        refine lv_goto (tgt := 63) hx hb dX12_chairsOn_89 (by decide) ?_
        exact ih_63 v_12 f_11 _ _ _ (hs.trans ((if_pos c_8).trans (spl_e ev_9 (spl_e ef_11 (spl_e ev_12 rfl))))) (by omega) (by have zz0_6 : (f_11 0 6).toInt = v_4.toInt := (congrArg Int32.toInt (show f_11 0 6 = v_4 from (by rw [ef_11, sg_up_n (by decide)]; exact ev_4.symm))); exact ⟨by omega, by omega⟩) ⟨by omega, by omega⟩ hI hF hP hS (lv_sub hl [1, 0] rfl)
  have blk_54 : ∀ (y5_54 : Int32) (fp_54 : sg_F) (H : Heap) (locs : List Loc) (ls : Array Slot), sp = sX12_chairsOn_7_b54 x1 x2 x3 y5_54 fp_54 L → 7 ≤ (fp_54 0 6).toInt ∧ (fp_54 0 6).toInt ≤ 7 → sgI loM hiM fp_54 → sgK WkX12_chairsOn_7 f fp_54 → va_P D vwCl (sgw 26 h (eM ca h) fp_54 L Q) H → va_S (sgA 26 h s.heap.size) s.heap H locs → lv_has ls 7 [(0, .ref (h 0)), (5, .int y5_54)] → W p l e ({ frames := 3, cells := 0, slots := 0, locals := 73 }) s m ([.ref (h 0), .int 7, .int x1, .int x2, .int x3] : List Value).toArray below meth cd H locs 0 0 Qz (F0 m 54 ls []) := by
    intro y5_54 fp_54 H locs ls hs hy0_54 hI hF hP hS hl
    obtain ⟨v_14, ev_14⟩ : ∃ z : Int32, z = fp_54 0 6 := ⟨_, rfl⟩
    have q_15 : 0 ≤ v_14.toInt ∧ v_14.toInt ≤ 8 := by rw [ev_14]; exact hI 0 6
    have q_16 : (fp_54 0 6).toInt = v_14.toInt := by rw [ev_14]
    refine lv_aload_n hx hb dX12_chairsOn_54 rfl (lv_at hl 0 rfl) ?_
    refine lv_iload hx hb dX12_chairsOn_55 (lv_at hl 1 rfl) ?_
    refine sl_pM_0_35_12 (x := y5_54) hx hb hts hown hh hA hK hP hS dX12_chairsOn_57 (fun f_17 H locs ef_17 hP hS => ?_)
    have hI : sgI loM hiM f_17 := by rw [ef_17]; exact sgI.put hI 0 35 (bn_top _)
    have hF : sgK WkX12_chairsOn_7 f f_17 := sgK.put hF ef_17 (by rfl)
    refine lv_iconst (v := 0) hx hb dX12_chairsOn_60 ic_0 ?_
    refine lv_istore (lv' := [(6, .int 0), (0, .ref (h 0)), (5, .int y5_54)]) hx hb dX12_chairsOn_61 hl (by decide) rfl (fun ls hl => ?_)
    exact loop_63 8 0 f_17 _ _ _ (hs.trans ((spl_e ev_14 (spl_e ef_17 rfl)))) (by have kc0 : (0 : Int32).toInt = 0 := ti_0; omega) (by have zz0_6 : (f_17 0 6).toInt = v_14.toInt := (congrArg Int32.toInt (show f_17 0 6 = v_14 from (by rw [ef_17, sg_up_s, sgu_n (by decide)]; exact ev_14.symm))); exact ⟨by omega, by omega⟩) (by decide) hI hF hP hS (lv_sub hl [1, 0] rfl)
  have loop_14 : ∀ (n_14 : Nat) (y5_14 : Int32) (y6_14 : Int32) (fp_14 : sg_F) (H : Heap) (locs : List Loc) (ls : Array Slot), sp = sX12_chairsOn_7_l14 x1 x2 x3 n_14 y5_14 y6_14 fp_14 L → 7 - y6_14.toInt < (n_14 : Int) → 7 ≤ (fp_14 0 6).toInt ∧ (fp_14 0 6).toInt ≤ 7 → 0 ≤ y6_14.toInt ∧ y6_14.toInt ≤ 7 → sgI loM hiM fp_14 → sgK WkX12_chairsOn_7 f fp_14 → va_P D vwCl (sgw 26 h (eM ca h) fp_14 L Q) H → va_S (sgA 26 h s.heap.size) s.heap H locs → lv_has ls 7 [(0, .ref (h 0)), (2, .int x1), (3, .int x2), (5, .int y5_14), (6, .int y6_14)] → W p l e ({ frames := 3, cells := 0, slots := 0, locals := 73 }) s m ([.ref (h 0), .int 7, .int x1, .int x2, .int x3] : List Value).toArray below meth cd H locs 0 0 Qz (F0 m 14 ls []) := by
    intro n_14
    induction n_14 with
    | zero => intro y5_14 y6_14 fp_14 H locs ls hs hm_14 hy0_14 hy1_14 hI hF hP hS hl; exact absurd hm_14 (by omega)
    | succ n_14 ih_14 =>
      intro y5_14 y6_14 fp_14 H locs ls hs hm_14 hy0_14 hy1_14 hI hF hP hS hl
      have hs : sp = sX12_chairsOn_7_h14 x1 x2 x3 (sX12_chairsOn_7_l14 x1 x2 x3 n_14) y5_14 y6_14 fp_14 L := hs
      obtain ⟨v_18, ev_18⟩ : ∃ z : Int32, z = fp_14 0 6 := ⟨_, rfl⟩
      replace hs := hs.trans (spl_e ev_18 rfl)
      have q_19 : 0 ≤ v_18.toInt ∧ v_18.toInt ≤ 8 := by rw [ev_18]; exact hI 0 6
      have q_20 : (fp_14 0 6).toInt = v_18.toInt := by rw [ev_18]
      refine lv_iload hx hb dX12_chairsOn_14 (lv_at hl 4 rfl) ?_
      refine lv_iload_n hx hb dX12_chairsOn_16 rfl (lv_at hl 1 rfl) ?_
      refine lv_icmp_ge (tgt := 38) hx hb dX12_chairsOn_17 (by decide) (fun c => ?_) (fun c => ?_)
      · skip
        have c_21 : x1.toInt ≤ y6_14.toInt := (by first | exact (bn_le c) | (have z := bn_le c; omega))
        refine lv_aload_n hx hb dX12_chairsOn_38 rfl (lv_at hl 0 rfl) ?_
        refine sl_gM_0_35_12 (v := (fp_14 0 35)) hx hb hts hown hK hP rfl dX12_chairsOn_39 ?_
        refine lv_topi (fun v_23 ev_23 => ?_)
        replace hs := hs.trans ((if_neg (Int.not_lt.mpr c_21)).trans (spl_e ev_23 rfl))
        refine lv_if_lt (tgt := 54) hx hb dX12_chairsOn_42 (by decide) (fun c => ?_) (fun c => ?_)
        · skip
          have c_24 : v_23.toInt < 0 := (by first | exact (cm_lt1 ti_0 c) | (have z := bn_lt c; have k1 : (0 : Int32).toInt = 0 := ti_0; omega))
          exact blk_54 y5_14 fp_14 _ _ _ (hs.trans ((if_pos c_24).trans rfl)) (by have zz0_6 : (fp_14 0 6).toInt = v_18.toInt := (congrArg Int32.toInt (show fp_14 0 6 = v_18 from ev_18.symm)); exact ⟨by omega, by omega⟩) hI hF hP hS (lv_sub hl [0, 3] rfl)
        · skip
          have c_25 : 0 ≤ v_23.toInt := (by first | exact (cm_nlt1 ti_0 c) | (have z := bn_nlt c; have k1 : (0 : Int32).toInt = 0 := ti_0; omega))
          replace hs := hs.trans ((if_neg (Int.not_lt.mpr c_25)).trans rfl)
          refine lv_iload hx hb dX12_chairsOn_45 (lv_at hl 3 rfl) ?_
          refine lv_aload_n hx hb dX12_chairsOn_47 rfl (lv_at hl 0 rfl) ?_
          refine sl_gM_0_35_12 (v := v_23) hx hb hts hown hK hP (show fp_14 0 35 = v_23 from ev_23.symm) dX12_chairsOn_48 ?_
          refine lv_icmp_ge (tgt := 92) hx hb dX12_chairsOn_51 (by decide) (fun c => ?_) (fun c => ?_)
          · skip
            have c_26 : v_23.toInt ≤ y5_14.toInt := (by first | exact (bn_le c) | (have z := bn_le c; omega))
            exact hret _ _ _ _ fp_14 L Q dX12_chairsOn_92 hP hS ⟨⟨hI, hF, rfl, rfl⟩, (Eq.trans (Eq.symm (hs.trans ((if_neg (Int.not_lt.mpr c_26)).trans rfl))) hsp)⟩
          · skip
            have c_27 : y5_14.toInt < v_23.toInt := (by first | exact (bn_nle c) | (have z := bn_nle c; omega))
            exact blk_54 y5_14 fp_14 _ _ _ (hs.trans ((if_pos c_27).trans rfl)) (by have zz0_6 : (fp_14 0 6).toInt = v_18.toInt := (congrArg Int32.toInt (show fp_14 0 6 = v_18 from ev_18.symm)); exact ⟨by omega, by omega⟩) hI hF hP hS (lv_sub hl [0, 3] rfl)
      · skip
        have c_22 : y6_14.toInt < x1.toInt := (by first | exact (bn_nle c) | (have z := bn_nle c; omega))
        refine lv_iload hx hb dX12_chairsOn_20 (lv_at hl 3 rfl) ?_
        refine lv_aload_n hx hb dX12_chairsOn_22 rfl (lv_at hl 0 rfl) ?_
        refine lv_iload_n hx hb dX12_chairsOn_23 rfl (lv_at hl 2 rfl) ?_
        refine lv_iload hx hb dX12_chairsOn_24 (lv_at hl 4 rfl) ?_
        refine sg_calli (va_runV (As := [.int x2, .int y6_14]) (rest := [.int y5_14]) ⟨hx, hb, hml, hown, hts⟩ (kX12_chairLoss l D ca za h hh fp_14 L Q hI x2 y6_14 b2 hy1_14 H.size) (sl_c12_chairLoss_1_0_0_21_12 hts ⟨Nat.le_of_ble_eq_true rfl, Nat.le_of_ble_eq_true rfl⟩) (sl_vM_0 hA hK hP hS hZ) rfl rfl hl.1 rfl (lv_room (Nat.le_of_ble_eq_true rfl)) dX12_chairsOn_26 ⟨Nat.le_refl _, Nat.le_refl _⟩) hA hS (fun r_31 f_28 L_29 Q_30 H locs hq hP hS => ?_)
        obtain ⟨⟨ef9, eL9, eQ9⟩, hq, u_32⟩ := hq
        rw [ef9, eL9, eQ9] at hP; clear ef9 eL9 eQ9
        refine lv_iadd hx hb dX12_chairsOn_29 ?_
        refine lv_topi (fun v_33 ev_33 => ?_)
        refine lv_istore (lv' := [(5, .int v_33), (0, .ref (h 0)), (2, .int x1), (3, .int x2), (6, .int y6_14)]) hx hb dX12_chairsOn_30 hl (by decide) rfl (fun ls hl => ?_)
        obtain ⟨v_34, ev_34⟩ : ∃ z : Int32, z = y6_14 + 1 := ⟨_, rfl⟩
        have q_35 : v_34.toInt = y6_14.toInt + 1 := by rw [ev_34]; exact (bn_addc y6_14 1 (by decide) (by omega) (by omega))
        refine lv_iinc (v := v_34) (lv' := [(6, .int v_34), (5, .int v_33), (0, .ref (h 0)), (2, .int x1), (3, .int x2)]) hx hb dX12_chairsOn_32 hl (k := 4) rfl (by rw [ev_34]; rfl) (by decide) rfl (fun ls hl => ?_)
        refine lv_goto (tgt := 14) hx hb dX12_chairsOn_35 (by decide) ?_
        exact ih_14 v_33 v_34 fp_14 _ _ _ (hs.trans ((if_pos c_22).trans (spl_e u_32 (spl_e ev_33 (spl_e ev_34 rfl))))) (by omega) (by have zz0_6 : (fp_14 0 6).toInt = v_18.toInt := (congrArg Int32.toInt (show fp_14 0 6 = v_18 from ev_18.symm)); exact ⟨by omega, by omega⟩) ⟨by omega, by omega⟩ hI hF hP hS (lv_sub hl [2, 3, 4, 1, 0] rfl)
  have loop_116 : ∀ (n_116 : Nat) (y5_116 : Int32) (fp_116 : sg_F) (H : Heap) (locs : List Loc) (ls : Array Slot), sp = sX12_chairsOn_7_l116 x1 x2 x3 n_116 y5_116 fp_116 L → 8 - y5_116.toInt < (n_116 : Int) → 8 ≤ (fp_116 0 6).toInt ∧ (fp_116 0 6).toInt ≤ 8 → 0 ≤ y5_116.toInt ∧ y5_116.toInt ≤ 8 → sgI loM hiM fp_116 → sgK WkX12_chairsOn_7 f fp_116 → va_P D vwCl (sgw 26 h (eM ca h) fp_116 L Q) H → va_S (sgA 26 h s.heap.size) s.heap H locs → lv_has ls 7 [(0, .ref (h 0)), (1, .int 7), (2, .int x1), (3, .int x2), (4, .int x3), (5, .int y5_116)] → W p l e ({ frames := 3, cells := 0, slots := 0, locals := 73 }) s m ([.ref (h 0), .int 7, .int x1, .int x2, .int x3] : List Value).toArray below meth cd H locs 0 0 Qz (F0 m 116 ls []) := by
    intro n_116
    induction n_116 with
    | zero => intro y5_116 fp_116 H locs ls hs hm_116 hy0_116 hy1_116 hI hF hP hS hl; exact absurd hm_116 (by omega)
    | succ n_116 ih_116 =>
      intro y5_116 fp_116 H locs ls hs hm_116 hy0_116 hy1_116 hI hF hP hS hl
      have hs : sp = sX12_chairsOn_7_h116 x1 x2 x3 (sX12_chairsOn_7_l116 x1 x2 x3 n_116) y5_116 fp_116 L := hs
      obtain ⟨v_36, ev_36⟩ : ∃ z : Int32, z = fp_116 0 6 := ⟨_, rfl⟩
      replace hs := hs.trans (spl_e ev_36 rfl)
      have q_37 : 0 ≤ v_36.toInt ∧ v_36.toInt ≤ 8 := by rw [ev_36]; exact hI 0 6
      have q_38 : (fp_116 0 6).toInt = v_36.toInt := by rw [ev_36]
      refine lv_iload hx hb dX12_chairsOn_116 (lv_at hl 5 rfl) ?_
      refine lv_iload hx hb dX12_chairsOn_118 (lv_at hl 4 rfl) ?_
      refine lv_icmp_ge (tgt := 166) hx hb dX12_chairsOn_120 (by decide) (fun c => ?_) (fun c => ?_)
      · skip
        have c_39 : x3.toInt ≤ y5_116.toInt := (by first | exact (bn_le c) | (have z := bn_le c; omega))
        exact hret _ _ _ _ fp_116 L Q dX12_chairsOn_166 hP hS ⟨⟨hI, hF, rfl, rfl⟩, (Eq.trans (Eq.symm (hs.trans ((if_neg (Int.not_lt.mpr c_39)).trans rfl))) hsp)⟩
      · skip
        have c_40 : y5_116.toInt < x3.toInt := (by first | exact (bn_nle c) | (have z := bn_nle c; omega))
        replace hs := hs.trans ((if_pos c_40).trans rfl)
        refine lv_iload hx hb dX12_chairsOn_123 (lv_at hl 5 rfl) ?_
        refine lv_iload_n hx hb dX12_chairsOn_125 rfl (lv_at hl 2 rfl) ?_
        refine lv_icmp_gt (tgt := 166) hx hb dX12_chairsOn_126 (by decide) (fun c => ?_) (fun c => ?_)
        · skip
          have c_41 : x1.toInt < y5_116.toInt := (by first | exact (bn_lt c) | (have z := bn_lt c; omega))
          exact hret _ _ _ _ fp_116 L Q dX12_chairsOn_166 hP hS ⟨⟨hI, hF, rfl, rfl⟩, (Eq.trans (Eq.symm (hs.trans ((if_pos c_41).trans rfl))) hsp)⟩
        · skip
          have c_42 : y5_116.toInt ≤ x1.toInt := (by first | exact (bn_nlt c) | (have z := bn_nlt c; omega))
          refine lv_aload_n hx hb dX12_chairsOn_129 rfl (lv_at hl 0 rfl) ?_
          refine sl_gM_0_33_12 hx hb hts hown hK hP dX12_chairsOn_130 ?_
          refine lv_iload_n hx hb dX12_chairsOn_133 rfl (lv_at hl 1 rfl) ?_
          refine lv_iload hx hb dX12_chairsOn_134 (lv_at hl 5 rfl) ?_
          refine sg_iast hx hb hh hA hK hP hS 15 (by decide) 0 (fun _ => rfl) rfl (i := 7) (x := y5_116) (vp_in_iff.mpr (by decide)) dX12_chairsOn_136 (fun f_43 H locs ef_43 hP hS => ?_)
          replace hs := hs.trans ((if_neg (Int.not_lt.mpr c_42)).trans (spl_e ef_43 rfl))
          have hI : sgI loM hiM f_43 := by rw [ef_43]; exact sgI.put hI 15 (Int32.toNatClampNeg 7) (show 0 ≤ (y5_116 : Int32).toInt ∧ (y5_116 : Int32).toInt ≤ 7 from ⟨by omega, by omega⟩)
          have hF : sgK WkX12_chairsOn_7 f f_43 := sgK.put hF ef_43 (by rfl)
          refine lv_aload_n hx hb dX12_chairsOn_137 rfl (lv_at hl 0 rfl) ?_
          refine lv_iload_n hx hb dX12_chairsOn_138 rfl (lv_at hl 1 rfl) ?_
          refine lv_iconst (v := 1) hx hb dX12_chairsOn_139 ic_1 ?_
          refine lv_iadd hx hb dX12_chairsOn_140 ?_
          refine W.eq (g2 := F0 m 141 ls [.int 8, .ref (h 0)]) (by rw [show (7 + 1 : Int32) = 8 from by decide]) ?_
          refine lv_iload hx hb dX12_chairsOn_141 (lv_at hl 5 rfl) ?_
          refine lv_iload_n hx hb dX12_chairsOn_143 rfl (lv_at hl 2 rfl) ?_
          refine lv_icmp_ne (tgt := 153) hx hb dX12_chairsOn_144 (by decide) (fun c => ?_) (fun c => ?_)
          · skip
            have c_44 : y5_116.toInt ≠ x1.toInt := (by first | exact (bn_ne c) | (have z := bn_ne c; omega))
            refine lv_iload_n hx hb dX12_chairsOn_153 rfl (lv_at hl 2 rfl) ?_
            refine lv_iload_n hx hb dX12_chairsOn_154 rfl (lv_at hl 3 rfl) ?_
            refine lv_iload hx hb dX12_chairsOn_155 (lv_at hl 4 rfl) ?_
            have q_46 : (f_43 0 6).toInt = v_36.toInt := (congrArg Int32.toInt (show f_43 0 6 = v_36 from (by rw [ef_43, sg_up_n (by decide)]; exact ev_36.symm)))
            refine sg_callv (va_runV (As := [.int 8, .int x1, .int x2, .int x3]) (rest := []) ⟨hx, hb, hml, hown, hts⟩ (kX12_chairsOn_8 l D ca za h hh f_43 L Q hI x1 x2 x3 ⟨by omega, by omega⟩ b2 b3 (by have k0 : (8 : Int32).toInt = 8 := ti_8; omega) H.size) (sl_c12_chairsOn_2_0_0_47_12 hts ⟨Nat.le_of_ble_eq_true rfl, Nat.le_of_ble_eq_true rfl⟩) (sl_vM_0 hA hK hP hS hZ) rfl rfl hl.1 rfl (lv_room (Nat.le_of_ble_eq_true rfl)) dX12_chairsOn_157 ⟨Nat.le_refl _, Nat.le_refl _⟩) hA hS (fun f_48 L_49 Q_50 H locs hq hP hS => ?_)
            obtain ⟨⟨hI, hk_f_48, eL9, eQ9⟩, u_51⟩ := hq
            rw [eL9, eQ9] at hP; clear eL9 eQ9
            have hF : sgK WkX12_chairsOn_7 f f_48 := sgK.tr hF hk_f_48 (by decide +kernel)
            obtain ⟨v_52, ev_52⟩ : ∃ z : Int32, z = y5_116 + 1 := ⟨_, rfl⟩
            have q_53 : v_52.toInt = y5_116.toInt + 1 := by rw [ev_52]; exact (bn_addc y5_116 1 (by decide) (by omega) (by omega))
            refine lv_iinc (v := v_52) (lv' := [(5, .int v_52), (0, .ref (h 0)), (1, .int 7), (2, .int x1), (3, .int x2), (4, .int x3)]) hx hb dX12_chairsOn_160 hl (k := 5) rfl (by rw [ev_52]; rfl) (by decide) rfl (fun ls hl => ?_)
            refine lv_goto (tgt := 116) hx hb dX12_chairsOn_163 (by decide) ?_
            exact ih_116 v_52 f_48 _ _ _ (hs.trans ((if_neg c_44).trans (spl_e u_51 (spl_e ev_52 rfl)))) (by omega) (by have zz0_6 : (f_48 0 6).toInt = v_36.toInt := (congrArg Int32.toInt (show f_48 0 6 = v_36 from ((hk_f_48 0 6 (by decide)).trans (by rw [ef_43, sg_up_n (by decide)]; exact ev_36.symm)))); exact ⟨by omega, by omega⟩) ⟨by omega, by omega⟩ hI hF hP hS (lv_sub hl [1, 2, 3, 4, 5, 0] rfl)
          · skip
            have c_45 : y5_116.toInt = x1.toInt := (by first | exact (Int32.toInt_inj.mpr c) | (have z := Int32.toInt_inj.mpr c; omega))
            refine lv_iload_n hx hb dX12_chairsOn_147 rfl (lv_at hl 2 rfl) ?_
            refine lv_iconst (v := 1) hx hb dX12_chairsOn_148 ic_1 ?_
            refine lv_iadd hx hb dX12_chairsOn_149 ?_
            refine lv_topi (fun v_54 ev_54 => ?_)
            have q_55 : v_54.toInt = x1.toInt + 1 := by rw [ev_54]; first | exact cm_add ti_1 (by omega) (by omega) | (have k1 : (1 : Int32).toInt = 1 := ti_1; exact (bn_addI (by omega) (by omega)).trans (by omega))
            refine lv_goto (tgt := 154) hx hb dX12_chairsOn_150 (by decide) ?_
            refine lv_iload_n hx hb dX12_chairsOn_154 rfl (lv_at hl 3 rfl) ?_
            refine lv_iload hx hb dX12_chairsOn_155 (lv_at hl 4 rfl) ?_
            have q_56 : (f_43 0 6).toInt = v_36.toInt := (congrArg Int32.toInt (show f_43 0 6 = v_36 from (by rw [ef_43, sg_up_n (by decide)]; exact ev_36.symm)))
            refine sg_callv (va_runV (As := [.int 8, .int v_54, .int x2, .int x3]) (rest := []) ⟨hx, hb, hml, hown, hts⟩ (kX12_chairsOn_8 l D ca za h hh f_43 L Q hI v_54 x2 x3 ⟨by omega, by omega⟩ b2 b3 (by have k0 : (8 : Int32).toInt = 8 := ti_8; omega) H.size) (sl_c12_chairsOn_2_0_0_47_12 hts ⟨Nat.le_of_ble_eq_true rfl, Nat.le_of_ble_eq_true rfl⟩) (sl_vM_0 hA hK hP hS hZ) rfl rfl hl.1 rfl (lv_room (Nat.le_of_ble_eq_true rfl)) dX12_chairsOn_157 ⟨Nat.le_refl _, Nat.le_refl _⟩) hA hS (fun f_58 L_59 Q_60 H locs hq hP hS => ?_)
            obtain ⟨⟨hI, hk_f_58, eL9, eQ9⟩, u_61⟩ := hq
            rw [eL9, eQ9] at hP; clear eL9 eQ9
            have hF : sgK WkX12_chairsOn_7 f f_58 := sgK.tr hF hk_f_58 (by decide +kernel)
            obtain ⟨v_62, ev_62⟩ : ∃ z : Int32, z = y5_116 + 1 := ⟨_, rfl⟩
            have q_63 : v_62.toInt = y5_116.toInt + 1 := by rw [ev_62]; exact (bn_addc y5_116 1 (by decide) (by omega) (by omega))
            refine lv_iinc (v := v_62) (lv' := [(5, .int v_62), (0, .ref (h 0)), (1, .int 7), (2, .int x1), (3, .int x2), (4, .int x3)]) hx hb dX12_chairsOn_160 hl (k := 5) rfl (by rw [ev_62]; rfl) (by decide) rfl (fun ls hl => ?_)
            refine lv_goto (tgt := 116) hx hb dX12_chairsOn_163 (by decide) ?_
            exact ih_116 v_62 f_58 _ _ _ (hs.trans ((if_pos c_45).trans (spl_e ev_54 (spl_e u_61 (spl_e ev_62 rfl))))) (by omega) (by have zz0_6 : (f_58 0 6).toInt = v_36.toInt := (congrArg Int32.toInt (show f_58 0 6 = v_36 from ((hk_f_58 0 6 (by decide)).trans (by rw [ef_43, sg_up_n (by decide)]; exact ev_36.symm)))); exact ⟨by omega, by omega⟩) ⟨by omega, by omega⟩ hI hF hP hS (lv_sub hl [1, 2, 3, 4, 5, 0] rfl)
  refine lv_iload_n hx hb dX12_chairsOn_0 rfl (lv_at hl 1 rfl) ?_
  refine lv_aload_n hx hb dX12_chairsOn_1 rfl (lv_at hl 0 rfl) ?_
  refine sl_gM_0_6_12 (v := v_1) hx hb hts hown hK hP (show f 0 6 = v_1 from ev_1.symm) dX12_chairsOn_2 ?_
  refine lv_icmp_ne (tgt := 93) hx hb dX12_chairsOn_5 (by decide) (fun c => ?_) (fun c => ?_)
  · skip
    have c_64 : 7 ≠ v_1.toInt := (by first | exact (cm_ne0 ti_7 c) | (have z := bn_ne c; have k0 : (7 : Int32).toInt = 7 := ti_7; omega))
    refine lv_iload_n hx hb dX12_chairsOn_93 rfl (lv_at hl 3 rfl) ?_
    refine lv_iload_n hx hb dX12_chairsOn_94 rfl (lv_at hl 1 rfl) ?_
    refine sg_calli (va_runS (As := [.int x2, .int 7]) (rest := []) ⟨hx, hb, hml, hown, hts⟩ (kX12_isIn l D ca za h hh f L Q hI x2 7 ⟨by omega, by omega⟩ (by decide) H.size) (va_cwS 2 hts (gw_S (fun _ h => List.mem_cons_of_mem _ h) mw_832 mw_833 mw_619 mw_831) rfl rfl rfl hd_yX12_isIn.2 ⟨Nat.le_of_ble_eq_true rfl, Nat.le_of_ble_eq_true rfl⟩) (sg_preS hA hK hP hS hZ) rfl rfl hl.1 rfl (lv_room (Nat.le_of_ble_eq_true rfl)) dX12_chairsOn_95 ⟨Nat.le_refl _, Nat.le_refl _⟩) hA hS (fun r_69 f_66 L_67 Q_68 H locs hq hP hS => ?_)
    obtain ⟨⟨ef9, eL9, eQ9⟩, hq, u_70⟩ := hq
    replace hs := hs.trans ((if_neg c_64).trans (spl_e u_70 rfl))
    rw [ef9, eL9, eQ9] at hP; clear ef9 eL9 eQ9
    refine lv_if_ne (tgt := 113) hx hb dX12_chairsOn_98 (by decide) (fun c => ?_) (fun c => ?_)
    · skip
      have c_71 : r_69.toInt ≠ 0 := (by first | exact (cm_ne1 ti_0 c) | (have z := bn_ne c; have k1 : (0 : Int32).toInt = 0 := ti_0; omega))
      refine lv_iconst (v := 0) hx hb dX12_chairsOn_113 ic_0 ?_
      refine lv_istore (lv' := [(5, .int 0), (0, .ref (h 0)), (1, .int 7), (2, .int x1), (3, .int x2), (4, .int x3)]) hx hb dX12_chairsOn_114 hl (by decide) rfl (fun ls hl => ?_)
      exact loop_116 9 0 f _ _ _ (hs.trans ((if_neg c_71).trans rfl)) (by have kc0 : (0 : Int32).toInt = 0 := ti_0; omega) (by have zz0_6 : (f 0 6).toInt = v_1.toInt := (congrArg Int32.toInt (show f 0 6 = v_1 from ev_1.symm)); exact ⟨by omega, by omega⟩) (by decide) hI hF hP hS (lv_sub hl [1, 2, 3, 4, 5, 0] rfl)
    · skip
      have c_72 : r_69.toInt = 0 := (by first | exact (cm_eq1 ti_0 c) | (have z := Int32.toInt_inj.mpr c; have k1 : (0 : Int32).toInt = 0 := ti_0; omega))
      refine lv_aload_n hx hb dX12_chairsOn_101 rfl (lv_at hl 0 rfl) ?_
      refine lv_iload_n hx hb dX12_chairsOn_102 rfl (lv_at hl 1 rfl) ?_
      refine lv_iconst (v := 1) hx hb dX12_chairsOn_103 ic_1 ?_
      refine lv_iadd hx hb dX12_chairsOn_104 ?_
      refine W.eq (g2 := F0 m 105 ls [.int 8, .ref (h 0)]) (by rw [show (7 + 1 : Int32) = 8 from by decide]) ?_
      refine lv_iload_n hx hb dX12_chairsOn_105 rfl (lv_at hl 2 rfl) ?_
      refine lv_iload_n hx hb dX12_chairsOn_106 rfl (lv_at hl 3 rfl) ?_
      refine lv_iload hx hb dX12_chairsOn_107 (lv_at hl 4 rfl) ?_
      have q_73 : (f 0 6).toInt = v_1.toInt := (congrArg Int32.toInt (show f 0 6 = v_1 from ev_1.symm))
      refine sg_callv (va_runV (As := [.int 8, .int x1, .int x2, .int x3]) (rest := []) ⟨hx, hb, hml, hown, hts⟩ (kX12_chairsOn_8 l D ca za h hh f L Q hI x1 x2 x3 ⟨by omega, by omega⟩ b2 b3 (by have k0 : (8 : Int32).toInt = 8 := ti_8; omega) H.size) (sl_c12_chairsOn_2_0_0_47_12 hts ⟨Nat.le_of_ble_eq_true rfl, Nat.le_of_ble_eq_true rfl⟩) (sl_vM_0 hA hK hP hS hZ) rfl rfl hl.1 rfl (lv_room (Nat.le_of_ble_eq_true rfl)) dX12_chairsOn_109 ⟨Nat.le_refl _, Nat.le_refl _⟩) hA hS (fun f_75 L_76 Q_77 H locs hq hP hS => ?_)
      obtain ⟨⟨hI, hk_f_75, eL9, eQ9⟩, u_78⟩ := hq
      rw [eL9, eQ9] at hP; clear eL9 eQ9
      have hF : sgK WkX12_chairsOn_7 f f_75 := sgK.tr hF hk_f_75 (by decide +kernel)
      exact hret _ _ _ _ f_75 L Q dX12_chairsOn_112 hP hS ⟨⟨hI, hF, rfl, rfl⟩, (Eq.trans (Eq.symm (hs.trans ((if_pos c_72).trans (spl_e u_78 rfl)))) hsp)⟩
  · skip
    have c_65 : 7 = v_1.toInt := (by first | exact (cm_eq0 ti_7 c) | (have z := Int32.toInt_inj.mpr c; have k0 : (7 : Int32).toInt = 7 := ti_7; omega))
    refine lv_iconst (v := 0) hx hb dX12_chairsOn_8 ic_0 ?_
    refine lv_istore (lv' := [(5, .int 0), (0, .ref (h 0)), (1, .int 7), (2, .int x1), (3, .int x2), (4, .int x3)]) hx hb dX12_chairsOn_9 hl (by decide) rfl (fun ls hl => ?_)
    refine lv_iconst (v := 0) hx hb dX12_chairsOn_11 ic_0 ?_
    refine lv_istore (lv' := [(6, .int 0), (5, .int 0), (0, .ref (h 0)), (1, .int 7), (2, .int x1), (3, .int x2), (4, .int x3)]) hx hb dX12_chairsOn_12 hl (by decide) rfl (fun ls hl => ?_)
    exact loop_14 8 0 0 f _ _ _ (hs.trans ((if_pos c_65).trans rfl)) (by have kc0 : (0 : Int32).toInt = 0 := ti_0; have kc1 : (0 : Int32).toInt = 0 := ti_0; omega) (by have zz0_6 : (f 0 6).toInt = v_1.toInt := (congrArg Int32.toInt (show f 0 6 = v_1 from ev_1.symm)); exact ⟨by omega, by omega⟩) (by decide) hI hF hP hS (lv_sub hl [2, 4, 5, 1, 0] rfl)

abbrev WkX12_chairsOn_6 : List (Nat × Nat × Option Nat) := [(0, 0, some 35), (15, 15, none), (16, 16, none)]
set_option maxHeartbeats 4000000 in
set_option maxRecDepth 100000 in
theorem kX12_chairsOn_6 (l : Launch) (D : va_G) (ca : Nat → ClassId) (za h : Nat → Nat) (hh : sgH 26 h) (f : sg_F) (L : sg_L) (Q : sg_Q) (hI : sgI loM hiM f) (x1 : Int32) (x2 : Int32) (x3 : Int32) (b1 : 0 ≤ x1.toInt ∧ x1.toInt ≤ 6) (b2 : 0 ≤ x2.toInt ∧ x2.toInt ≤ 255) (b3 : 0 ≤ x3.toInt ∧ x3.toInt ≤ 9) (p0 : 6 ≤ (f 0 6).toInt ∧ (f 0 6).toInt ≤ 8) (sz : Nat) : Met l yX12_chairsOn gwX12_chairsOn { frames := 4, cells := 0, slots := 0, locals := 99 } (sgP D vwCl (tyX ca) 26 h (eM ca h) zcM za f L Q sz [.ref (h 0), .int 6, .int x1, .int x2, .int x3]) (sgQv D vwCl 26 h (eM ca h) sz (fun f1 L1 Q1 => ((sgI loM hiM f1 ∧ sgK WkX12_chairsOn_6 f f1 ∧ L1 = L ∧ Q1 = Q) ∧ (f1) = sX12_chairsOn_6 x1 x2 x3 f L))) 0 0 (sgA 26 h sz) := by
  refine sg_ofWv (cc := cX12_chairsOn) (maxL := 7) RX12 (by decide) rfl rfl (Nat.le_of_ble_eq_true rfl) ?_
  intro p e s m below meth cd Qz ls hx hb hml hown hts hK hZ hP hS hl hret
  have hA := sgY.self (n := 26) (h := h) (sz := s.heap.size)
  have hl : lv_has ls 7 [(0, .ref (h 0)), (1, .int 6), (2, .int x1), (3, .int x2), (4, .int x3)] := hl
  obtain ⟨H, hH⟩ : ∃ z : Heap, z = s.heap := ⟨_, rfl⟩
  obtain ⟨locs, hlo⟩ : ∃ z : List Loc, z = [] := ⟨_, rfl⟩
  have hP : va_P D vwCl (sgw 26 h (eM ca h) f L Q) H := by rw [hH]; exact hP
  have hS : va_S (sgA 26 h s.heap.size) s.heap H locs := by rw [hH, hlo]; exact hS
  suffices hgo : W p l e ({ frames := 4, cells := 0, slots := 0, locals := 99 }) s m ([.ref (h 0), .int 6, .int x1, .int x2, .int x3] : List Value).toArray below meth cd H locs 0 0 Qz (F0 m 0 ls []) by rw [hH, hlo] at hgo; exact hgo
  clear hH hlo
  obtain ⟨sp, hsp⟩ : ∃ z : sg_F, z = sX12_chairsOn_6 x1 x2 x3 f L := ⟨_, rfl⟩
  have hs : sp = sX12_chairsOn_6 x1 x2 x3 f L := hsp
  obtain ⟨v_1, ev_1⟩ : ∃ z : Int32, z = f 0 6 := ⟨_, rfl⟩
  replace hs := hs.trans (spl_e ev_1 rfl)
  have q_2 : 0 ≤ v_1.toInt ∧ v_1.toInt ≤ 8 := by rw [ev_1]; exact hI 0 6
  have o_3 : (f 0 6).toInt = v_1.toInt := (congrArg Int32.toInt (show f 0 6 = v_1 from ev_1.symm))
  have hF : sgK WkX12_chairsOn_6 f f := sgK.rf
  have loop_63 : ∀ (n_63 : Nat) (y6_63 : Int32) (fp_63 : sg_F) (H : Heap) (locs : List Loc) (ls : Array Slot), sp = sX12_chairsOn_6_l63 x1 x2 x3 n_63 y6_63 fp_63 L → 6 - y6_63.toInt < (n_63 : Int) → 6 ≤ (fp_63 0 6).toInt ∧ (fp_63 0 6).toInt ≤ 6 → 0 ≤ y6_63.toInt ∧ y6_63.toInt ≤ 6 → sgI loM hiM fp_63 → sgK WkX12_chairsOn_6 f fp_63 → va_P D vwCl (sgw 26 h (eM ca h) fp_63 L Q) H → va_S (sgA 26 h s.heap.size) s.heap H locs → lv_has ls 7 [(0, .ref (h 0)), (6, .int y6_63)] → W p l e ({ frames := 4, cells := 0, slots := 0, locals := 99 }) s m ([.ref (h 0), .int 6, .int x1, .int x2, .int x3] : List Value).toArray below meth cd H locs 0 0 Qz (F0 m 63 ls []) := by
    intro n_63
    induction n_63 with
    | zero => intro y6_63 fp_63 H locs ls hs hm_63 hy0_63 hy1_63 hI hF hP hS hl; exact absurd hm_63 (by omega)
    | succ n_63 ih_63 =>
      intro y6_63 fp_63 H locs ls hs hm_63 hy0_63 hy1_63 hI hF hP hS hl
      have hs : sp = sX12_chairsOn_6_h63 x1 x2 x3 (sX12_chairsOn_6_l63 x1 x2 x3 n_63) y6_63 fp_63 L := hs
      obtain ⟨v_4, ev_4⟩ : ∃ z : Int32, z = fp_63 0 6 := ⟨_, rfl⟩
      replace hs := hs.trans (spl_e ev_4 rfl)
      have q_5 : 0 ≤ v_4.toInt ∧ v_4.toInt ≤ 8 := by rw [ev_4]; exact hI 0 6
      have q_6 : (fp_63 0 6).toInt = v_4.toInt := by rw [ev_4]
      refine lv_iload hx hb dX12_chairsOn_63 (lv_at hl 1 rfl) ?_
      refine lv_aload_n hx hb dX12_chairsOn_65 rfl (lv_at hl 0 rfl) ?_
      refine sl_gM_0_6_12 (v := v_4) hx hb hts hown hK hP (show fp_63 0 6 = v_4 from ev_4.symm) dX12_chairsOn_66 ?_
      refine lv_icmp_ge (tgt := 92) hx hb dX12_chairsOn_69 (by decide) (fun c => ?_) (fun c => ?_)
      · skip
        have c_7 : v_4.toInt ≤ y6_63.toInt := (by first | exact (bn_le c) | (have z := bn_le c; omega))
        exact hret _ _ _ _ fp_63 L Q dX12_chairsOn_92 hP hS ⟨⟨hI, hF, rfl, rfl⟩, (Eq.trans (Eq.symm (hs.trans ((if_neg (Int.not_lt.mpr c_7)).trans rfl))) hsp)⟩
      · skip
        have c_8 : y6_63.toInt < v_4.toInt := (by first | exact (bn_nle c) | (have z := bn_nle c; omega))
        refine lv_aload_n hx hb dX12_chairsOn_72 rfl (lv_at hl 0 rfl) ?_
        refine sl_gM_0_34_12 hx hb hts hown hK hP dX12_chairsOn_73 ?_
        refine lv_iload hx hb dX12_chairsOn_76 (lv_at hl 1 rfl) ?_
        refine lv_aload_n hx hb dX12_chairsOn_78 rfl (lv_at hl 0 rfl) ?_
        refine sl_gM_0_33_12 hx hb hts hown hK hP dX12_chairsOn_79 ?_
        refine lv_iload hx hb dX12_chairsOn_82 (lv_at hl 1 rfl) ?_
        refine sg_iald hx hb hK hP 15 (by decide) 0 rfl rfl (i := y6_63) (vp_in_iff.mpr ⟨by omega, by omega⟩) dX12_chairsOn_84 ?_
        refine lv_topi (fun v_9 ev_9 => ?_)
        have q_10 : 0 ≤ v_9.toInt ∧ v_9.toInt ≤ 7 := by rw [ev_9]; exact hI 15 _
        refine sg_iast hx hb hh hA hK hP hS 16 (by decide) 0 (fun _ => rfl) rfl (i := y6_63) (x := v_9) (vp_in_iff.mpr ⟨by omega, by omega⟩) dX12_chairsOn_85 (fun f_11 H locs ef_11 hP hS => ?_)
        have hI : sgI loM hiM f_11 := by rw [ef_11]; exact sgI.put hI 16 y6_63.toNatClampNeg (show 0 ≤ (v_9 : Int32).toInt ∧ (v_9 : Int32).toInt ≤ 7 from q_10)
        have hF : sgK WkX12_chairsOn_6 f f_11 := sgK.put hF ef_11 (by rfl)
        obtain ⟨v_12, ev_12⟩ : ∃ z : Int32, z = y6_63 + 1 := ⟨_, rfl⟩
        have q_13 : v_12.toInt = y6_63.toInt + 1 := by rw [ev_12]; exact (bn_addc y6_63 1 (by decide) (by omega) (by omega))
        refine lv_iinc (v := v_12) (lv' := [(6, .int v_12), (0, .ref (h 0))]) hx hb dX12_chairsOn_86 hl (k := 1) rfl (by rw [ev_12]; rfl) (by decide) rfl (fun ls hl => ?_)
        refine lv_goto (tgt := 63) hx hb dX12_chairsOn_89 (by decide) ?_
        exact ih_63 v_12 f_11 _ _ _ (hs.trans ((if_pos c_8).trans (spl_e ev_9 (spl_e ef_11 (spl_e ev_12 rfl))))) (by omega) (by have zz0_6 : (f_11 0 6).toInt = v_4.toInt := (congrArg Int32.toInt (show f_11 0 6 = v_4 from (by rw [ef_11, sg_up_n (by decide)]; exact ev_4.symm))); exact ⟨by omega, by omega⟩) ⟨by omega, by omega⟩ hI hF hP hS (lv_sub hl [1, 0] rfl)
  have blk_54 : ∀ (y5_54 : Int32) (fp_54 : sg_F) (H : Heap) (locs : List Loc) (ls : Array Slot), sp = sX12_chairsOn_6_b54 x1 x2 x3 y5_54 fp_54 L → 6 ≤ (fp_54 0 6).toInt ∧ (fp_54 0 6).toInt ≤ 6 → sgI loM hiM fp_54 → sgK WkX12_chairsOn_6 f fp_54 → va_P D vwCl (sgw 26 h (eM ca h) fp_54 L Q) H → va_S (sgA 26 h s.heap.size) s.heap H locs → lv_has ls 7 [(0, .ref (h 0)), (5, .int y5_54)] → W p l e ({ frames := 4, cells := 0, slots := 0, locals := 99 }) s m ([.ref (h 0), .int 6, .int x1, .int x2, .int x3] : List Value).toArray below meth cd H locs 0 0 Qz (F0 m 54 ls []) := by
    intro y5_54 fp_54 H locs ls hs hy0_54 hI hF hP hS hl
    obtain ⟨v_14, ev_14⟩ : ∃ z : Int32, z = fp_54 0 6 := ⟨_, rfl⟩
    have q_15 : 0 ≤ v_14.toInt ∧ v_14.toInt ≤ 8 := by rw [ev_14]; exact hI 0 6
    have q_16 : (fp_54 0 6).toInt = v_14.toInt := by rw [ev_14]
    refine lv_aload_n hx hb dX12_chairsOn_54 rfl (lv_at hl 0 rfl) ?_
    refine lv_iload hx hb dX12_chairsOn_55 (lv_at hl 1 rfl) ?_
    refine sl_pM_0_35_12 (x := y5_54) hx hb hts hown hh hA hK hP hS dX12_chairsOn_57 (fun f_17 H locs ef_17 hP hS => ?_)
    have hI : sgI loM hiM f_17 := by rw [ef_17]; exact sgI.put hI 0 35 (bn_top _)
    have hF : sgK WkX12_chairsOn_6 f f_17 := sgK.put hF ef_17 (by rfl)
    refine lv_iconst (v := 0) hx hb dX12_chairsOn_60 ic_0 ?_
    refine lv_istore (lv' := [(6, .int 0), (0, .ref (h 0)), (5, .int y5_54)]) hx hb dX12_chairsOn_61 hl (by decide) rfl (fun ls hl => ?_)
    exact loop_63 7 0 f_17 _ _ _ (hs.trans ((spl_e ev_14 (spl_e ef_17 rfl)))) (by have kc0 : (0 : Int32).toInt = 0 := ti_0; omega) (by have zz0_6 : (f_17 0 6).toInt = v_14.toInt := (congrArg Int32.toInt (show f_17 0 6 = v_14 from (by rw [ef_17, sg_up_s, sgu_n (by decide)]; exact ev_14.symm))); exact ⟨by omega, by omega⟩) (by decide) hI hF hP hS (lv_sub hl [1, 0] rfl)
  have loop_14 : ∀ (n_14 : Nat) (y5_14 : Int32) (y6_14 : Int32) (fp_14 : sg_F) (H : Heap) (locs : List Loc) (ls : Array Slot), sp = sX12_chairsOn_6_l14 x1 x2 x3 n_14 y5_14 y6_14 fp_14 L → 6 - y6_14.toInt < (n_14 : Int) → 6 ≤ (fp_14 0 6).toInt ∧ (fp_14 0 6).toInt ≤ 6 → 0 ≤ y6_14.toInt ∧ y6_14.toInt ≤ 6 → sgI loM hiM fp_14 → sgK WkX12_chairsOn_6 f fp_14 → va_P D vwCl (sgw 26 h (eM ca h) fp_14 L Q) H → va_S (sgA 26 h s.heap.size) s.heap H locs → lv_has ls 7 [(0, .ref (h 0)), (2, .int x1), (3, .int x2), (5, .int y5_14), (6, .int y6_14)] → W p l e ({ frames := 4, cells := 0, slots := 0, locals := 99 }) s m ([.ref (h 0), .int 6, .int x1, .int x2, .int x3] : List Value).toArray below meth cd H locs 0 0 Qz (F0 m 14 ls []) := by
    intro n_14
    induction n_14 with
    | zero => intro y5_14 y6_14 fp_14 H locs ls hs hm_14 hy0_14 hy1_14 hI hF hP hS hl; exact absurd hm_14 (by omega)
    | succ n_14 ih_14 =>
      intro y5_14 y6_14 fp_14 H locs ls hs hm_14 hy0_14 hy1_14 hI hF hP hS hl
      have hs : sp = sX12_chairsOn_6_h14 x1 x2 x3 (sX12_chairsOn_6_l14 x1 x2 x3 n_14) y5_14 y6_14 fp_14 L := hs
      obtain ⟨v_18, ev_18⟩ : ∃ z : Int32, z = fp_14 0 6 := ⟨_, rfl⟩
      replace hs := hs.trans (spl_e ev_18 rfl)
      have q_19 : 0 ≤ v_18.toInt ∧ v_18.toInt ≤ 8 := by rw [ev_18]; exact hI 0 6
      have q_20 : (fp_14 0 6).toInt = v_18.toInt := by rw [ev_18]
      refine lv_iload hx hb dX12_chairsOn_14 (lv_at hl 4 rfl) ?_
      refine lv_iload_n hx hb dX12_chairsOn_16 rfl (lv_at hl 1 rfl) ?_
      refine lv_icmp_ge (tgt := 38) hx hb dX12_chairsOn_17 (by decide) (fun c => ?_) (fun c => ?_)
      · skip
        have c_21 : x1.toInt ≤ y6_14.toInt := (by first | exact (bn_le c) | (have z := bn_le c; omega))
        refine lv_aload_n hx hb dX12_chairsOn_38 rfl (lv_at hl 0 rfl) ?_
        refine sl_gM_0_35_12 (v := (fp_14 0 35)) hx hb hts hown hK hP rfl dX12_chairsOn_39 ?_
        refine lv_topi (fun v_23 ev_23 => ?_)
        replace hs := hs.trans ((if_neg (Int.not_lt.mpr c_21)).trans (spl_e ev_23 rfl))
        refine lv_if_lt (tgt := 54) hx hb dX12_chairsOn_42 (by decide) (fun c => ?_) (fun c => ?_)
        · skip
          have c_24 : v_23.toInt < 0 := (by first | exact (cm_lt1 ti_0 c) | (have z := bn_lt c; have k1 : (0 : Int32).toInt = 0 := ti_0; omega))
          exact blk_54 y5_14 fp_14 _ _ _ (hs.trans ((if_pos c_24).trans rfl)) (by have zz0_6 : (fp_14 0 6).toInt = v_18.toInt := (congrArg Int32.toInt (show fp_14 0 6 = v_18 from ev_18.symm)); exact ⟨by omega, by omega⟩) hI hF hP hS (lv_sub hl [0, 3] rfl)
        · skip
          have c_25 : 0 ≤ v_23.toInt := (by first | exact (cm_nlt1 ti_0 c) | (have z := bn_nlt c; have k1 : (0 : Int32).toInt = 0 := ti_0; omega))
          replace hs := hs.trans ((if_neg (Int.not_lt.mpr c_25)).trans rfl)
          refine lv_iload hx hb dX12_chairsOn_45 (lv_at hl 3 rfl) ?_
          refine lv_aload_n hx hb dX12_chairsOn_47 rfl (lv_at hl 0 rfl) ?_
          refine sl_gM_0_35_12 (v := v_23) hx hb hts hown hK hP (show fp_14 0 35 = v_23 from ev_23.symm) dX12_chairsOn_48 ?_
          refine lv_icmp_ge (tgt := 92) hx hb dX12_chairsOn_51 (by decide) (fun c => ?_) (fun c => ?_)
          · skip
            have c_26 : v_23.toInt ≤ y5_14.toInt := (by first | exact (bn_le c) | (have z := bn_le c; omega))
            exact hret _ _ _ _ fp_14 L Q dX12_chairsOn_92 hP hS ⟨⟨hI, hF, rfl, rfl⟩, (Eq.trans (Eq.symm (hs.trans ((if_neg (Int.not_lt.mpr c_26)).trans rfl))) hsp)⟩
          · skip
            have c_27 : y5_14.toInt < v_23.toInt := (by first | exact (bn_nle c) | (have z := bn_nle c; omega))
            exact blk_54 y5_14 fp_14 _ _ _ (hs.trans ((if_pos c_27).trans rfl)) (by have zz0_6 : (fp_14 0 6).toInt = v_18.toInt := (congrArg Int32.toInt (show fp_14 0 6 = v_18 from ev_18.symm)); exact ⟨by omega, by omega⟩) hI hF hP hS (lv_sub hl [0, 3] rfl)
      · skip
        have c_22 : y6_14.toInt < x1.toInt := (by first | exact (bn_nle c) | (have z := bn_nle c; omega))
        refine lv_iload hx hb dX12_chairsOn_20 (lv_at hl 3 rfl) ?_
        refine lv_aload_n hx hb dX12_chairsOn_22 rfl (lv_at hl 0 rfl) ?_
        refine lv_iload_n hx hb dX12_chairsOn_23 rfl (lv_at hl 2 rfl) ?_
        refine lv_iload hx hb dX12_chairsOn_24 (lv_at hl 4 rfl) ?_
        refine sg_calli (va_runV (As := [.int x2, .int y6_14]) (rest := [.int y5_14]) ⟨hx, hb, hml, hown, hts⟩ (kX12_chairLoss l D ca za h hh fp_14 L Q hI x2 y6_14 b2 ⟨by omega, by omega⟩ H.size) (sl_c12_chairLoss_1_0_0_21_12 hts ⟨Nat.le_of_ble_eq_true rfl, Nat.le_of_ble_eq_true rfl⟩) (sl_vM_0 hA hK hP hS hZ) rfl rfl hl.1 rfl (lv_room (Nat.le_of_ble_eq_true rfl)) dX12_chairsOn_26 ⟨Nat.le_refl _, Nat.le_refl _⟩) hA hS (fun r_31 f_28 L_29 Q_30 H locs hq hP hS => ?_)
        obtain ⟨⟨ef9, eL9, eQ9⟩, hq, u_32⟩ := hq
        rw [ef9, eL9, eQ9] at hP; clear ef9 eL9 eQ9
        refine lv_iadd hx hb dX12_chairsOn_29 ?_
        refine lv_topi (fun v_33 ev_33 => ?_)
        refine lv_istore (lv' := [(5, .int v_33), (0, .ref (h 0)), (2, .int x1), (3, .int x2), (6, .int y6_14)]) hx hb dX12_chairsOn_30 hl (by decide) rfl (fun ls hl => ?_)
        obtain ⟨v_34, ev_34⟩ : ∃ z : Int32, z = y6_14 + 1 := ⟨_, rfl⟩
        have q_35 : v_34.toInt = y6_14.toInt + 1 := by rw [ev_34]; exact (bn_addc y6_14 1 (by decide) (by omega) (by omega))
        refine lv_iinc (v := v_34) (lv' := [(6, .int v_34), (5, .int v_33), (0, .ref (h 0)), (2, .int x1), (3, .int x2)]) hx hb dX12_chairsOn_32 hl (k := 4) rfl (by rw [ev_34]; rfl) (by decide) rfl (fun ls hl => ?_)
        refine lv_goto (tgt := 14) hx hb dX12_chairsOn_35 (by decide) ?_
        exact ih_14 v_33 v_34 fp_14 _ _ _ (hs.trans ((if_pos c_22).trans (spl_e u_32 (spl_e ev_33 (spl_e ev_34 rfl))))) (by omega) (by have zz0_6 : (fp_14 0 6).toInt = v_18.toInt := (congrArg Int32.toInt (show fp_14 0 6 = v_18 from ev_18.symm)); exact ⟨by omega, by omega⟩) ⟨by omega, by omega⟩ hI hF hP hS (lv_sub hl [2, 3, 4, 1, 0] rfl)
  have loop_116 : ∀ (n_116 : Nat) (y5_116 : Int32) (fp_116 : sg_F) (H : Heap) (locs : List Loc) (ls : Array Slot), sp = sX12_chairsOn_6_l116 x1 x2 x3 n_116 y5_116 fp_116 L → 7 - y5_116.toInt < (n_116 : Int) → 7 ≤ (fp_116 0 6).toInt ∧ (fp_116 0 6).toInt ≤ 8 → 0 ≤ y5_116.toInt ∧ y5_116.toInt ≤ 7 → sgI loM hiM fp_116 → sgK WkX12_chairsOn_6 f fp_116 → va_P D vwCl (sgw 26 h (eM ca h) fp_116 L Q) H → va_S (sgA 26 h s.heap.size) s.heap H locs → lv_has ls 7 [(0, .ref (h 0)), (1, .int 6), (2, .int x1), (3, .int x2), (4, .int x3), (5, .int y5_116)] → W p l e ({ frames := 4, cells := 0, slots := 0, locals := 99 }) s m ([.ref (h 0), .int 6, .int x1, .int x2, .int x3] : List Value).toArray below meth cd H locs 0 0 Qz (F0 m 116 ls []) := by
    intro n_116
    induction n_116 with
    | zero => intro y5_116 fp_116 H locs ls hs hm_116 hy0_116 hy1_116 hI hF hP hS hl; exact absurd hm_116 (by omega)
    | succ n_116 ih_116 =>
      intro y5_116 fp_116 H locs ls hs hm_116 hy0_116 hy1_116 hI hF hP hS hl
      have hs : sp = sX12_chairsOn_6_h116 x1 x2 x3 (sX12_chairsOn_6_l116 x1 x2 x3 n_116) y5_116 fp_116 L := hs
      obtain ⟨v_36, ev_36⟩ : ∃ z : Int32, z = fp_116 0 6 := ⟨_, rfl⟩
      replace hs := hs.trans (spl_e ev_36 rfl)
      have q_37 : 0 ≤ v_36.toInt ∧ v_36.toInt ≤ 8 := by rw [ev_36]; exact hI 0 6
      have q_38 : (fp_116 0 6).toInt = v_36.toInt := by rw [ev_36]
      refine lv_iload hx hb dX12_chairsOn_116 (lv_at hl 5 rfl) ?_
      refine lv_iload hx hb dX12_chairsOn_118 (lv_at hl 4 rfl) ?_
      refine lv_icmp_ge (tgt := 166) hx hb dX12_chairsOn_120 (by decide) (fun c => ?_) (fun c => ?_)
      · skip
        have c_39 : x3.toInt ≤ y5_116.toInt := (by first | exact (bn_le c) | (have z := bn_le c; omega))
        exact hret _ _ _ _ fp_116 L Q dX12_chairsOn_166 hP hS ⟨⟨hI, hF, rfl, rfl⟩, (Eq.trans (Eq.symm (hs.trans ((if_neg (Int.not_lt.mpr c_39)).trans rfl))) hsp)⟩
      · skip
        have c_40 : y5_116.toInt < x3.toInt := (by first | exact (bn_nle c) | (have z := bn_nle c; omega))
        replace hs := hs.trans ((if_pos c_40).trans rfl)
        refine lv_iload hx hb dX12_chairsOn_123 (lv_at hl 5 rfl) ?_
        refine lv_iload_n hx hb dX12_chairsOn_125 rfl (lv_at hl 2 rfl) ?_
        refine lv_icmp_gt (tgt := 166) hx hb dX12_chairsOn_126 (by decide) (fun c => ?_) (fun c => ?_)
        · skip
          have c_41 : x1.toInt < y5_116.toInt := (by first | exact (bn_lt c) | (have z := bn_lt c; omega))
          exact hret _ _ _ _ fp_116 L Q dX12_chairsOn_166 hP hS ⟨⟨hI, hF, rfl, rfl⟩, (Eq.trans (Eq.symm (hs.trans ((if_pos c_41).trans rfl))) hsp)⟩
        · skip
          have c_42 : y5_116.toInt ≤ x1.toInt := (by first | exact (bn_nlt c) | (have z := bn_nlt c; omega))
          refine lv_aload_n hx hb dX12_chairsOn_129 rfl (lv_at hl 0 rfl) ?_
          refine sl_gM_0_33_12 hx hb hts hown hK hP dX12_chairsOn_130 ?_
          refine lv_iload_n hx hb dX12_chairsOn_133 rfl (lv_at hl 1 rfl) ?_
          refine lv_iload hx hb dX12_chairsOn_134 (lv_at hl 5 rfl) ?_
          refine sg_iast hx hb hh hA hK hP hS 15 (by decide) 0 (fun _ => rfl) rfl (i := 6) (x := y5_116) (vp_in_iff.mpr (by decide)) dX12_chairsOn_136 (fun f_43 H locs ef_43 hP hS => ?_)
          replace hs := hs.trans ((if_neg (Int.not_lt.mpr c_42)).trans (spl_e ef_43 rfl))
          have hI : sgI loM hiM f_43 := by rw [ef_43]; exact sgI.put hI 15 (Int32.toNatClampNeg 6) (show 0 ≤ (y5_116 : Int32).toInt ∧ (y5_116 : Int32).toInt ≤ 7 from hy1_116)
          have hF : sgK WkX12_chairsOn_6 f f_43 := sgK.put hF ef_43 (by rfl)
          refine lv_aload_n hx hb dX12_chairsOn_137 rfl (lv_at hl 0 rfl) ?_
          refine lv_iload_n hx hb dX12_chairsOn_138 rfl (lv_at hl 1 rfl) ?_
          refine lv_iconst (v := 1) hx hb dX12_chairsOn_139 ic_1 ?_
          refine lv_iadd hx hb dX12_chairsOn_140 ?_
          refine W.eq (g2 := F0 m 141 ls [.int 7, .ref (h 0)]) (by rw [show (6 + 1 : Int32) = 7 from by decide]) ?_
          refine lv_iload hx hb dX12_chairsOn_141 (lv_at hl 5 rfl) ?_
          refine lv_iload_n hx hb dX12_chairsOn_143 rfl (lv_at hl 2 rfl) ?_
          refine lv_icmp_ne (tgt := 153) hx hb dX12_chairsOn_144 (by decide) (fun c => ?_) (fun c => ?_)
          · skip
            have c_44 : y5_116.toInt ≠ x1.toInt := (by first | exact (bn_ne c) | (have z := bn_ne c; omega))
            refine lv_iload_n hx hb dX12_chairsOn_153 rfl (lv_at hl 2 rfl) ?_
            refine lv_iload_n hx hb dX12_chairsOn_154 rfl (lv_at hl 3 rfl) ?_
            refine lv_iload hx hb dX12_chairsOn_155 (lv_at hl 4 rfl) ?_
            have q_46 : (f_43 0 6).toInt = v_36.toInt := (congrArg Int32.toInt (show f_43 0 6 = v_36 from (by rw [ef_43, sg_up_n (by decide)]; exact ev_36.symm)))
            refine sg_callv (va_runV (As := [.int 7, .int x1, .int x2, .int x3]) (rest := []) ⟨hx, hb, hml, hown, hts⟩ (kX12_chairsOn_7 l D ca za h hh f_43 L Q hI x1 x2 x3 ⟨by omega, by omega⟩ b2 b3 (by have k0 : (7 : Int32).toInt = 7 := ti_7; omega) H.size) (sl_c12_chairsOn_3_0_0_73_12 hts ⟨Nat.le_of_ble_eq_true rfl, Nat.le_of_ble_eq_true rfl⟩) (sl_vM_0 hA hK hP hS hZ) rfl rfl hl.1 rfl (lv_room (Nat.le_of_ble_eq_true rfl)) dX12_chairsOn_157 ⟨Nat.le_refl _, Nat.le_refl _⟩) hA hS (fun f_48 L_49 Q_50 H locs hq hP hS => ?_)
            obtain ⟨⟨hI, hk_f_48, eL9, eQ9⟩, u_51⟩ := hq
            rw [eL9, eQ9] at hP; clear eL9 eQ9
            have hF : sgK WkX12_chairsOn_6 f f_48 := sgK.tr hF hk_f_48 (by decide +kernel)
            obtain ⟨v_52, ev_52⟩ : ∃ z : Int32, z = y5_116 + 1 := ⟨_, rfl⟩
            have q_53 : v_52.toInt = y5_116.toInt + 1 := by rw [ev_52]; exact (bn_addc y5_116 1 (by decide) (by omega) (by omega))
            refine lv_iinc (v := v_52) (lv' := [(5, .int v_52), (0, .ref (h 0)), (1, .int 6), (2, .int x1), (3, .int x2), (4, .int x3)]) hx hb dX12_chairsOn_160 hl (k := 5) rfl (by rw [ev_52]; rfl) (by decide) rfl (fun ls hl => ?_)
            refine lv_goto (tgt := 116) hx hb dX12_chairsOn_163 (by decide) ?_
            exact ih_116 v_52 f_48 _ _ _ (hs.trans ((if_neg c_44).trans (spl_e u_51 (spl_e ev_52 rfl)))) (by omega) (by have zz0_6 : (f_48 0 6).toInt = v_36.toInt := (congrArg Int32.toInt (show f_48 0 6 = v_36 from ((hk_f_48 0 6 (by decide)).trans (by rw [ef_43, sg_up_n (by decide)]; exact ev_36.symm)))); exact ⟨by omega, by omega⟩) ⟨by omega, by omega⟩ hI hF hP hS (lv_sub hl [1, 2, 3, 4, 5, 0] rfl)
          · skip
            have c_45 : y5_116.toInt = x1.toInt := (by first | exact (Int32.toInt_inj.mpr c) | (have z := Int32.toInt_inj.mpr c; omega))
            refine lv_iload_n hx hb dX12_chairsOn_147 rfl (lv_at hl 2 rfl) ?_
            refine lv_iconst (v := 1) hx hb dX12_chairsOn_148 ic_1 ?_
            refine lv_iadd hx hb dX12_chairsOn_149 ?_
            refine lv_topi (fun v_54 ev_54 => ?_)
            have q_55 : v_54.toInt = x1.toInt + 1 := by rw [ev_54]; first | exact cm_add ti_1 (by omega) (by omega) | (have k1 : (1 : Int32).toInt = 1 := ti_1; exact (bn_addI (by omega) (by omega)).trans (by omega))
            refine lv_goto (tgt := 154) hx hb dX12_chairsOn_150 (by decide) ?_
            refine lv_iload_n hx hb dX12_chairsOn_154 rfl (lv_at hl 3 rfl) ?_
            refine lv_iload hx hb dX12_chairsOn_155 (lv_at hl 4 rfl) ?_
            have q_56 : (f_43 0 6).toInt = v_36.toInt := (congrArg Int32.toInt (show f_43 0 6 = v_36 from (by rw [ef_43, sg_up_n (by decide)]; exact ev_36.symm)))
            refine sg_callv (va_runV (As := [.int 7, .int v_54, .int x2, .int x3]) (rest := []) ⟨hx, hb, hml, hown, hts⟩ (kX12_chairsOn_7 l D ca za h hh f_43 L Q hI v_54 x2 x3 ⟨by omega, by omega⟩ b2 b3 (by have k0 : (7 : Int32).toInt = 7 := ti_7; omega) H.size) (sl_c12_chairsOn_3_0_0_73_12 hts ⟨Nat.le_of_ble_eq_true rfl, Nat.le_of_ble_eq_true rfl⟩) (sl_vM_0 hA hK hP hS hZ) rfl rfl hl.1 rfl (lv_room (Nat.le_of_ble_eq_true rfl)) dX12_chairsOn_157 ⟨Nat.le_refl _, Nat.le_refl _⟩) hA hS (fun f_58 L_59 Q_60 H locs hq hP hS => ?_)
            obtain ⟨⟨hI, hk_f_58, eL9, eQ9⟩, u_61⟩ := hq
            rw [eL9, eQ9] at hP; clear eL9 eQ9
            have hF : sgK WkX12_chairsOn_6 f f_58 := sgK.tr hF hk_f_58 (by decide +kernel)
            obtain ⟨v_62, ev_62⟩ : ∃ z : Int32, z = y5_116 + 1 := ⟨_, rfl⟩
            have q_63 : v_62.toInt = y5_116.toInt + 1 := by rw [ev_62]; exact (bn_addc y5_116 1 (by decide) (by omega) (by omega))
            refine lv_iinc (v := v_62) (lv' := [(5, .int v_62), (0, .ref (h 0)), (1, .int 6), (2, .int x1), (3, .int x2), (4, .int x3)]) hx hb dX12_chairsOn_160 hl (k := 5) rfl (by rw [ev_62]; rfl) (by decide) rfl (fun ls hl => ?_)
            refine lv_goto (tgt := 116) hx hb dX12_chairsOn_163 (by decide) ?_
            exact ih_116 v_62 f_58 _ _ _ (hs.trans ((if_pos c_45).trans (spl_e ev_54 (spl_e u_61 (spl_e ev_62 rfl))))) (by omega) (by have zz0_6 : (f_58 0 6).toInt = v_36.toInt := (congrArg Int32.toInt (show f_58 0 6 = v_36 from ((hk_f_58 0 6 (by decide)).trans (by rw [ef_43, sg_up_n (by decide)]; exact ev_36.symm)))); exact ⟨by omega, by omega⟩) ⟨by omega, by omega⟩ hI hF hP hS (lv_sub hl [1, 2, 3, 4, 5, 0] rfl)
  refine lv_iload_n hx hb dX12_chairsOn_0 rfl (lv_at hl 1 rfl) ?_
  refine lv_aload_n hx hb dX12_chairsOn_1 rfl (lv_at hl 0 rfl) ?_
  refine sl_gM_0_6_12 (v := v_1) hx hb hts hown hK hP (show f 0 6 = v_1 from ev_1.symm) dX12_chairsOn_2 ?_
  refine lv_icmp_ne (tgt := 93) hx hb dX12_chairsOn_5 (by decide) (fun c => ?_) (fun c => ?_)
  · skip
    have c_64 : 6 ≠ v_1.toInt := (by first | exact (cm_ne0 ti_6 c) | (have z := bn_ne c; have k0 : (6 : Int32).toInt = 6 := ti_6; omega))
    refine lv_iload_n hx hb dX12_chairsOn_93 rfl (lv_at hl 3 rfl) ?_
    refine lv_iload_n hx hb dX12_chairsOn_94 rfl (lv_at hl 1 rfl) ?_
    refine sg_calli (va_runS (As := [.int x2, .int 6]) (rest := []) ⟨hx, hb, hml, hown, hts⟩ (kX12_isIn l D ca za h hh f L Q hI x2 6 ⟨by omega, by omega⟩ (by decide) H.size) (va_cwS 2 hts (gw_S (fun _ h => List.mem_cons_of_mem _ h) mw_832 mw_833 mw_619 mw_831) rfl rfl rfl hd_yX12_isIn.2 ⟨Nat.le_of_ble_eq_true rfl, Nat.le_of_ble_eq_true rfl⟩) (sg_preS hA hK hP hS hZ) rfl rfl hl.1 rfl (lv_room (Nat.le_of_ble_eq_true rfl)) dX12_chairsOn_95 ⟨Nat.le_refl _, Nat.le_refl _⟩) hA hS (fun r_69 f_66 L_67 Q_68 H locs hq hP hS => ?_)
    obtain ⟨⟨ef9, eL9, eQ9⟩, hq, u_70⟩ := hq
    replace hs := hs.trans ((if_neg c_64).trans (spl_e u_70 rfl))
    rw [ef9, eL9, eQ9] at hP; clear ef9 eL9 eQ9
    refine lv_if_ne (tgt := 113) hx hb dX12_chairsOn_98 (by decide) (fun c => ?_) (fun c => ?_)
    · skip
      have c_71 : r_69.toInt ≠ 0 := (by first | exact (cm_ne1 ti_0 c) | (have z := bn_ne c; have k1 : (0 : Int32).toInt = 0 := ti_0; omega))
      refine lv_iconst (v := 0) hx hb dX12_chairsOn_113 ic_0 ?_
      refine lv_istore (lv' := [(5, .int 0), (0, .ref (h 0)), (1, .int 6), (2, .int x1), (3, .int x2), (4, .int x3)]) hx hb dX12_chairsOn_114 hl (by decide) rfl (fun ls hl => ?_)
      exact loop_116 8 0 f _ _ _ (hs.trans ((if_neg c_71).trans rfl)) (by have kc0 : (0 : Int32).toInt = 0 := ti_0; omega) (by have zz0_6 : (f 0 6).toInt = v_1.toInt := (congrArg Int32.toInt (show f 0 6 = v_1 from ev_1.symm)); exact ⟨by omega, by omega⟩) (by decide) hI hF hP hS (lv_sub hl [1, 2, 3, 4, 5, 0] rfl)
    · skip
      have c_72 : r_69.toInt = 0 := (by first | exact (cm_eq1 ti_0 c) | (have z := Int32.toInt_inj.mpr c; have k1 : (0 : Int32).toInt = 0 := ti_0; omega))
      refine lv_aload_n hx hb dX12_chairsOn_101 rfl (lv_at hl 0 rfl) ?_
      refine lv_iload_n hx hb dX12_chairsOn_102 rfl (lv_at hl 1 rfl) ?_
      refine lv_iconst (v := 1) hx hb dX12_chairsOn_103 ic_1 ?_
      refine lv_iadd hx hb dX12_chairsOn_104 ?_
      refine W.eq (g2 := F0 m 105 ls [.int 7, .ref (h 0)]) (by rw [show (6 + 1 : Int32) = 7 from by decide]) ?_
      refine lv_iload_n hx hb dX12_chairsOn_105 rfl (lv_at hl 2 rfl) ?_
      refine lv_iload_n hx hb dX12_chairsOn_106 rfl (lv_at hl 3 rfl) ?_
      refine lv_iload hx hb dX12_chairsOn_107 (lv_at hl 4 rfl) ?_
      have q_73 : (f 0 6).toInt = v_1.toInt := (congrArg Int32.toInt (show f 0 6 = v_1 from ev_1.symm))
      refine sg_callv (va_runV (As := [.int 7, .int x1, .int x2, .int x3]) (rest := []) ⟨hx, hb, hml, hown, hts⟩ (kX12_chairsOn_7 l D ca za h hh f L Q hI x1 x2 x3 ⟨by omega, by omega⟩ b2 b3 (by have k0 : (7 : Int32).toInt = 7 := ti_7; omega) H.size) (sl_c12_chairsOn_3_0_0_73_12 hts ⟨Nat.le_of_ble_eq_true rfl, Nat.le_of_ble_eq_true rfl⟩) (sl_vM_0 hA hK hP hS hZ) rfl rfl hl.1 rfl (lv_room (Nat.le_of_ble_eq_true rfl)) dX12_chairsOn_109 ⟨Nat.le_refl _, Nat.le_refl _⟩) hA hS (fun f_75 L_76 Q_77 H locs hq hP hS => ?_)
      obtain ⟨⟨hI, hk_f_75, eL9, eQ9⟩, u_78⟩ := hq
      rw [eL9, eQ9] at hP; clear eL9 eQ9
      have hF : sgK WkX12_chairsOn_6 f f_75 := sgK.tr hF hk_f_75 (by decide +kernel)
      exact hret _ _ _ _ f_75 L Q dX12_chairsOn_112 hP hS ⟨⟨hI, hF, rfl, rfl⟩, (Eq.trans (Eq.symm (hs.trans ((if_pos c_72).trans (spl_e u_78 rfl)))) hsp)⟩
  · skip
    have c_65 : 6 = v_1.toInt := (by first | exact (cm_eq0 ti_6 c) | (have z := Int32.toInt_inj.mpr c; have k0 : (6 : Int32).toInt = 6 := ti_6; omega))
    refine lv_iconst (v := 0) hx hb dX12_chairsOn_8 ic_0 ?_
    refine lv_istore (lv' := [(5, .int 0), (0, .ref (h 0)), (1, .int 6), (2, .int x1), (3, .int x2), (4, .int x3)]) hx hb dX12_chairsOn_9 hl (by decide) rfl (fun ls hl => ?_)
    refine lv_iconst (v := 0) hx hb dX12_chairsOn_11 ic_0 ?_
    refine lv_istore (lv' := [(6, .int 0), (5, .int 0), (0, .ref (h 0)), (1, .int 6), (2, .int x1), (3, .int x2), (4, .int x3)]) hx hb dX12_chairsOn_12 hl (by decide) rfl (fun ls hl => ?_)
    exact loop_14 7 0 0 f _ _ _ (hs.trans ((if_pos c_65).trans rfl)) (by have kc0 : (0 : Int32).toInt = 0 := ti_0; have kc1 : (0 : Int32).toInt = 0 := ti_0; omega) (by have zz0_6 : (f 0 6).toInt = v_1.toInt := (congrArg Int32.toInt (show f 0 6 = v_1 from ev_1.symm)); exact ⟨by omega, by omega⟩) (by decide) hI hF hP hS (lv_sub hl [2, 4, 5, 1, 0] rfl)

abbrev WkX12_chairsOn_5 : List (Nat × Nat × Option Nat) := [(0, 0, some 35), (15, 15, none), (16, 16, none)]
set_option maxHeartbeats 4000000 in
set_option maxRecDepth 100000 in
theorem kX12_chairsOn_5 (l : Launch) (D : va_G) (ca : Nat → ClassId) (za h : Nat → Nat) (hh : sgH 26 h) (f : sg_F) (L : sg_L) (Q : sg_Q) (hI : sgI loM hiM f) (x1 : Int32) (x2 : Int32) (x3 : Int32) (b1 : 0 ≤ x1.toInt ∧ x1.toInt ≤ 5) (b2 : 0 ≤ x2.toInt ∧ x2.toInt ≤ 255) (b3 : 0 ≤ x3.toInt ∧ x3.toInt ≤ 9) (p0 : 5 ≤ (f 0 6).toInt ∧ (f 0 6).toInt ≤ 8) (sz : Nat) : Met l yX12_chairsOn gwX12_chairsOn { frames := 5, cells := 0, slots := 0, locals := 125 } (sgP D vwCl (tyX ca) 26 h (eM ca h) zcM za f L Q sz [.ref (h 0), .int 5, .int x1, .int x2, .int x3]) (sgQv D vwCl 26 h (eM ca h) sz (fun f1 L1 Q1 => ((sgI loM hiM f1 ∧ sgK WkX12_chairsOn_5 f f1 ∧ L1 = L ∧ Q1 = Q) ∧ (f1) = sX12_chairsOn_5 x1 x2 x3 f L))) 0 0 (sgA 26 h sz) := by
  refine sg_ofWv (cc := cX12_chairsOn) (maxL := 7) RX12 (by decide) rfl rfl (Nat.le_of_ble_eq_true rfl) ?_
  intro p e s m below meth cd Qz ls hx hb hml hown hts hK hZ hP hS hl hret
  have hA := sgY.self (n := 26) (h := h) (sz := s.heap.size)
  have hl : lv_has ls 7 [(0, .ref (h 0)), (1, .int 5), (2, .int x1), (3, .int x2), (4, .int x3)] := hl
  obtain ⟨H, hH⟩ : ∃ z : Heap, z = s.heap := ⟨_, rfl⟩
  obtain ⟨locs, hlo⟩ : ∃ z : List Loc, z = [] := ⟨_, rfl⟩
  have hP : va_P D vwCl (sgw 26 h (eM ca h) f L Q) H := by rw [hH]; exact hP
  have hS : va_S (sgA 26 h s.heap.size) s.heap H locs := by rw [hH, hlo]; exact hS
  suffices hgo : W p l e ({ frames := 5, cells := 0, slots := 0, locals := 125 }) s m ([.ref (h 0), .int 5, .int x1, .int x2, .int x3] : List Value).toArray below meth cd H locs 0 0 Qz (F0 m 0 ls []) by rw [hH, hlo] at hgo; exact hgo
  clear hH hlo
  obtain ⟨sp, hsp⟩ : ∃ z : sg_F, z = sX12_chairsOn_5 x1 x2 x3 f L := ⟨_, rfl⟩
  have hs : sp = sX12_chairsOn_5 x1 x2 x3 f L := hsp
  obtain ⟨v_1, ev_1⟩ : ∃ z : Int32, z = f 0 6 := ⟨_, rfl⟩
  replace hs := hs.trans (spl_e ev_1 rfl)
  have q_2 : 0 ≤ v_1.toInt ∧ v_1.toInt ≤ 8 := by rw [ev_1]; exact hI 0 6
  have o_3 : (f 0 6).toInt = v_1.toInt := (congrArg Int32.toInt (show f 0 6 = v_1 from ev_1.symm))
  have hF : sgK WkX12_chairsOn_5 f f := sgK.rf
  have loop_63 : ∀ (n_63 : Nat) (y6_63 : Int32) (fp_63 : sg_F) (H : Heap) (locs : List Loc) (ls : Array Slot), sp = sX12_chairsOn_5_l63 x1 x2 x3 n_63 y6_63 fp_63 L → 5 - y6_63.toInt < (n_63 : Int) → 5 ≤ (fp_63 0 6).toInt ∧ (fp_63 0 6).toInt ≤ 5 → 0 ≤ y6_63.toInt ∧ y6_63.toInt ≤ 5 → sgI loM hiM fp_63 → sgK WkX12_chairsOn_5 f fp_63 → va_P D vwCl (sgw 26 h (eM ca h) fp_63 L Q) H → va_S (sgA 26 h s.heap.size) s.heap H locs → lv_has ls 7 [(0, .ref (h 0)), (6, .int y6_63)] → W p l e ({ frames := 5, cells := 0, slots := 0, locals := 125 }) s m ([.ref (h 0), .int 5, .int x1, .int x2, .int x3] : List Value).toArray below meth cd H locs 0 0 Qz (F0 m 63 ls []) := by
    intro n_63
    induction n_63 with
    | zero => intro y6_63 fp_63 H locs ls hs hm_63 hy0_63 hy1_63 hI hF hP hS hl; exact absurd hm_63 (by omega)
    | succ n_63 ih_63 =>
      intro y6_63 fp_63 H locs ls hs hm_63 hy0_63 hy1_63 hI hF hP hS hl
      have hs : sp = sX12_chairsOn_5_h63 x1 x2 x3 (sX12_chairsOn_5_l63 x1 x2 x3 n_63) y6_63 fp_63 L := hs
      obtain ⟨v_4, ev_4⟩ : ∃ z : Int32, z = fp_63 0 6 := ⟨_, rfl⟩
      replace hs := hs.trans (spl_e ev_4 rfl)
      have q_5 : 0 ≤ v_4.toInt ∧ v_4.toInt ≤ 8 := by rw [ev_4]; exact hI 0 6
      have q_6 : (fp_63 0 6).toInt = v_4.toInt := by rw [ev_4]
      refine lv_iload hx hb dX12_chairsOn_63 (lv_at hl 1 rfl) ?_
      refine lv_aload_n hx hb dX12_chairsOn_65 rfl (lv_at hl 0 rfl) ?_
      refine sl_gM_0_6_12 (v := v_4) hx hb hts hown hK hP (show fp_63 0 6 = v_4 from ev_4.symm) dX12_chairsOn_66 ?_
      refine lv_icmp_ge (tgt := 92) hx hb dX12_chairsOn_69 (by decide) (fun c => ?_) (fun c => ?_)
      · skip
        have c_7 : v_4.toInt ≤ y6_63.toInt := (by first | exact (bn_le c) | (have z := bn_le c; omega))
        exact hret _ _ _ _ fp_63 L Q dX12_chairsOn_92 hP hS ⟨⟨hI, hF, rfl, rfl⟩, (Eq.trans (Eq.symm (hs.trans ((if_neg (Int.not_lt.mpr c_7)).trans rfl))) hsp)⟩
      · skip
        have c_8 : y6_63.toInt < v_4.toInt := (by first | exact (bn_nle c) | (have z := bn_nle c; omega))
        refine lv_aload_n hx hb dX12_chairsOn_72 rfl (lv_at hl 0 rfl) ?_
        refine sl_gM_0_34_12 hx hb hts hown hK hP dX12_chairsOn_73 ?_
        refine lv_iload hx hb dX12_chairsOn_76 (lv_at hl 1 rfl) ?_
        refine lv_aload_n hx hb dX12_chairsOn_78 rfl (lv_at hl 0 rfl) ?_
        refine sl_gM_0_33_12 hx hb hts hown hK hP dX12_chairsOn_79 ?_
        refine lv_iload hx hb dX12_chairsOn_82 (lv_at hl 1 rfl) ?_
        refine sg_iald hx hb hK hP 15 (by decide) 0 rfl rfl (i := y6_63) (vp_in_iff.mpr ⟨by omega, by omega⟩) dX12_chairsOn_84 ?_
        refine lv_topi (fun v_9 ev_9 => ?_)
        have q_10 : 0 ≤ v_9.toInt ∧ v_9.toInt ≤ 7 := by rw [ev_9]; exact hI 15 _
        refine sg_iast hx hb hh hA hK hP hS 16 (by decide) 0 (fun _ => rfl) rfl (i := y6_63) (x := v_9) (vp_in_iff.mpr ⟨by omega, by omega⟩) dX12_chairsOn_85 (fun f_11 H locs ef_11 hP hS => ?_)
        have hI : sgI loM hiM f_11 := by rw [ef_11]; exact sgI.put hI 16 y6_63.toNatClampNeg (show 0 ≤ (v_9 : Int32).toInt ∧ (v_9 : Int32).toInt ≤ 7 from q_10)
        have hF : sgK WkX12_chairsOn_5 f f_11 := sgK.put hF ef_11 (by rfl)
        obtain ⟨v_12, ev_12⟩ : ∃ z : Int32, z = y6_63 + 1 := ⟨_, rfl⟩
        have q_13 : v_12.toInt = y6_63.toInt + 1 := by rw [ev_12]; exact (bn_addc y6_63 1 (by decide) (by omega) (by omega))
        refine lv_iinc (v := v_12) (lv' := [(6, .int v_12), (0, .ref (h 0))]) hx hb dX12_chairsOn_86 hl (k := 1) rfl (by rw [ev_12]; rfl) (by decide) rfl (fun ls hl => ?_)
        refine lv_goto (tgt := 63) hx hb dX12_chairsOn_89 (by decide) ?_
        exact ih_63 v_12 f_11 _ _ _ (hs.trans ((if_pos c_8).trans (spl_e ev_9 (spl_e ef_11 (spl_e ev_12 rfl))))) (by omega) (by have zz0_6 : (f_11 0 6).toInt = v_4.toInt := (congrArg Int32.toInt (show f_11 0 6 = v_4 from (by rw [ef_11, sg_up_n (by decide)]; exact ev_4.symm))); exact ⟨by omega, by omega⟩) ⟨by omega, by omega⟩ hI hF hP hS (lv_sub hl [1, 0] rfl)
  have blk_54 : ∀ (y5_54 : Int32) (fp_54 : sg_F) (H : Heap) (locs : List Loc) (ls : Array Slot), sp = sX12_chairsOn_5_b54 x1 x2 x3 y5_54 fp_54 L → 5 ≤ (fp_54 0 6).toInt ∧ (fp_54 0 6).toInt ≤ 5 → sgI loM hiM fp_54 → sgK WkX12_chairsOn_5 f fp_54 → va_P D vwCl (sgw 26 h (eM ca h) fp_54 L Q) H → va_S (sgA 26 h s.heap.size) s.heap H locs → lv_has ls 7 [(0, .ref (h 0)), (5, .int y5_54)] → W p l e ({ frames := 5, cells := 0, slots := 0, locals := 125 }) s m ([.ref (h 0), .int 5, .int x1, .int x2, .int x3] : List Value).toArray below meth cd H locs 0 0 Qz (F0 m 54 ls []) := by
    intro y5_54 fp_54 H locs ls hs hy0_54 hI hF hP hS hl
    obtain ⟨v_14, ev_14⟩ : ∃ z : Int32, z = fp_54 0 6 := ⟨_, rfl⟩
    have q_15 : 0 ≤ v_14.toInt ∧ v_14.toInt ≤ 8 := by rw [ev_14]; exact hI 0 6
    have q_16 : (fp_54 0 6).toInt = v_14.toInt := by rw [ev_14]
    refine lv_aload_n hx hb dX12_chairsOn_54 rfl (lv_at hl 0 rfl) ?_
    refine lv_iload hx hb dX12_chairsOn_55 (lv_at hl 1 rfl) ?_
    refine sl_pM_0_35_12 (x := y5_54) hx hb hts hown hh hA hK hP hS dX12_chairsOn_57 (fun f_17 H locs ef_17 hP hS => ?_)
    have hI : sgI loM hiM f_17 := by rw [ef_17]; exact sgI.put hI 0 35 (bn_top _)
    have hF : sgK WkX12_chairsOn_5 f f_17 := sgK.put hF ef_17 (by rfl)
    refine lv_iconst (v := 0) hx hb dX12_chairsOn_60 ic_0 ?_
    refine lv_istore (lv' := [(6, .int 0), (0, .ref (h 0)), (5, .int y5_54)]) hx hb dX12_chairsOn_61 hl (by decide) rfl (fun ls hl => ?_)
    exact loop_63 6 0 f_17 _ _ _ (hs.trans ((spl_e ev_14 (spl_e ef_17 rfl)))) (by have kc0 : (0 : Int32).toInt = 0 := ti_0; omega) (by have zz0_6 : (f_17 0 6).toInt = v_14.toInt := (congrArg Int32.toInt (show f_17 0 6 = v_14 from (by rw [ef_17, sg_up_s, sgu_n (by decide)]; exact ev_14.symm))); exact ⟨by omega, by omega⟩) (by decide) hI hF hP hS (lv_sub hl [1, 0] rfl)
  have loop_14 : ∀ (n_14 : Nat) (y5_14 : Int32) (y6_14 : Int32) (fp_14 : sg_F) (H : Heap) (locs : List Loc) (ls : Array Slot), sp = sX12_chairsOn_5_l14 x1 x2 x3 n_14 y5_14 y6_14 fp_14 L → 5 - y6_14.toInt < (n_14 : Int) → 5 ≤ (fp_14 0 6).toInt ∧ (fp_14 0 6).toInt ≤ 5 → 0 ≤ y6_14.toInt ∧ y6_14.toInt ≤ 5 → sgI loM hiM fp_14 → sgK WkX12_chairsOn_5 f fp_14 → va_P D vwCl (sgw 26 h (eM ca h) fp_14 L Q) H → va_S (sgA 26 h s.heap.size) s.heap H locs → lv_has ls 7 [(0, .ref (h 0)), (2, .int x1), (3, .int x2), (5, .int y5_14), (6, .int y6_14)] → W p l e ({ frames := 5, cells := 0, slots := 0, locals := 125 }) s m ([.ref (h 0), .int 5, .int x1, .int x2, .int x3] : List Value).toArray below meth cd H locs 0 0 Qz (F0 m 14 ls []) := by
    intro n_14
    induction n_14 with
    | zero => intro y5_14 y6_14 fp_14 H locs ls hs hm_14 hy0_14 hy1_14 hI hF hP hS hl; exact absurd hm_14 (by omega)
    | succ n_14 ih_14 =>
      intro y5_14 y6_14 fp_14 H locs ls hs hm_14 hy0_14 hy1_14 hI hF hP hS hl
      have hs : sp = sX12_chairsOn_5_h14 x1 x2 x3 (sX12_chairsOn_5_l14 x1 x2 x3 n_14) y5_14 y6_14 fp_14 L := hs
      obtain ⟨v_18, ev_18⟩ : ∃ z : Int32, z = fp_14 0 6 := ⟨_, rfl⟩
      replace hs := hs.trans (spl_e ev_18 rfl)
      have q_19 : 0 ≤ v_18.toInt ∧ v_18.toInt ≤ 8 := by rw [ev_18]; exact hI 0 6
      have q_20 : (fp_14 0 6).toInt = v_18.toInt := by rw [ev_18]
      refine lv_iload hx hb dX12_chairsOn_14 (lv_at hl 4 rfl) ?_
      refine lv_iload_n hx hb dX12_chairsOn_16 rfl (lv_at hl 1 rfl) ?_
      refine lv_icmp_ge (tgt := 38) hx hb dX12_chairsOn_17 (by decide) (fun c => ?_) (fun c => ?_)
      · skip
        have c_21 : x1.toInt ≤ y6_14.toInt := (by first | exact (bn_le c) | (have z := bn_le c; omega))
        refine lv_aload_n hx hb dX12_chairsOn_38 rfl (lv_at hl 0 rfl) ?_
        refine sl_gM_0_35_12 (v := (fp_14 0 35)) hx hb hts hown hK hP rfl dX12_chairsOn_39 ?_
        refine lv_topi (fun v_23 ev_23 => ?_)
        replace hs := hs.trans ((if_neg (Int.not_lt.mpr c_21)).trans (spl_e ev_23 rfl))
        refine lv_if_lt (tgt := 54) hx hb dX12_chairsOn_42 (by decide) (fun c => ?_) (fun c => ?_)
        · skip
          have c_24 : v_23.toInt < 0 := (by first | exact (cm_lt1 ti_0 c) | (have z := bn_lt c; have k1 : (0 : Int32).toInt = 0 := ti_0; omega))
          exact blk_54 y5_14 fp_14 _ _ _ (hs.trans ((if_pos c_24).trans rfl)) (by have zz0_6 : (fp_14 0 6).toInt = v_18.toInt := (congrArg Int32.toInt (show fp_14 0 6 = v_18 from ev_18.symm)); exact ⟨by omega, by omega⟩) hI hF hP hS (lv_sub hl [0, 3] rfl)
        · skip
          have c_25 : 0 ≤ v_23.toInt := (by first | exact (cm_nlt1 ti_0 c) | (have z := bn_nlt c; have k1 : (0 : Int32).toInt = 0 := ti_0; omega))
          replace hs := hs.trans ((if_neg (Int.not_lt.mpr c_25)).trans rfl)
          refine lv_iload hx hb dX12_chairsOn_45 (lv_at hl 3 rfl) ?_
          refine lv_aload_n hx hb dX12_chairsOn_47 rfl (lv_at hl 0 rfl) ?_
          refine sl_gM_0_35_12 (v := v_23) hx hb hts hown hK hP (show fp_14 0 35 = v_23 from ev_23.symm) dX12_chairsOn_48 ?_
          refine lv_icmp_ge (tgt := 92) hx hb dX12_chairsOn_51 (by decide) (fun c => ?_) (fun c => ?_)
          · skip
            have c_26 : v_23.toInt ≤ y5_14.toInt := (by first | exact (bn_le c) | (have z := bn_le c; omega))
            exact hret _ _ _ _ fp_14 L Q dX12_chairsOn_92 hP hS ⟨⟨hI, hF, rfl, rfl⟩, (Eq.trans (Eq.symm (hs.trans ((if_neg (Int.not_lt.mpr c_26)).trans rfl))) hsp)⟩
          · skip
            have c_27 : y5_14.toInt < v_23.toInt := (by first | exact (bn_nle c) | (have z := bn_nle c; omega))
            exact blk_54 y5_14 fp_14 _ _ _ (hs.trans ((if_pos c_27).trans rfl)) (by have zz0_6 : (fp_14 0 6).toInt = v_18.toInt := (congrArg Int32.toInt (show fp_14 0 6 = v_18 from ev_18.symm)); exact ⟨by omega, by omega⟩) hI hF hP hS (lv_sub hl [0, 3] rfl)
      · skip
        have c_22 : y6_14.toInt < x1.toInt := (by first | exact (bn_nle c) | (have z := bn_nle c; omega))
        refine lv_iload hx hb dX12_chairsOn_20 (lv_at hl 3 rfl) ?_
        refine lv_aload_n hx hb dX12_chairsOn_22 rfl (lv_at hl 0 rfl) ?_
        refine lv_iload_n hx hb dX12_chairsOn_23 rfl (lv_at hl 2 rfl) ?_
        refine lv_iload hx hb dX12_chairsOn_24 (lv_at hl 4 rfl) ?_
        refine sg_calli (va_runV (As := [.int x2, .int y6_14]) (rest := [.int y5_14]) ⟨hx, hb, hml, hown, hts⟩ (kX12_chairLoss l D ca za h hh fp_14 L Q hI x2 y6_14 b2 ⟨by omega, by omega⟩ H.size) (sl_c12_chairLoss_1_0_0_21_12 hts ⟨Nat.le_of_ble_eq_true rfl, Nat.le_of_ble_eq_true rfl⟩) (sl_vM_0 hA hK hP hS hZ) rfl rfl hl.1 rfl (lv_room (Nat.le_of_ble_eq_true rfl)) dX12_chairsOn_26 ⟨Nat.le_refl _, Nat.le_refl _⟩) hA hS (fun r_31 f_28 L_29 Q_30 H locs hq hP hS => ?_)
        obtain ⟨⟨ef9, eL9, eQ9⟩, hq, u_32⟩ := hq
        rw [ef9, eL9, eQ9] at hP; clear ef9 eL9 eQ9
        refine lv_iadd hx hb dX12_chairsOn_29 ?_
        refine lv_topi (fun v_33 ev_33 => ?_)
        refine lv_istore (lv' := [(5, .int v_33), (0, .ref (h 0)), (2, .int x1), (3, .int x2), (6, .int y6_14)]) hx hb dX12_chairsOn_30 hl (by decide) rfl (fun ls hl => ?_)
        obtain ⟨v_34, ev_34⟩ : ∃ z : Int32, z = y6_14 + 1 := ⟨_, rfl⟩
        have q_35 : v_34.toInt = y6_14.toInt + 1 := by rw [ev_34]; exact (bn_addc y6_14 1 (by decide) (by omega) (by omega))
        refine lv_iinc (v := v_34) (lv' := [(6, .int v_34), (5, .int v_33), (0, .ref (h 0)), (2, .int x1), (3, .int x2)]) hx hb dX12_chairsOn_32 hl (k := 4) rfl (by rw [ev_34]; rfl) (by decide) rfl (fun ls hl => ?_)
        refine lv_goto (tgt := 14) hx hb dX12_chairsOn_35 (by decide) ?_
        exact ih_14 v_33 v_34 fp_14 _ _ _ (hs.trans ((if_pos c_22).trans (spl_e u_32 (spl_e ev_33 (spl_e ev_34 rfl))))) (by omega) (by have zz0_6 : (fp_14 0 6).toInt = v_18.toInt := (congrArg Int32.toInt (show fp_14 0 6 = v_18 from ev_18.symm)); exact ⟨by omega, by omega⟩) ⟨by omega, by omega⟩ hI hF hP hS (lv_sub hl [2, 3, 4, 1, 0] rfl)
  have loop_116 : ∀ (n_116 : Nat) (y5_116 : Int32) (fp_116 : sg_F) (H : Heap) (locs : List Loc) (ls : Array Slot), sp = sX12_chairsOn_5_l116 x1 x2 x3 n_116 y5_116 fp_116 L → 6 - y5_116.toInt < (n_116 : Int) → 6 ≤ (fp_116 0 6).toInt ∧ (fp_116 0 6).toInt ≤ 8 → 0 ≤ y5_116.toInt ∧ y5_116.toInt ≤ 6 → sgI loM hiM fp_116 → sgK WkX12_chairsOn_5 f fp_116 → va_P D vwCl (sgw 26 h (eM ca h) fp_116 L Q) H → va_S (sgA 26 h s.heap.size) s.heap H locs → lv_has ls 7 [(0, .ref (h 0)), (1, .int 5), (2, .int x1), (3, .int x2), (4, .int x3), (5, .int y5_116)] → W p l e ({ frames := 5, cells := 0, slots := 0, locals := 125 }) s m ([.ref (h 0), .int 5, .int x1, .int x2, .int x3] : List Value).toArray below meth cd H locs 0 0 Qz (F0 m 116 ls []) := by
    intro n_116
    induction n_116 with
    | zero => intro y5_116 fp_116 H locs ls hs hm_116 hy0_116 hy1_116 hI hF hP hS hl; exact absurd hm_116 (by omega)
    | succ n_116 ih_116 =>
      intro y5_116 fp_116 H locs ls hs hm_116 hy0_116 hy1_116 hI hF hP hS hl
      have hs : sp = sX12_chairsOn_5_h116 x1 x2 x3 (sX12_chairsOn_5_l116 x1 x2 x3 n_116) y5_116 fp_116 L := hs
      obtain ⟨v_36, ev_36⟩ : ∃ z : Int32, z = fp_116 0 6 := ⟨_, rfl⟩
      replace hs := hs.trans (spl_e ev_36 rfl)
      have q_37 : 0 ≤ v_36.toInt ∧ v_36.toInt ≤ 8 := by rw [ev_36]; exact hI 0 6
      have q_38 : (fp_116 0 6).toInt = v_36.toInt := by rw [ev_36]
      refine lv_iload hx hb dX12_chairsOn_116 (lv_at hl 5 rfl) ?_
      refine lv_iload hx hb dX12_chairsOn_118 (lv_at hl 4 rfl) ?_
      refine lv_icmp_ge (tgt := 166) hx hb dX12_chairsOn_120 (by decide) (fun c => ?_) (fun c => ?_)
      · skip
        have c_39 : x3.toInt ≤ y5_116.toInt := (by first | exact (bn_le c) | (have z := bn_le c; omega))
        exact hret _ _ _ _ fp_116 L Q dX12_chairsOn_166 hP hS ⟨⟨hI, hF, rfl, rfl⟩, (Eq.trans (Eq.symm (hs.trans ((if_neg (Int.not_lt.mpr c_39)).trans rfl))) hsp)⟩
      · skip
        have c_40 : y5_116.toInt < x3.toInt := (by first | exact (bn_nle c) | (have z := bn_nle c; omega))
        replace hs := hs.trans ((if_pos c_40).trans rfl)
        refine lv_iload hx hb dX12_chairsOn_123 (lv_at hl 5 rfl) ?_
        refine lv_iload_n hx hb dX12_chairsOn_125 rfl (lv_at hl 2 rfl) ?_
        refine lv_icmp_gt (tgt := 166) hx hb dX12_chairsOn_126 (by decide) (fun c => ?_) (fun c => ?_)
        · skip
          have c_41 : x1.toInt < y5_116.toInt := (by first | exact (bn_lt c) | (have z := bn_lt c; omega))
          exact hret _ _ _ _ fp_116 L Q dX12_chairsOn_166 hP hS ⟨⟨hI, hF, rfl, rfl⟩, (Eq.trans (Eq.symm (hs.trans ((if_pos c_41).trans rfl))) hsp)⟩
        · skip
          have c_42 : y5_116.toInt ≤ x1.toInt := (by first | exact (bn_nlt c) | (have z := bn_nlt c; omega))
          refine lv_aload_n hx hb dX12_chairsOn_129 rfl (lv_at hl 0 rfl) ?_
          refine sl_gM_0_33_12 hx hb hts hown hK hP dX12_chairsOn_130 ?_
          refine lv_iload_n hx hb dX12_chairsOn_133 rfl (lv_at hl 1 rfl) ?_
          refine lv_iload hx hb dX12_chairsOn_134 (lv_at hl 5 rfl) ?_
          refine sg_iast hx hb hh hA hK hP hS 15 (by decide) 0 (fun _ => rfl) rfl (i := 5) (x := y5_116) (vp_in_iff.mpr (by decide)) dX12_chairsOn_136 (fun f_43 H locs ef_43 hP hS => ?_)
          replace hs := hs.trans ((if_neg (Int.not_lt.mpr c_42)).trans (spl_e ef_43 rfl))
          have hI : sgI loM hiM f_43 := by rw [ef_43]; exact sgI.put hI 15 (Int32.toNatClampNeg 5) (show 0 ≤ (y5_116 : Int32).toInt ∧ (y5_116 : Int32).toInt ≤ 7 from ⟨by omega, by omega⟩)
          have hF : sgK WkX12_chairsOn_5 f f_43 := sgK.put hF ef_43 (by rfl)
          refine lv_aload_n hx hb dX12_chairsOn_137 rfl (lv_at hl 0 rfl) ?_
          refine lv_iload_n hx hb dX12_chairsOn_138 rfl (lv_at hl 1 rfl) ?_
          refine lv_iconst (v := 1) hx hb dX12_chairsOn_139 ic_1 ?_
          refine lv_iadd hx hb dX12_chairsOn_140 ?_
          refine W.eq (g2 := F0 m 141 ls [.int 6, .ref (h 0)]) (by rw [show (5 + 1 : Int32) = 6 from by decide]) ?_
          refine lv_iload hx hb dX12_chairsOn_141 (lv_at hl 5 rfl) ?_
          refine lv_iload_n hx hb dX12_chairsOn_143 rfl (lv_at hl 2 rfl) ?_
          refine lv_icmp_ne (tgt := 153) hx hb dX12_chairsOn_144 (by decide) (fun c => ?_) (fun c => ?_)
          · skip
            have c_44 : y5_116.toInt ≠ x1.toInt := (by first | exact (bn_ne c) | (have z := bn_ne c; omega))
            refine lv_iload_n hx hb dX12_chairsOn_153 rfl (lv_at hl 2 rfl) ?_
            refine lv_iload_n hx hb dX12_chairsOn_154 rfl (lv_at hl 3 rfl) ?_
            refine lv_iload hx hb dX12_chairsOn_155 (lv_at hl 4 rfl) ?_
            have q_46 : (f_43 0 6).toInt = v_36.toInt := (congrArg Int32.toInt (show f_43 0 6 = v_36 from (by rw [ef_43, sg_up_n (by decide)]; exact ev_36.symm)))
            refine sg_callv (va_runV (As := [.int 6, .int x1, .int x2, .int x3]) (rest := []) ⟨hx, hb, hml, hown, hts⟩ (kX12_chairsOn_6 l D ca za h hh f_43 L Q hI x1 x2 x3 ⟨by omega, by omega⟩ b2 b3 (by have k0 : (6 : Int32).toInt = 6 := ti_6; omega) H.size) (sl_c12_chairsOn_4_0_0_99_12 hts ⟨Nat.le_of_ble_eq_true rfl, Nat.le_of_ble_eq_true rfl⟩) (sl_vM_0 hA hK hP hS hZ) rfl rfl hl.1 rfl (lv_room (Nat.le_of_ble_eq_true rfl)) dX12_chairsOn_157 ⟨Nat.le_refl _, Nat.le_refl _⟩) hA hS (fun f_48 L_49 Q_50 H locs hq hP hS => ?_)
            obtain ⟨⟨hI, hk_f_48, eL9, eQ9⟩, u_51⟩ := hq
            rw [eL9, eQ9] at hP; clear eL9 eQ9
            have hF : sgK WkX12_chairsOn_5 f f_48 := sgK.tr hF hk_f_48 (by decide +kernel)
            obtain ⟨v_52, ev_52⟩ : ∃ z : Int32, z = y5_116 + 1 := ⟨_, rfl⟩
            have q_53 : v_52.toInt = y5_116.toInt + 1 := by rw [ev_52]; exact (bn_addc y5_116 1 (by decide) (by omega) (by omega))
            refine lv_iinc (v := v_52) (lv' := [(5, .int v_52), (0, .ref (h 0)), (1, .int 5), (2, .int x1), (3, .int x2), (4, .int x3)]) hx hb dX12_chairsOn_160 hl (k := 5) rfl (by rw [ev_52]; rfl) (by decide) rfl (fun ls hl => ?_)
            refine lv_goto (tgt := 116) hx hb dX12_chairsOn_163 (by decide) ?_
            exact ih_116 v_52 f_48 _ _ _ (hs.trans ((if_neg c_44).trans (spl_e u_51 (spl_e ev_52 rfl)))) (by omega) (by have zz0_6 : (f_48 0 6).toInt = v_36.toInt := (congrArg Int32.toInt (show f_48 0 6 = v_36 from ((hk_f_48 0 6 (by decide)).trans (by rw [ef_43, sg_up_n (by decide)]; exact ev_36.symm)))); exact ⟨by omega, by omega⟩) ⟨by omega, by omega⟩ hI hF hP hS (lv_sub hl [1, 2, 3, 4, 5, 0] rfl)
          · skip
            have c_45 : y5_116.toInt = x1.toInt := (by first | exact (Int32.toInt_inj.mpr c) | (have z := Int32.toInt_inj.mpr c; omega))
            refine lv_iload_n hx hb dX12_chairsOn_147 rfl (lv_at hl 2 rfl) ?_
            refine lv_iconst (v := 1) hx hb dX12_chairsOn_148 ic_1 ?_
            refine lv_iadd hx hb dX12_chairsOn_149 ?_
            refine lv_topi (fun v_54 ev_54 => ?_)
            have q_55 : v_54.toInt = x1.toInt + 1 := by rw [ev_54]; first | exact cm_add ti_1 (by omega) (by omega) | (have k1 : (1 : Int32).toInt = 1 := ti_1; exact (bn_addI (by omega) (by omega)).trans (by omega))
            refine lv_goto (tgt := 154) hx hb dX12_chairsOn_150 (by decide) ?_
            refine lv_iload_n hx hb dX12_chairsOn_154 rfl (lv_at hl 3 rfl) ?_
            refine lv_iload hx hb dX12_chairsOn_155 (lv_at hl 4 rfl) ?_
            have q_56 : (f_43 0 6).toInt = v_36.toInt := (congrArg Int32.toInt (show f_43 0 6 = v_36 from (by rw [ef_43, sg_up_n (by decide)]; exact ev_36.symm)))
            refine sg_callv (va_runV (As := [.int 6, .int v_54, .int x2, .int x3]) (rest := []) ⟨hx, hb, hml, hown, hts⟩ (kX12_chairsOn_6 l D ca za h hh f_43 L Q hI v_54 x2 x3 ⟨by omega, by omega⟩ b2 b3 (by have k0 : (6 : Int32).toInt = 6 := ti_6; omega) H.size) (sl_c12_chairsOn_4_0_0_99_12 hts ⟨Nat.le_of_ble_eq_true rfl, Nat.le_of_ble_eq_true rfl⟩) (sl_vM_0 hA hK hP hS hZ) rfl rfl hl.1 rfl (lv_room (Nat.le_of_ble_eq_true rfl)) dX12_chairsOn_157 ⟨Nat.le_refl _, Nat.le_refl _⟩) hA hS (fun f_58 L_59 Q_60 H locs hq hP hS => ?_)
            obtain ⟨⟨hI, hk_f_58, eL9, eQ9⟩, u_61⟩ := hq
            rw [eL9, eQ9] at hP; clear eL9 eQ9
            have hF : sgK WkX12_chairsOn_5 f f_58 := sgK.tr hF hk_f_58 (by decide +kernel)
            obtain ⟨v_62, ev_62⟩ : ∃ z : Int32, z = y5_116 + 1 := ⟨_, rfl⟩
            have q_63 : v_62.toInt = y5_116.toInt + 1 := by rw [ev_62]; exact (bn_addc y5_116 1 (by decide) (by omega) (by omega))
            refine lv_iinc (v := v_62) (lv' := [(5, .int v_62), (0, .ref (h 0)), (1, .int 5), (2, .int x1), (3, .int x2), (4, .int x3)]) hx hb dX12_chairsOn_160 hl (k := 5) rfl (by rw [ev_62]; rfl) (by decide) rfl (fun ls hl => ?_)
            refine lv_goto (tgt := 116) hx hb dX12_chairsOn_163 (by decide) ?_
            exact ih_116 v_62 f_58 _ _ _ (hs.trans ((if_pos c_45).trans (spl_e ev_54 (spl_e u_61 (spl_e ev_62 rfl))))) (by omega) (by have zz0_6 : (f_58 0 6).toInt = v_36.toInt := (congrArg Int32.toInt (show f_58 0 6 = v_36 from ((hk_f_58 0 6 (by decide)).trans (by rw [ef_43, sg_up_n (by decide)]; exact ev_36.symm)))); exact ⟨by omega, by omega⟩) ⟨by omega, by omega⟩ hI hF hP hS (lv_sub hl [1, 2, 3, 4, 5, 0] rfl)
  refine lv_iload_n hx hb dX12_chairsOn_0 rfl (lv_at hl 1 rfl) ?_
  refine lv_aload_n hx hb dX12_chairsOn_1 rfl (lv_at hl 0 rfl) ?_
  refine sl_gM_0_6_12 (v := v_1) hx hb hts hown hK hP (show f 0 6 = v_1 from ev_1.symm) dX12_chairsOn_2 ?_
  refine lv_icmp_ne (tgt := 93) hx hb dX12_chairsOn_5 (by decide) (fun c => ?_) (fun c => ?_)
  · skip
    have c_64 : 5 ≠ v_1.toInt := (by first | exact (cm_ne0 ti_5 c) | (have z := bn_ne c; have k0 : (5 : Int32).toInt = 5 := ti_5; omega))
    refine lv_iload_n hx hb dX12_chairsOn_93 rfl (lv_at hl 3 rfl) ?_
    refine lv_iload_n hx hb dX12_chairsOn_94 rfl (lv_at hl 1 rfl) ?_
    refine sg_calli (va_runS (As := [.int x2, .int 5]) (rest := []) ⟨hx, hb, hml, hown, hts⟩ (kX12_isIn l D ca za h hh f L Q hI x2 5 ⟨by omega, by omega⟩ (by decide) H.size) (va_cwS 2 hts (gw_S (fun _ h => List.mem_cons_of_mem _ h) mw_832 mw_833 mw_619 mw_831) rfl rfl rfl hd_yX12_isIn.2 ⟨Nat.le_of_ble_eq_true rfl, Nat.le_of_ble_eq_true rfl⟩) (sg_preS hA hK hP hS hZ) rfl rfl hl.1 rfl (lv_room (Nat.le_of_ble_eq_true rfl)) dX12_chairsOn_95 ⟨Nat.le_refl _, Nat.le_refl _⟩) hA hS (fun r_69 f_66 L_67 Q_68 H locs hq hP hS => ?_)
    obtain ⟨⟨ef9, eL9, eQ9⟩, hq, u_70⟩ := hq
    replace hs := hs.trans ((if_neg c_64).trans (spl_e u_70 rfl))
    rw [ef9, eL9, eQ9] at hP; clear ef9 eL9 eQ9
    refine lv_if_ne (tgt := 113) hx hb dX12_chairsOn_98 (by decide) (fun c => ?_) (fun c => ?_)
    · skip
      have c_71 : r_69.toInt ≠ 0 := (by first | exact (cm_ne1 ti_0 c) | (have z := bn_ne c; have k1 : (0 : Int32).toInt = 0 := ti_0; omega))
      refine lv_iconst (v := 0) hx hb dX12_chairsOn_113 ic_0 ?_
      refine lv_istore (lv' := [(5, .int 0), (0, .ref (h 0)), (1, .int 5), (2, .int x1), (3, .int x2), (4, .int x3)]) hx hb dX12_chairsOn_114 hl (by decide) rfl (fun ls hl => ?_)
      exact loop_116 7 0 f _ _ _ (hs.trans ((if_neg c_71).trans rfl)) (by have kc0 : (0 : Int32).toInt = 0 := ti_0; omega) (by have zz0_6 : (f 0 6).toInt = v_1.toInt := (congrArg Int32.toInt (show f 0 6 = v_1 from ev_1.symm)); exact ⟨by omega, by omega⟩) (by decide) hI hF hP hS (lv_sub hl [1, 2, 3, 4, 5, 0] rfl)
    · skip
      have c_72 : r_69.toInt = 0 := (by first | exact (cm_eq1 ti_0 c) | (have z := Int32.toInt_inj.mpr c; have k1 : (0 : Int32).toInt = 0 := ti_0; omega))
      refine lv_aload_n hx hb dX12_chairsOn_101 rfl (lv_at hl 0 rfl) ?_
      refine lv_iload_n hx hb dX12_chairsOn_102 rfl (lv_at hl 1 rfl) ?_
      refine lv_iconst (v := 1) hx hb dX12_chairsOn_103 ic_1 ?_
      refine lv_iadd hx hb dX12_chairsOn_104 ?_
      refine W.eq (g2 := F0 m 105 ls [.int 6, .ref (h 0)]) (by rw [show (5 + 1 : Int32) = 6 from by decide]) ?_
      refine lv_iload_n hx hb dX12_chairsOn_105 rfl (lv_at hl 2 rfl) ?_
      refine lv_iload_n hx hb dX12_chairsOn_106 rfl (lv_at hl 3 rfl) ?_
      refine lv_iload hx hb dX12_chairsOn_107 (lv_at hl 4 rfl) ?_
      have q_73 : (f 0 6).toInt = v_1.toInt := (congrArg Int32.toInt (show f 0 6 = v_1 from ev_1.symm))
      refine sg_callv (va_runV (As := [.int 6, .int x1, .int x2, .int x3]) (rest := []) ⟨hx, hb, hml, hown, hts⟩ (kX12_chairsOn_6 l D ca za h hh f L Q hI x1 x2 x3 ⟨by omega, by omega⟩ b2 b3 (by have k0 : (6 : Int32).toInt = 6 := ti_6; omega) H.size) (sl_c12_chairsOn_4_0_0_99_12 hts ⟨Nat.le_of_ble_eq_true rfl, Nat.le_of_ble_eq_true rfl⟩) (sl_vM_0 hA hK hP hS hZ) rfl rfl hl.1 rfl (lv_room (Nat.le_of_ble_eq_true rfl)) dX12_chairsOn_109 ⟨Nat.le_refl _, Nat.le_refl _⟩) hA hS (fun f_75 L_76 Q_77 H locs hq hP hS => ?_)
      obtain ⟨⟨hI, hk_f_75, eL9, eQ9⟩, u_78⟩ := hq
      rw [eL9, eQ9] at hP; clear eL9 eQ9
      have hF : sgK WkX12_chairsOn_5 f f_75 := sgK.tr hF hk_f_75 (by decide +kernel)
      exact hret _ _ _ _ f_75 L Q dX12_chairsOn_112 hP hS ⟨⟨hI, hF, rfl, rfl⟩, (Eq.trans (Eq.symm (hs.trans ((if_pos c_72).trans (spl_e u_78 rfl)))) hsp)⟩
  · skip
    have c_65 : 5 = v_1.toInt := (by first | exact (cm_eq0 ti_5 c) | (have z := Int32.toInt_inj.mpr c; have k0 : (5 : Int32).toInt = 5 := ti_5; omega))
    refine lv_iconst (v := 0) hx hb dX12_chairsOn_8 ic_0 ?_
    refine lv_istore (lv' := [(5, .int 0), (0, .ref (h 0)), (1, .int 5), (2, .int x1), (3, .int x2), (4, .int x3)]) hx hb dX12_chairsOn_9 hl (by decide) rfl (fun ls hl => ?_)
    refine lv_iconst (v := 0) hx hb dX12_chairsOn_11 ic_0 ?_
    refine lv_istore (lv' := [(6, .int 0), (5, .int 0), (0, .ref (h 0)), (1, .int 5), (2, .int x1), (3, .int x2), (4, .int x3)]) hx hb dX12_chairsOn_12 hl (by decide) rfl (fun ls hl => ?_)
    exact loop_14 6 0 0 f _ _ _ (hs.trans ((if_pos c_65).trans rfl)) (by have kc0 : (0 : Int32).toInt = 0 := ti_0; have kc1 : (0 : Int32).toInt = 0 := ti_0; omega) (by have zz0_6 : (f 0 6).toInt = v_1.toInt := (congrArg Int32.toInt (show f 0 6 = v_1 from ev_1.symm)); exact ⟨by omega, by omega⟩) (by decide) hI hF hP hS (lv_sub hl [2, 4, 5, 1, 0] rfl)

abbrev WkX12_chairsOn_4 : List (Nat × Nat × Option Nat) := [(0, 0, some 35), (15, 15, none), (16, 16, none)]
set_option maxHeartbeats 4000000 in
set_option maxRecDepth 100000 in
theorem kX12_chairsOn_4 (l : Launch) (D : va_G) (ca : Nat → ClassId) (za h : Nat → Nat) (hh : sgH 26 h) (f : sg_F) (L : sg_L) (Q : sg_Q) (hI : sgI loM hiM f) (x1 : Int32) (x2 : Int32) (x3 : Int32) (b1 : 0 ≤ x1.toInt ∧ x1.toInt ≤ 4) (b2 : 0 ≤ x2.toInt ∧ x2.toInt ≤ 255) (b3 : 0 ≤ x3.toInt ∧ x3.toInt ≤ 9) (p0 : 4 ≤ (f 0 6).toInt ∧ (f 0 6).toInt ≤ 8) (sz : Nat) : Met l yX12_chairsOn gwX12_chairsOn { frames := 6, cells := 0, slots := 0, locals := 151 } (sgP D vwCl (tyX ca) 26 h (eM ca h) zcM za f L Q sz [.ref (h 0), .int 4, .int x1, .int x2, .int x3]) (sgQv D vwCl 26 h (eM ca h) sz (fun f1 L1 Q1 => ((sgI loM hiM f1 ∧ sgK WkX12_chairsOn_4 f f1 ∧ L1 = L ∧ Q1 = Q) ∧ (f1) = sX12_chairsOn_4 x1 x2 x3 f L))) 0 0 (sgA 26 h sz) := by
  refine sg_ofWv (cc := cX12_chairsOn) (maxL := 7) RX12 (by decide) rfl rfl (Nat.le_of_ble_eq_true rfl) ?_
  intro p e s m below meth cd Qz ls hx hb hml hown hts hK hZ hP hS hl hret
  have hA := sgY.self (n := 26) (h := h) (sz := s.heap.size)
  have hl : lv_has ls 7 [(0, .ref (h 0)), (1, .int 4), (2, .int x1), (3, .int x2), (4, .int x3)] := hl
  obtain ⟨H, hH⟩ : ∃ z : Heap, z = s.heap := ⟨_, rfl⟩
  obtain ⟨locs, hlo⟩ : ∃ z : List Loc, z = [] := ⟨_, rfl⟩
  have hP : va_P D vwCl (sgw 26 h (eM ca h) f L Q) H := by rw [hH]; exact hP
  have hS : va_S (sgA 26 h s.heap.size) s.heap H locs := by rw [hH, hlo]; exact hS
  suffices hgo : W p l e ({ frames := 6, cells := 0, slots := 0, locals := 151 }) s m ([.ref (h 0), .int 4, .int x1, .int x2, .int x3] : List Value).toArray below meth cd H locs 0 0 Qz (F0 m 0 ls []) by rw [hH, hlo] at hgo; exact hgo
  clear hH hlo
  obtain ⟨sp, hsp⟩ : ∃ z : sg_F, z = sX12_chairsOn_4 x1 x2 x3 f L := ⟨_, rfl⟩
  have hs : sp = sX12_chairsOn_4 x1 x2 x3 f L := hsp
  obtain ⟨v_1, ev_1⟩ : ∃ z : Int32, z = f 0 6 := ⟨_, rfl⟩
  replace hs := hs.trans (spl_e ev_1 rfl)
  have q_2 : 0 ≤ v_1.toInt ∧ v_1.toInt ≤ 8 := by rw [ev_1]; exact hI 0 6
  have o_3 : (f 0 6).toInt = v_1.toInt := (congrArg Int32.toInt (show f 0 6 = v_1 from ev_1.symm))
  have hF : sgK WkX12_chairsOn_4 f f := sgK.rf
  have loop_63 : ∀ (n_63 : Nat) (y6_63 : Int32) (fp_63 : sg_F) (H : Heap) (locs : List Loc) (ls : Array Slot), sp = sX12_chairsOn_4_l63 x1 x2 x3 n_63 y6_63 fp_63 L → 4 - y6_63.toInt < (n_63 : Int) → 4 ≤ (fp_63 0 6).toInt ∧ (fp_63 0 6).toInt ≤ 4 → 0 ≤ y6_63.toInt ∧ y6_63.toInt ≤ 4 → sgI loM hiM fp_63 → sgK WkX12_chairsOn_4 f fp_63 → va_P D vwCl (sgw 26 h (eM ca h) fp_63 L Q) H → va_S (sgA 26 h s.heap.size) s.heap H locs → lv_has ls 7 [(0, .ref (h 0)), (6, .int y6_63)] → W p l e ({ frames := 6, cells := 0, slots := 0, locals := 151 }) s m ([.ref (h 0), .int 4, .int x1, .int x2, .int x3] : List Value).toArray below meth cd H locs 0 0 Qz (F0 m 63 ls []) := by
    intro n_63
    induction n_63 with
    | zero => intro y6_63 fp_63 H locs ls hs hm_63 hy0_63 hy1_63 hI hF hP hS hl; exact absurd hm_63 (by omega)
    | succ n_63 ih_63 =>
      intro y6_63 fp_63 H locs ls hs hm_63 hy0_63 hy1_63 hI hF hP hS hl
      have hs : sp = sX12_chairsOn_4_h63 x1 x2 x3 (sX12_chairsOn_4_l63 x1 x2 x3 n_63) y6_63 fp_63 L := hs
      obtain ⟨v_4, ev_4⟩ : ∃ z : Int32, z = fp_63 0 6 := ⟨_, rfl⟩
      replace hs := hs.trans (spl_e ev_4 rfl)
      have q_5 : 0 ≤ v_4.toInt ∧ v_4.toInt ≤ 8 := by rw [ev_4]; exact hI 0 6
      have q_6 : (fp_63 0 6).toInt = v_4.toInt := by rw [ev_4]
      refine lv_iload hx hb dX12_chairsOn_63 (lv_at hl 1 rfl) ?_
      refine lv_aload_n hx hb dX12_chairsOn_65 rfl (lv_at hl 0 rfl) ?_
      refine sl_gM_0_6_12 (v := v_4) hx hb hts hown hK hP (show fp_63 0 6 = v_4 from ev_4.symm) dX12_chairsOn_66 ?_
      refine lv_icmp_ge (tgt := 92) hx hb dX12_chairsOn_69 (by decide) (fun c => ?_) (fun c => ?_)
      · skip
        have c_7 : v_4.toInt ≤ y6_63.toInt := (by first | exact (bn_le c) | (have z := bn_le c; omega))
        exact hret _ _ _ _ fp_63 L Q dX12_chairsOn_92 hP hS ⟨⟨hI, hF, rfl, rfl⟩, (Eq.trans (Eq.symm (hs.trans ((if_neg (Int.not_lt.mpr c_7)).trans rfl))) hsp)⟩
      · skip
        have c_8 : y6_63.toInt < v_4.toInt := (by first | exact (bn_nle c) | (have z := bn_nle c; omega))
        refine lv_aload_n hx hb dX12_chairsOn_72 rfl (lv_at hl 0 rfl) ?_
        refine sl_gM_0_34_12 hx hb hts hown hK hP dX12_chairsOn_73 ?_
        refine lv_iload hx hb dX12_chairsOn_76 (lv_at hl 1 rfl) ?_
        refine lv_aload_n hx hb dX12_chairsOn_78 rfl (lv_at hl 0 rfl) ?_
        refine sl_gM_0_33_12 hx hb hts hown hK hP dX12_chairsOn_79 ?_
        refine lv_iload hx hb dX12_chairsOn_82 (lv_at hl 1 rfl) ?_
        refine sg_iald hx hb hK hP 15 (by decide) 0 rfl rfl (i := y6_63) (vp_in_iff.mpr ⟨by omega, by omega⟩) dX12_chairsOn_84 ?_
        refine lv_topi (fun v_9 ev_9 => ?_)
        have q_10 : 0 ≤ v_9.toInt ∧ v_9.toInt ≤ 7 := by rw [ev_9]; exact hI 15 _
        refine sg_iast hx hb hh hA hK hP hS 16 (by decide) 0 (fun _ => rfl) rfl (i := y6_63) (x := v_9) (vp_in_iff.mpr ⟨by omega, by omega⟩) dX12_chairsOn_85 (fun f_11 H locs ef_11 hP hS => ?_)
        have hI : sgI loM hiM f_11 := by rw [ef_11]; exact sgI.put hI 16 y6_63.toNatClampNeg (show 0 ≤ (v_9 : Int32).toInt ∧ (v_9 : Int32).toInt ≤ 7 from q_10)
        have hF : sgK WkX12_chairsOn_4 f f_11 := sgK.put hF ef_11 (by rfl)
        obtain ⟨v_12, ev_12⟩ : ∃ z : Int32, z = y6_63 + 1 := ⟨_, rfl⟩
        have q_13 : v_12.toInt = y6_63.toInt + 1 := by rw [ev_12]; exact (bn_addc y6_63 1 (by decide) (by omega) (by omega))
        refine lv_iinc (v := v_12) (lv' := [(6, .int v_12), (0, .ref (h 0))]) hx hb dX12_chairsOn_86 hl (k := 1) rfl (by rw [ev_12]; rfl) (by decide) rfl (fun ls hl => ?_)
        refine lv_goto (tgt := 63) hx hb dX12_chairsOn_89 (by decide) ?_
        exact ih_63 v_12 f_11 _ _ _ (hs.trans ((if_pos c_8).trans (spl_e ev_9 (spl_e ef_11 (spl_e ev_12 rfl))))) (by omega) (by have zz0_6 : (f_11 0 6).toInt = v_4.toInt := (congrArg Int32.toInt (show f_11 0 6 = v_4 from (by rw [ef_11, sg_up_n (by decide)]; exact ev_4.symm))); exact ⟨by omega, by omega⟩) ⟨by omega, by omega⟩ hI hF hP hS (lv_sub hl [1, 0] rfl)
  have blk_54 : ∀ (y5_54 : Int32) (fp_54 : sg_F) (H : Heap) (locs : List Loc) (ls : Array Slot), sp = sX12_chairsOn_4_b54 x1 x2 x3 y5_54 fp_54 L → 4 ≤ (fp_54 0 6).toInt ∧ (fp_54 0 6).toInt ≤ 4 → sgI loM hiM fp_54 → sgK WkX12_chairsOn_4 f fp_54 → va_P D vwCl (sgw 26 h (eM ca h) fp_54 L Q) H → va_S (sgA 26 h s.heap.size) s.heap H locs → lv_has ls 7 [(0, .ref (h 0)), (5, .int y5_54)] → W p l e ({ frames := 6, cells := 0, slots := 0, locals := 151 }) s m ([.ref (h 0), .int 4, .int x1, .int x2, .int x3] : List Value).toArray below meth cd H locs 0 0 Qz (F0 m 54 ls []) := by
    intro y5_54 fp_54 H locs ls hs hy0_54 hI hF hP hS hl
    obtain ⟨v_14, ev_14⟩ : ∃ z : Int32, z = fp_54 0 6 := ⟨_, rfl⟩
    have q_15 : 0 ≤ v_14.toInt ∧ v_14.toInt ≤ 8 := by rw [ev_14]; exact hI 0 6
    have q_16 : (fp_54 0 6).toInt = v_14.toInt := by rw [ev_14]
    refine lv_aload_n hx hb dX12_chairsOn_54 rfl (lv_at hl 0 rfl) ?_
    refine lv_iload hx hb dX12_chairsOn_55 (lv_at hl 1 rfl) ?_
    refine sl_pM_0_35_12 (x := y5_54) hx hb hts hown hh hA hK hP hS dX12_chairsOn_57 (fun f_17 H locs ef_17 hP hS => ?_)
    have hI : sgI loM hiM f_17 := by rw [ef_17]; exact sgI.put hI 0 35 (bn_top _)
    have hF : sgK WkX12_chairsOn_4 f f_17 := sgK.put hF ef_17 (by rfl)
    refine lv_iconst (v := 0) hx hb dX12_chairsOn_60 ic_0 ?_
    refine lv_istore (lv' := [(6, .int 0), (0, .ref (h 0)), (5, .int y5_54)]) hx hb dX12_chairsOn_61 hl (by decide) rfl (fun ls hl => ?_)
    exact loop_63 5 0 f_17 _ _ _ (hs.trans ((spl_e ev_14 (spl_e ef_17 rfl)))) (by have kc0 : (0 : Int32).toInt = 0 := ti_0; omega) (by have zz0_6 : (f_17 0 6).toInt = v_14.toInt := (congrArg Int32.toInt (show f_17 0 6 = v_14 from (by rw [ef_17, sg_up_s, sgu_n (by decide)]; exact ev_14.symm))); exact ⟨by omega, by omega⟩) (by decide) hI hF hP hS (lv_sub hl [1, 0] rfl)
  have loop_14 : ∀ (n_14 : Nat) (y5_14 : Int32) (y6_14 : Int32) (fp_14 : sg_F) (H : Heap) (locs : List Loc) (ls : Array Slot), sp = sX12_chairsOn_4_l14 x1 x2 x3 n_14 y5_14 y6_14 fp_14 L → 4 - y6_14.toInt < (n_14 : Int) → 4 ≤ (fp_14 0 6).toInt ∧ (fp_14 0 6).toInt ≤ 4 → 0 ≤ y6_14.toInt ∧ y6_14.toInt ≤ 4 → sgI loM hiM fp_14 → sgK WkX12_chairsOn_4 f fp_14 → va_P D vwCl (sgw 26 h (eM ca h) fp_14 L Q) H → va_S (sgA 26 h s.heap.size) s.heap H locs → lv_has ls 7 [(0, .ref (h 0)), (2, .int x1), (3, .int x2), (5, .int y5_14), (6, .int y6_14)] → W p l e ({ frames := 6, cells := 0, slots := 0, locals := 151 }) s m ([.ref (h 0), .int 4, .int x1, .int x2, .int x3] : List Value).toArray below meth cd H locs 0 0 Qz (F0 m 14 ls []) := by
    intro n_14
    induction n_14 with
    | zero => intro y5_14 y6_14 fp_14 H locs ls hs hm_14 hy0_14 hy1_14 hI hF hP hS hl; exact absurd hm_14 (by omega)
    | succ n_14 ih_14 =>
      intro y5_14 y6_14 fp_14 H locs ls hs hm_14 hy0_14 hy1_14 hI hF hP hS hl
      have hs : sp = sX12_chairsOn_4_h14 x1 x2 x3 (sX12_chairsOn_4_l14 x1 x2 x3 n_14) y5_14 y6_14 fp_14 L := hs
      obtain ⟨v_18, ev_18⟩ : ∃ z : Int32, z = fp_14 0 6 := ⟨_, rfl⟩
      replace hs := hs.trans (spl_e ev_18 rfl)
      have q_19 : 0 ≤ v_18.toInt ∧ v_18.toInt ≤ 8 := by rw [ev_18]; exact hI 0 6
      have q_20 : (fp_14 0 6).toInt = v_18.toInt := by rw [ev_18]
      refine lv_iload hx hb dX12_chairsOn_14 (lv_at hl 4 rfl) ?_
      refine lv_iload_n hx hb dX12_chairsOn_16 rfl (lv_at hl 1 rfl) ?_
      refine lv_icmp_ge (tgt := 38) hx hb dX12_chairsOn_17 (by decide) (fun c => ?_) (fun c => ?_)
      · skip
        have c_21 : x1.toInt ≤ y6_14.toInt := (by first | exact (bn_le c) | (have z := bn_le c; omega))
        refine lv_aload_n hx hb dX12_chairsOn_38 rfl (lv_at hl 0 rfl) ?_
        refine sl_gM_0_35_12 (v := (fp_14 0 35)) hx hb hts hown hK hP rfl dX12_chairsOn_39 ?_
        refine lv_topi (fun v_23 ev_23 => ?_)
        replace hs := hs.trans ((if_neg (Int.not_lt.mpr c_21)).trans (spl_e ev_23 rfl))
        refine lv_if_lt (tgt := 54) hx hb dX12_chairsOn_42 (by decide) (fun c => ?_) (fun c => ?_)
        · skip
          have c_24 : v_23.toInt < 0 := (by first | exact (cm_lt1 ti_0 c) | (have z := bn_lt c; have k1 : (0 : Int32).toInt = 0 := ti_0; omega))
          exact blk_54 y5_14 fp_14 _ _ _ (hs.trans ((if_pos c_24).trans rfl)) (by have zz0_6 : (fp_14 0 6).toInt = v_18.toInt := (congrArg Int32.toInt (show fp_14 0 6 = v_18 from ev_18.symm)); exact ⟨by omega, by omega⟩) hI hF hP hS (lv_sub hl [0, 3] rfl)
        · skip
          have c_25 : 0 ≤ v_23.toInt := (by first | exact (cm_nlt1 ti_0 c) | (have z := bn_nlt c; have k1 : (0 : Int32).toInt = 0 := ti_0; omega))
          replace hs := hs.trans ((if_neg (Int.not_lt.mpr c_25)).trans rfl)
          refine lv_iload hx hb dX12_chairsOn_45 (lv_at hl 3 rfl) ?_
          refine lv_aload_n hx hb dX12_chairsOn_47 rfl (lv_at hl 0 rfl) ?_
          refine sl_gM_0_35_12 (v := v_23) hx hb hts hown hK hP (show fp_14 0 35 = v_23 from ev_23.symm) dX12_chairsOn_48 ?_
          refine lv_icmp_ge (tgt := 92) hx hb dX12_chairsOn_51 (by decide) (fun c => ?_) (fun c => ?_)
          · skip
            have c_26 : v_23.toInt ≤ y5_14.toInt := (by first | exact (bn_le c) | (have z := bn_le c; omega))
            exact hret _ _ _ _ fp_14 L Q dX12_chairsOn_92 hP hS ⟨⟨hI, hF, rfl, rfl⟩, (Eq.trans (Eq.symm (hs.trans ((if_neg (Int.not_lt.mpr c_26)).trans rfl))) hsp)⟩
          · skip
            have c_27 : y5_14.toInt < v_23.toInt := (by first | exact (bn_nle c) | (have z := bn_nle c; omega))
            exact blk_54 y5_14 fp_14 _ _ _ (hs.trans ((if_pos c_27).trans rfl)) (by have zz0_6 : (fp_14 0 6).toInt = v_18.toInt := (congrArg Int32.toInt (show fp_14 0 6 = v_18 from ev_18.symm)); exact ⟨by omega, by omega⟩) hI hF hP hS (lv_sub hl [0, 3] rfl)
      · skip
        have c_22 : y6_14.toInt < x1.toInt := (by first | exact (bn_nle c) | (have z := bn_nle c; omega))
        refine lv_iload hx hb dX12_chairsOn_20 (lv_at hl 3 rfl) ?_
        refine lv_aload_n hx hb dX12_chairsOn_22 rfl (lv_at hl 0 rfl) ?_
        refine lv_iload_n hx hb dX12_chairsOn_23 rfl (lv_at hl 2 rfl) ?_
        refine lv_iload hx hb dX12_chairsOn_24 (lv_at hl 4 rfl) ?_
        refine sg_calli (va_runV (As := [.int x2, .int y6_14]) (rest := [.int y5_14]) ⟨hx, hb, hml, hown, hts⟩ (kX12_chairLoss l D ca za h hh fp_14 L Q hI x2 y6_14 b2 ⟨by omega, by omega⟩ H.size) (sl_c12_chairLoss_1_0_0_21_12 hts ⟨Nat.le_of_ble_eq_true rfl, Nat.le_of_ble_eq_true rfl⟩) (sl_vM_0 hA hK hP hS hZ) rfl rfl hl.1 rfl (lv_room (Nat.le_of_ble_eq_true rfl)) dX12_chairsOn_26 ⟨Nat.le_refl _, Nat.le_refl _⟩) hA hS (fun r_31 f_28 L_29 Q_30 H locs hq hP hS => ?_)
        obtain ⟨⟨ef9, eL9, eQ9⟩, hq, u_32⟩ := hq
        rw [ef9, eL9, eQ9] at hP; clear ef9 eL9 eQ9
        refine lv_iadd hx hb dX12_chairsOn_29 ?_
        refine lv_topi (fun v_33 ev_33 => ?_)
        refine lv_istore (lv' := [(5, .int v_33), (0, .ref (h 0)), (2, .int x1), (3, .int x2), (6, .int y6_14)]) hx hb dX12_chairsOn_30 hl (by decide) rfl (fun ls hl => ?_)
        obtain ⟨v_34, ev_34⟩ : ∃ z : Int32, z = y6_14 + 1 := ⟨_, rfl⟩
        have q_35 : v_34.toInt = y6_14.toInt + 1 := by rw [ev_34]; exact (bn_addc y6_14 1 (by decide) (by omega) (by omega))
        refine lv_iinc (v := v_34) (lv' := [(6, .int v_34), (5, .int v_33), (0, .ref (h 0)), (2, .int x1), (3, .int x2)]) hx hb dX12_chairsOn_32 hl (k := 4) rfl (by rw [ev_34]; rfl) (by decide) rfl (fun ls hl => ?_)
        refine lv_goto (tgt := 14) hx hb dX12_chairsOn_35 (by decide) ?_
        exact ih_14 v_33 v_34 fp_14 _ _ _ (hs.trans ((if_pos c_22).trans (spl_e u_32 (spl_e ev_33 (spl_e ev_34 rfl))))) (by omega) (by have zz0_6 : (fp_14 0 6).toInt = v_18.toInt := (congrArg Int32.toInt (show fp_14 0 6 = v_18 from ev_18.symm)); exact ⟨by omega, by omega⟩) ⟨by omega, by omega⟩ hI hF hP hS (lv_sub hl [2, 3, 4, 1, 0] rfl)
  have loop_116 : ∀ (n_116 : Nat) (y5_116 : Int32) (fp_116 : sg_F) (H : Heap) (locs : List Loc) (ls : Array Slot), sp = sX12_chairsOn_4_l116 x1 x2 x3 n_116 y5_116 fp_116 L → 5 - y5_116.toInt < (n_116 : Int) → 5 ≤ (fp_116 0 6).toInt ∧ (fp_116 0 6).toInt ≤ 8 → 0 ≤ y5_116.toInt ∧ y5_116.toInt ≤ 5 → sgI loM hiM fp_116 → sgK WkX12_chairsOn_4 f fp_116 → va_P D vwCl (sgw 26 h (eM ca h) fp_116 L Q) H → va_S (sgA 26 h s.heap.size) s.heap H locs → lv_has ls 7 [(0, .ref (h 0)), (1, .int 4), (2, .int x1), (3, .int x2), (4, .int x3), (5, .int y5_116)] → W p l e ({ frames := 6, cells := 0, slots := 0, locals := 151 }) s m ([.ref (h 0), .int 4, .int x1, .int x2, .int x3] : List Value).toArray below meth cd H locs 0 0 Qz (F0 m 116 ls []) := by
    intro n_116
    induction n_116 with
    | zero => intro y5_116 fp_116 H locs ls hs hm_116 hy0_116 hy1_116 hI hF hP hS hl; exact absurd hm_116 (by omega)
    | succ n_116 ih_116 =>
      intro y5_116 fp_116 H locs ls hs hm_116 hy0_116 hy1_116 hI hF hP hS hl
      have hs : sp = sX12_chairsOn_4_h116 x1 x2 x3 (sX12_chairsOn_4_l116 x1 x2 x3 n_116) y5_116 fp_116 L := hs
      obtain ⟨v_36, ev_36⟩ : ∃ z : Int32, z = fp_116 0 6 := ⟨_, rfl⟩
      replace hs := hs.trans (spl_e ev_36 rfl)
      have q_37 : 0 ≤ v_36.toInt ∧ v_36.toInt ≤ 8 := by rw [ev_36]; exact hI 0 6
      have q_38 : (fp_116 0 6).toInt = v_36.toInt := by rw [ev_36]
      refine lv_iload hx hb dX12_chairsOn_116 (lv_at hl 5 rfl) ?_
      refine lv_iload hx hb dX12_chairsOn_118 (lv_at hl 4 rfl) ?_
      refine lv_icmp_ge (tgt := 166) hx hb dX12_chairsOn_120 (by decide) (fun c => ?_) (fun c => ?_)
      · skip
        have c_39 : x3.toInt ≤ y5_116.toInt := (by first | exact (bn_le c) | (have z := bn_le c; omega))
        exact hret _ _ _ _ fp_116 L Q dX12_chairsOn_166 hP hS ⟨⟨hI, hF, rfl, rfl⟩, (Eq.trans (Eq.symm (hs.trans ((if_neg (Int.not_lt.mpr c_39)).trans rfl))) hsp)⟩
      · skip
        have c_40 : y5_116.toInt < x3.toInt := (by first | exact (bn_nle c) | (have z := bn_nle c; omega))
        replace hs := hs.trans ((if_pos c_40).trans rfl)
        refine lv_iload hx hb dX12_chairsOn_123 (lv_at hl 5 rfl) ?_
        refine lv_iload_n hx hb dX12_chairsOn_125 rfl (lv_at hl 2 rfl) ?_
        refine lv_icmp_gt (tgt := 166) hx hb dX12_chairsOn_126 (by decide) (fun c => ?_) (fun c => ?_)
        · skip
          have c_41 : x1.toInt < y5_116.toInt := (by first | exact (bn_lt c) | (have z := bn_lt c; omega))
          exact hret _ _ _ _ fp_116 L Q dX12_chairsOn_166 hP hS ⟨⟨hI, hF, rfl, rfl⟩, (Eq.trans (Eq.symm (hs.trans ((if_pos c_41).trans rfl))) hsp)⟩
        · skip
          have c_42 : y5_116.toInt ≤ x1.toInt := (by first | exact (bn_nlt c) | (have z := bn_nlt c; omega))
          refine lv_aload_n hx hb dX12_chairsOn_129 rfl (lv_at hl 0 rfl) ?_
          refine sl_gM_0_33_12 hx hb hts hown hK hP dX12_chairsOn_130 ?_
          refine lv_iload_n hx hb dX12_chairsOn_133 rfl (lv_at hl 1 rfl) ?_
          refine lv_iload hx hb dX12_chairsOn_134 (lv_at hl 5 rfl) ?_
          refine sg_iast hx hb hh hA hK hP hS 15 (by decide) 0 (fun _ => rfl) rfl (i := 4) (x := y5_116) (vp_in_iff.mpr (by decide)) dX12_chairsOn_136 (fun f_43 H locs ef_43 hP hS => ?_)
          replace hs := hs.trans ((if_neg (Int.not_lt.mpr c_42)).trans (spl_e ef_43 rfl))
          have hI : sgI loM hiM f_43 := by rw [ef_43]; exact sgI.put hI 15 (Int32.toNatClampNeg 4) (show 0 ≤ (y5_116 : Int32).toInt ∧ (y5_116 : Int32).toInt ≤ 7 from ⟨by omega, by omega⟩)
          have hF : sgK WkX12_chairsOn_4 f f_43 := sgK.put hF ef_43 (by rfl)
          refine lv_aload_n hx hb dX12_chairsOn_137 rfl (lv_at hl 0 rfl) ?_
          refine lv_iload_n hx hb dX12_chairsOn_138 rfl (lv_at hl 1 rfl) ?_
          refine lv_iconst (v := 1) hx hb dX12_chairsOn_139 ic_1 ?_
          refine lv_iadd hx hb dX12_chairsOn_140 ?_
          refine W.eq (g2 := F0 m 141 ls [.int 5, .ref (h 0)]) (by rw [show (4 + 1 : Int32) = 5 from by decide]) ?_
          refine lv_iload hx hb dX12_chairsOn_141 (lv_at hl 5 rfl) ?_
          refine lv_iload_n hx hb dX12_chairsOn_143 rfl (lv_at hl 2 rfl) ?_
          refine lv_icmp_ne (tgt := 153) hx hb dX12_chairsOn_144 (by decide) (fun c => ?_) (fun c => ?_)
          · skip
            have c_44 : y5_116.toInt ≠ x1.toInt := (by first | exact (bn_ne c) | (have z := bn_ne c; omega))
            refine lv_iload_n hx hb dX12_chairsOn_153 rfl (lv_at hl 2 rfl) ?_
            refine lv_iload_n hx hb dX12_chairsOn_154 rfl (lv_at hl 3 rfl) ?_
            refine lv_iload hx hb dX12_chairsOn_155 (lv_at hl 4 rfl) ?_
            have q_46 : (f_43 0 6).toInt = v_36.toInt := (congrArg Int32.toInt (show f_43 0 6 = v_36 from (by rw [ef_43, sg_up_n (by decide)]; exact ev_36.symm)))
            refine sg_callv (va_runV (As := [.int 5, .int x1, .int x2, .int x3]) (rest := []) ⟨hx, hb, hml, hown, hts⟩ (kX12_chairsOn_5 l D ca za h hh f_43 L Q hI x1 x2 x3 ⟨by omega, by omega⟩ b2 b3 (by have k0 : (5 : Int32).toInt = 5 := ti_5; omega) H.size) (sl_c12_chairsOn_5_0_0_125_12 hts ⟨Nat.le_of_ble_eq_true rfl, Nat.le_of_ble_eq_true rfl⟩) (sl_vM_0 hA hK hP hS hZ) rfl rfl hl.1 rfl (lv_room (Nat.le_of_ble_eq_true rfl)) dX12_chairsOn_157 ⟨Nat.le_refl _, Nat.le_refl _⟩) hA hS (fun f_48 L_49 Q_50 H locs hq hP hS => ?_)
            obtain ⟨⟨hI, hk_f_48, eL9, eQ9⟩, u_51⟩ := hq
            rw [eL9, eQ9] at hP; clear eL9 eQ9
            have hF : sgK WkX12_chairsOn_4 f f_48 := sgK.tr hF hk_f_48 (by decide +kernel)
            obtain ⟨v_52, ev_52⟩ : ∃ z : Int32, z = y5_116 + 1 := ⟨_, rfl⟩
            have q_53 : v_52.toInt = y5_116.toInt + 1 := by rw [ev_52]; exact (bn_addc y5_116 1 (by decide) (by omega) (by omega))
            refine lv_iinc (v := v_52) (lv' := [(5, .int v_52), (0, .ref (h 0)), (1, .int 4), (2, .int x1), (3, .int x2), (4, .int x3)]) hx hb dX12_chairsOn_160 hl (k := 5) rfl (by rw [ev_52]; rfl) (by decide) rfl (fun ls hl => ?_)
            refine lv_goto (tgt := 116) hx hb dX12_chairsOn_163 (by decide) ?_
            exact ih_116 v_52 f_48 _ _ _ (hs.trans ((if_neg c_44).trans (spl_e u_51 (spl_e ev_52 rfl)))) (by omega) (by have zz0_6 : (f_48 0 6).toInt = v_36.toInt := (congrArg Int32.toInt (show f_48 0 6 = v_36 from ((hk_f_48 0 6 (by decide)).trans (by rw [ef_43, sg_up_n (by decide)]; exact ev_36.symm)))); exact ⟨by omega, by omega⟩) ⟨by omega, by omega⟩ hI hF hP hS (lv_sub hl [1, 2, 3, 4, 5, 0] rfl)
          · skip
            have c_45 : y5_116.toInt = x1.toInt := (by first | exact (Int32.toInt_inj.mpr c) | (have z := Int32.toInt_inj.mpr c; omega))
            refine lv_iload_n hx hb dX12_chairsOn_147 rfl (lv_at hl 2 rfl) ?_
            refine lv_iconst (v := 1) hx hb dX12_chairsOn_148 ic_1 ?_
            refine lv_iadd hx hb dX12_chairsOn_149 ?_
            refine lv_topi (fun v_54 ev_54 => ?_)
            have q_55 : v_54.toInt = x1.toInt + 1 := by rw [ev_54]; first | exact cm_add ti_1 (by omega) (by omega) | (have k1 : (1 : Int32).toInt = 1 := ti_1; exact (bn_addI (by omega) (by omega)).trans (by omega))
            refine lv_goto (tgt := 154) hx hb dX12_chairsOn_150 (by decide) ?_
            refine lv_iload_n hx hb dX12_chairsOn_154 rfl (lv_at hl 3 rfl) ?_
            refine lv_iload hx hb dX12_chairsOn_155 (lv_at hl 4 rfl) ?_
            have q_56 : (f_43 0 6).toInt = v_36.toInt := (congrArg Int32.toInt (show f_43 0 6 = v_36 from (by rw [ef_43, sg_up_n (by decide)]; exact ev_36.symm)))
            refine sg_callv (va_runV (As := [.int 5, .int v_54, .int x2, .int x3]) (rest := []) ⟨hx, hb, hml, hown, hts⟩ (kX12_chairsOn_5 l D ca za h hh f_43 L Q hI v_54 x2 x3 ⟨by omega, by omega⟩ b2 b3 (by have k0 : (5 : Int32).toInt = 5 := ti_5; omega) H.size) (sl_c12_chairsOn_5_0_0_125_12 hts ⟨Nat.le_of_ble_eq_true rfl, Nat.le_of_ble_eq_true rfl⟩) (sl_vM_0 hA hK hP hS hZ) rfl rfl hl.1 rfl (lv_room (Nat.le_of_ble_eq_true rfl)) dX12_chairsOn_157 ⟨Nat.le_refl _, Nat.le_refl _⟩) hA hS (fun f_58 L_59 Q_60 H locs hq hP hS => ?_)
            obtain ⟨⟨hI, hk_f_58, eL9, eQ9⟩, u_61⟩ := hq
            rw [eL9, eQ9] at hP; clear eL9 eQ9
            have hF : sgK WkX12_chairsOn_4 f f_58 := sgK.tr hF hk_f_58 (by decide +kernel)
            obtain ⟨v_62, ev_62⟩ : ∃ z : Int32, z = y5_116 + 1 := ⟨_, rfl⟩
            have q_63 : v_62.toInt = y5_116.toInt + 1 := by rw [ev_62]; exact (bn_addc y5_116 1 (by decide) (by omega) (by omega))
            refine lv_iinc (v := v_62) (lv' := [(5, .int v_62), (0, .ref (h 0)), (1, .int 4), (2, .int x1), (3, .int x2), (4, .int x3)]) hx hb dX12_chairsOn_160 hl (k := 5) rfl (by rw [ev_62]; rfl) (by decide) rfl (fun ls hl => ?_)
            refine lv_goto (tgt := 116) hx hb dX12_chairsOn_163 (by decide) ?_
            exact ih_116 v_62 f_58 _ _ _ (hs.trans ((if_pos c_45).trans (spl_e ev_54 (spl_e u_61 (spl_e ev_62 rfl))))) (by omega) (by have zz0_6 : (f_58 0 6).toInt = v_36.toInt := (congrArg Int32.toInt (show f_58 0 6 = v_36 from ((hk_f_58 0 6 (by decide)).trans (by rw [ef_43, sg_up_n (by decide)]; exact ev_36.symm)))); exact ⟨by omega, by omega⟩) ⟨by omega, by omega⟩ hI hF hP hS (lv_sub hl [1, 2, 3, 4, 5, 0] rfl)
  refine lv_iload_n hx hb dX12_chairsOn_0 rfl (lv_at hl 1 rfl) ?_
  refine lv_aload_n hx hb dX12_chairsOn_1 rfl (lv_at hl 0 rfl) ?_
  refine sl_gM_0_6_12 (v := v_1) hx hb hts hown hK hP (show f 0 6 = v_1 from ev_1.symm) dX12_chairsOn_2 ?_
  refine lv_icmp_ne (tgt := 93) hx hb dX12_chairsOn_5 (by decide) (fun c => ?_) (fun c => ?_)
  · skip
    have c_64 : 4 ≠ v_1.toInt := (by first | exact (cm_ne0 ti_4 c) | (have z := bn_ne c; have k0 : (4 : Int32).toInt = 4 := ti_4; omega))
    refine lv_iload_n hx hb dX12_chairsOn_93 rfl (lv_at hl 3 rfl) ?_
    refine lv_iload_n hx hb dX12_chairsOn_94 rfl (lv_at hl 1 rfl) ?_
    refine sg_calli (va_runS (As := [.int x2, .int 4]) (rest := []) ⟨hx, hb, hml, hown, hts⟩ (kX12_isIn l D ca za h hh f L Q hI x2 4 ⟨by omega, by omega⟩ (by decide) H.size) (va_cwS 2 hts (gw_S (fun _ h => List.mem_cons_of_mem _ h) mw_832 mw_833 mw_619 mw_831) rfl rfl rfl hd_yX12_isIn.2 ⟨Nat.le_of_ble_eq_true rfl, Nat.le_of_ble_eq_true rfl⟩) (sg_preS hA hK hP hS hZ) rfl rfl hl.1 rfl (lv_room (Nat.le_of_ble_eq_true rfl)) dX12_chairsOn_95 ⟨Nat.le_refl _, Nat.le_refl _⟩) hA hS (fun r_69 f_66 L_67 Q_68 H locs hq hP hS => ?_)
    obtain ⟨⟨ef9, eL9, eQ9⟩, hq, u_70⟩ := hq
    replace hs := hs.trans ((if_neg c_64).trans (spl_e u_70 rfl))
    rw [ef9, eL9, eQ9] at hP; clear ef9 eL9 eQ9
    refine lv_if_ne (tgt := 113) hx hb dX12_chairsOn_98 (by decide) (fun c => ?_) (fun c => ?_)
    · skip
      have c_71 : r_69.toInt ≠ 0 := (by first | exact (cm_ne1 ti_0 c) | (have z := bn_ne c; have k1 : (0 : Int32).toInt = 0 := ti_0; omega))
      refine lv_iconst (v := 0) hx hb dX12_chairsOn_113 ic_0 ?_
      refine lv_istore (lv' := [(5, .int 0), (0, .ref (h 0)), (1, .int 4), (2, .int x1), (3, .int x2), (4, .int x3)]) hx hb dX12_chairsOn_114 hl (by decide) rfl (fun ls hl => ?_)
      exact loop_116 6 0 f _ _ _ (hs.trans ((if_neg c_71).trans rfl)) (by have kc0 : (0 : Int32).toInt = 0 := ti_0; omega) (by have zz0_6 : (f 0 6).toInt = v_1.toInt := (congrArg Int32.toInt (show f 0 6 = v_1 from ev_1.symm)); exact ⟨by omega, by omega⟩) (by decide) hI hF hP hS (lv_sub hl [1, 2, 3, 4, 5, 0] rfl)
    · skip
      have c_72 : r_69.toInt = 0 := (by first | exact (cm_eq1 ti_0 c) | (have z := Int32.toInt_inj.mpr c; have k1 : (0 : Int32).toInt = 0 := ti_0; omega))
      refine lv_aload_n hx hb dX12_chairsOn_101 rfl (lv_at hl 0 rfl) ?_
      refine lv_iload_n hx hb dX12_chairsOn_102 rfl (lv_at hl 1 rfl) ?_
      refine lv_iconst (v := 1) hx hb dX12_chairsOn_103 ic_1 ?_
      refine lv_iadd hx hb dX12_chairsOn_104 ?_
      refine W.eq (g2 := F0 m 105 ls [.int 5, .ref (h 0)]) (by rw [show (4 + 1 : Int32) = 5 from by decide]) ?_
      refine lv_iload_n hx hb dX12_chairsOn_105 rfl (lv_at hl 2 rfl) ?_
      refine lv_iload_n hx hb dX12_chairsOn_106 rfl (lv_at hl 3 rfl) ?_
      refine lv_iload hx hb dX12_chairsOn_107 (lv_at hl 4 rfl) ?_
      have q_73 : (f 0 6).toInt = v_1.toInt := (congrArg Int32.toInt (show f 0 6 = v_1 from ev_1.symm))
      refine sg_callv (va_runV (As := [.int 5, .int x1, .int x2, .int x3]) (rest := []) ⟨hx, hb, hml, hown, hts⟩ (kX12_chairsOn_5 l D ca za h hh f L Q hI x1 x2 x3 ⟨by omega, by omega⟩ b2 b3 (by have k0 : (5 : Int32).toInt = 5 := ti_5; omega) H.size) (sl_c12_chairsOn_5_0_0_125_12 hts ⟨Nat.le_of_ble_eq_true rfl, Nat.le_of_ble_eq_true rfl⟩) (sl_vM_0 hA hK hP hS hZ) rfl rfl hl.1 rfl (lv_room (Nat.le_of_ble_eq_true rfl)) dX12_chairsOn_109 ⟨Nat.le_refl _, Nat.le_refl _⟩) hA hS (fun f_75 L_76 Q_77 H locs hq hP hS => ?_)
      obtain ⟨⟨hI, hk_f_75, eL9, eQ9⟩, u_78⟩ := hq
      rw [eL9, eQ9] at hP; clear eL9 eQ9
      have hF : sgK WkX12_chairsOn_4 f f_75 := sgK.tr hF hk_f_75 (by decide +kernel)
      exact hret _ _ _ _ f_75 L Q dX12_chairsOn_112 hP hS ⟨⟨hI, hF, rfl, rfl⟩, (Eq.trans (Eq.symm (hs.trans ((if_pos c_72).trans (spl_e u_78 rfl)))) hsp)⟩
  · skip
    have c_65 : 4 = v_1.toInt := (by first | exact (cm_eq0 ti_4 c) | (have z := Int32.toInt_inj.mpr c; have k0 : (4 : Int32).toInt = 4 := ti_4; omega))
    refine lv_iconst (v := 0) hx hb dX12_chairsOn_8 ic_0 ?_
    refine lv_istore (lv' := [(5, .int 0), (0, .ref (h 0)), (1, .int 4), (2, .int x1), (3, .int x2), (4, .int x3)]) hx hb dX12_chairsOn_9 hl (by decide) rfl (fun ls hl => ?_)
    refine lv_iconst (v := 0) hx hb dX12_chairsOn_11 ic_0 ?_
    refine lv_istore (lv' := [(6, .int 0), (5, .int 0), (0, .ref (h 0)), (1, .int 4), (2, .int x1), (3, .int x2), (4, .int x3)]) hx hb dX12_chairsOn_12 hl (by decide) rfl (fun ls hl => ?_)
    exact loop_14 5 0 0 f _ _ _ (hs.trans ((if_pos c_65).trans rfl)) (by have kc0 : (0 : Int32).toInt = 0 := ti_0; have kc1 : (0 : Int32).toInt = 0 := ti_0; omega) (by have zz0_6 : (f 0 6).toInt = v_1.toInt := (congrArg Int32.toInt (show f 0 6 = v_1 from ev_1.symm)); exact ⟨by omega, by omega⟩) (by decide) hI hF hP hS (lv_sub hl [2, 4, 5, 1, 0] rfl)

abbrev WkX12_chairsOn_3 : List (Nat × Nat × Option Nat) := [(0, 0, some 35), (15, 15, none), (16, 16, none)]
set_option maxHeartbeats 4000000 in
set_option maxRecDepth 100000 in
theorem kX12_chairsOn_3 (l : Launch) (D : va_G) (ca : Nat → ClassId) (za h : Nat → Nat) (hh : sgH 26 h) (f : sg_F) (L : sg_L) (Q : sg_Q) (hI : sgI loM hiM f) (x1 : Int32) (x2 : Int32) (x3 : Int32) (b1 : 0 ≤ x1.toInt ∧ x1.toInt ≤ 3) (b2 : 0 ≤ x2.toInt ∧ x2.toInt ≤ 255) (b3 : 0 ≤ x3.toInt ∧ x3.toInt ≤ 9) (p0 : 3 ≤ (f 0 6).toInt ∧ (f 0 6).toInt ≤ 8) (sz : Nat) : Met l yX12_chairsOn gwX12_chairsOn { frames := 7, cells := 0, slots := 0, locals := 177 } (sgP D vwCl (tyX ca) 26 h (eM ca h) zcM za f L Q sz [.ref (h 0), .int 3, .int x1, .int x2, .int x3]) (sgQv D vwCl 26 h (eM ca h) sz (fun f1 L1 Q1 => ((sgI loM hiM f1 ∧ sgK WkX12_chairsOn_3 f f1 ∧ L1 = L ∧ Q1 = Q) ∧ (f1) = sX12_chairsOn_3 x1 x2 x3 f L))) 0 0 (sgA 26 h sz) := by
  refine sg_ofWv (cc := cX12_chairsOn) (maxL := 7) RX12 (by decide) rfl rfl (Nat.le_of_ble_eq_true rfl) ?_
  intro p e s m below meth cd Qz ls hx hb hml hown hts hK hZ hP hS hl hret
  have hA := sgY.self (n := 26) (h := h) (sz := s.heap.size)
  have hl : lv_has ls 7 [(0, .ref (h 0)), (1, .int 3), (2, .int x1), (3, .int x2), (4, .int x3)] := hl
  obtain ⟨H, hH⟩ : ∃ z : Heap, z = s.heap := ⟨_, rfl⟩
  obtain ⟨locs, hlo⟩ : ∃ z : List Loc, z = [] := ⟨_, rfl⟩
  have hP : va_P D vwCl (sgw 26 h (eM ca h) f L Q) H := by rw [hH]; exact hP
  have hS : va_S (sgA 26 h s.heap.size) s.heap H locs := by rw [hH, hlo]; exact hS
  suffices hgo : W p l e ({ frames := 7, cells := 0, slots := 0, locals := 177 }) s m ([.ref (h 0), .int 3, .int x1, .int x2, .int x3] : List Value).toArray below meth cd H locs 0 0 Qz (F0 m 0 ls []) by rw [hH, hlo] at hgo; exact hgo
  clear hH hlo
  obtain ⟨sp, hsp⟩ : ∃ z : sg_F, z = sX12_chairsOn_3 x1 x2 x3 f L := ⟨_, rfl⟩
  have hs : sp = sX12_chairsOn_3 x1 x2 x3 f L := hsp
  obtain ⟨v_1, ev_1⟩ : ∃ z : Int32, z = f 0 6 := ⟨_, rfl⟩
  replace hs := hs.trans (spl_e ev_1 rfl)
  have q_2 : 0 ≤ v_1.toInt ∧ v_1.toInt ≤ 8 := by rw [ev_1]; exact hI 0 6
  have o_3 : (f 0 6).toInt = v_1.toInt := (congrArg Int32.toInt (show f 0 6 = v_1 from ev_1.symm))
  have hF : sgK WkX12_chairsOn_3 f f := sgK.rf
  have loop_63 : ∀ (n_63 : Nat) (y6_63 : Int32) (fp_63 : sg_F) (H : Heap) (locs : List Loc) (ls : Array Slot), sp = sX12_chairsOn_3_l63 x1 x2 x3 n_63 y6_63 fp_63 L → 3 - y6_63.toInt < (n_63 : Int) → 3 ≤ (fp_63 0 6).toInt ∧ (fp_63 0 6).toInt ≤ 3 → 0 ≤ y6_63.toInt ∧ y6_63.toInt ≤ 3 → sgI loM hiM fp_63 → sgK WkX12_chairsOn_3 f fp_63 → va_P D vwCl (sgw 26 h (eM ca h) fp_63 L Q) H → va_S (sgA 26 h s.heap.size) s.heap H locs → lv_has ls 7 [(0, .ref (h 0)), (6, .int y6_63)] → W p l e ({ frames := 7, cells := 0, slots := 0, locals := 177 }) s m ([.ref (h 0), .int 3, .int x1, .int x2, .int x3] : List Value).toArray below meth cd H locs 0 0 Qz (F0 m 63 ls []) := by
    intro n_63
    induction n_63 with
    | zero => intro y6_63 fp_63 H locs ls hs hm_63 hy0_63 hy1_63 hI hF hP hS hl; exact absurd hm_63 (by omega)
    | succ n_63 ih_63 =>
      intro y6_63 fp_63 H locs ls hs hm_63 hy0_63 hy1_63 hI hF hP hS hl
      have hs : sp = sX12_chairsOn_3_h63 x1 x2 x3 (sX12_chairsOn_3_l63 x1 x2 x3 n_63) y6_63 fp_63 L := hs
      obtain ⟨v_4, ev_4⟩ : ∃ z : Int32, z = fp_63 0 6 := ⟨_, rfl⟩
      replace hs := hs.trans (spl_e ev_4 rfl)
      have q_5 : 0 ≤ v_4.toInt ∧ v_4.toInt ≤ 8 := by rw [ev_4]; exact hI 0 6
      have q_6 : (fp_63 0 6).toInt = v_4.toInt := by rw [ev_4]
      refine lv_iload hx hb dX12_chairsOn_63 (lv_at hl 1 rfl) ?_
      refine lv_aload_n hx hb dX12_chairsOn_65 rfl (lv_at hl 0 rfl) ?_
      refine sl_gM_0_6_12 (v := v_4) hx hb hts hown hK hP (show fp_63 0 6 = v_4 from ev_4.symm) dX12_chairsOn_66 ?_
      refine lv_icmp_ge (tgt := 92) hx hb dX12_chairsOn_69 (by decide) (fun c => ?_) (fun c => ?_)
      · skip
        have c_7 : v_4.toInt ≤ y6_63.toInt := (by first | exact (bn_le c) | (have z := bn_le c; omega))
        exact hret _ _ _ _ fp_63 L Q dX12_chairsOn_92 hP hS ⟨⟨hI, hF, rfl, rfl⟩, (Eq.trans (Eq.symm (hs.trans ((if_neg (Int.not_lt.mpr c_7)).trans rfl))) hsp)⟩
      · skip
        have c_8 : y6_63.toInt < v_4.toInt := (by first | exact (bn_nle c) | (have z := bn_nle c; omega))
        refine lv_aload_n hx hb dX12_chairsOn_72 rfl (lv_at hl 0 rfl) ?_
        refine sl_gM_0_34_12 hx hb hts hown hK hP dX12_chairsOn_73 ?_
        refine lv_iload hx hb dX12_chairsOn_76 (lv_at hl 1 rfl) ?_
        refine lv_aload_n hx hb dX12_chairsOn_78 rfl (lv_at hl 0 rfl) ?_
        refine sl_gM_0_33_12 hx hb hts hown hK hP dX12_chairsOn_79 ?_
        refine lv_iload hx hb dX12_chairsOn_82 (lv_at hl 1 rfl) ?_
        refine sg_iald hx hb hK hP 15 (by decide) 0 rfl rfl (i := y6_63) (vp_in_iff.mpr ⟨by omega, by omega⟩) dX12_chairsOn_84 ?_
        refine lv_topi (fun v_9 ev_9 => ?_)
        have q_10 : 0 ≤ v_9.toInt ∧ v_9.toInt ≤ 7 := by rw [ev_9]; exact hI 15 _
        refine sg_iast hx hb hh hA hK hP hS 16 (by decide) 0 (fun _ => rfl) rfl (i := y6_63) (x := v_9) (vp_in_iff.mpr ⟨by omega, by omega⟩) dX12_chairsOn_85 (fun f_11 H locs ef_11 hP hS => ?_)
        have hI : sgI loM hiM f_11 := by rw [ef_11]; exact sgI.put hI 16 y6_63.toNatClampNeg (show 0 ≤ (v_9 : Int32).toInt ∧ (v_9 : Int32).toInt ≤ 7 from q_10)
        have hF : sgK WkX12_chairsOn_3 f f_11 := sgK.put hF ef_11 (by rfl)
        obtain ⟨v_12, ev_12⟩ : ∃ z : Int32, z = y6_63 + 1 := ⟨_, rfl⟩
        have q_13 : v_12.toInt = y6_63.toInt + 1 := by rw [ev_12]; exact (bn_addc y6_63 1 (by decide) (by omega) (by omega))
        refine lv_iinc (v := v_12) (lv' := [(6, .int v_12), (0, .ref (h 0))]) hx hb dX12_chairsOn_86 hl (k := 1) rfl (by rw [ev_12]; rfl) (by decide) rfl (fun ls hl => ?_)
        refine lv_goto (tgt := 63) hx hb dX12_chairsOn_89 (by decide) ?_
        exact ih_63 v_12 f_11 _ _ _ (hs.trans ((if_pos c_8).trans (spl_e ev_9 (spl_e ef_11 (spl_e ev_12 rfl))))) (by omega) (by have zz0_6 : (f_11 0 6).toInt = v_4.toInt := (congrArg Int32.toInt (show f_11 0 6 = v_4 from (by rw [ef_11, sg_up_n (by decide)]; exact ev_4.symm))); exact ⟨by omega, by omega⟩) ⟨by omega, by omega⟩ hI hF hP hS (lv_sub hl [1, 0] rfl)
  have blk_54 : ∀ (y5_54 : Int32) (fp_54 : sg_F) (H : Heap) (locs : List Loc) (ls : Array Slot), sp = sX12_chairsOn_3_b54 x1 x2 x3 y5_54 fp_54 L → 3 ≤ (fp_54 0 6).toInt ∧ (fp_54 0 6).toInt ≤ 3 → sgI loM hiM fp_54 → sgK WkX12_chairsOn_3 f fp_54 → va_P D vwCl (sgw 26 h (eM ca h) fp_54 L Q) H → va_S (sgA 26 h s.heap.size) s.heap H locs → lv_has ls 7 [(0, .ref (h 0)), (5, .int y5_54)] → W p l e ({ frames := 7, cells := 0, slots := 0, locals := 177 }) s m ([.ref (h 0), .int 3, .int x1, .int x2, .int x3] : List Value).toArray below meth cd H locs 0 0 Qz (F0 m 54 ls []) := by
    intro y5_54 fp_54 H locs ls hs hy0_54 hI hF hP hS hl
    obtain ⟨v_14, ev_14⟩ : ∃ z : Int32, z = fp_54 0 6 := ⟨_, rfl⟩
    have q_15 : 0 ≤ v_14.toInt ∧ v_14.toInt ≤ 8 := by rw [ev_14]; exact hI 0 6
    have q_16 : (fp_54 0 6).toInt = v_14.toInt := by rw [ev_14]
    refine lv_aload_n hx hb dX12_chairsOn_54 rfl (lv_at hl 0 rfl) ?_
    refine lv_iload hx hb dX12_chairsOn_55 (lv_at hl 1 rfl) ?_
    refine sl_pM_0_35_12 (x := y5_54) hx hb hts hown hh hA hK hP hS dX12_chairsOn_57 (fun f_17 H locs ef_17 hP hS => ?_)
    have hI : sgI loM hiM f_17 := by rw [ef_17]; exact sgI.put hI 0 35 (bn_top _)
    have hF : sgK WkX12_chairsOn_3 f f_17 := sgK.put hF ef_17 (by rfl)
    refine lv_iconst (v := 0) hx hb dX12_chairsOn_60 ic_0 ?_
    refine lv_istore (lv' := [(6, .int 0), (0, .ref (h 0)), (5, .int y5_54)]) hx hb dX12_chairsOn_61 hl (by decide) rfl (fun ls hl => ?_)
    exact loop_63 4 0 f_17 _ _ _ (hs.trans ((spl_e ev_14 (spl_e ef_17 rfl)))) (by have kc0 : (0 : Int32).toInt = 0 := ti_0; omega) (by have zz0_6 : (f_17 0 6).toInt = v_14.toInt := (congrArg Int32.toInt (show f_17 0 6 = v_14 from (by rw [ef_17, sg_up_s, sgu_n (by decide)]; exact ev_14.symm))); exact ⟨by omega, by omega⟩) (by decide) hI hF hP hS (lv_sub hl [1, 0] rfl)
  have loop_14 : ∀ (n_14 : Nat) (y5_14 : Int32) (y6_14 : Int32) (fp_14 : sg_F) (H : Heap) (locs : List Loc) (ls : Array Slot), sp = sX12_chairsOn_3_l14 x1 x2 x3 n_14 y5_14 y6_14 fp_14 L → 3 - y6_14.toInt < (n_14 : Int) → 3 ≤ (fp_14 0 6).toInt ∧ (fp_14 0 6).toInt ≤ 3 → 0 ≤ y6_14.toInt ∧ y6_14.toInt ≤ 3 → sgI loM hiM fp_14 → sgK WkX12_chairsOn_3 f fp_14 → va_P D vwCl (sgw 26 h (eM ca h) fp_14 L Q) H → va_S (sgA 26 h s.heap.size) s.heap H locs → lv_has ls 7 [(0, .ref (h 0)), (2, .int x1), (3, .int x2), (5, .int y5_14), (6, .int y6_14)] → W p l e ({ frames := 7, cells := 0, slots := 0, locals := 177 }) s m ([.ref (h 0), .int 3, .int x1, .int x2, .int x3] : List Value).toArray below meth cd H locs 0 0 Qz (F0 m 14 ls []) := by
    intro n_14
    induction n_14 with
    | zero => intro y5_14 y6_14 fp_14 H locs ls hs hm_14 hy0_14 hy1_14 hI hF hP hS hl; exact absurd hm_14 (by omega)
    | succ n_14 ih_14 =>
      intro y5_14 y6_14 fp_14 H locs ls hs hm_14 hy0_14 hy1_14 hI hF hP hS hl
      have hs : sp = sX12_chairsOn_3_h14 x1 x2 x3 (sX12_chairsOn_3_l14 x1 x2 x3 n_14) y5_14 y6_14 fp_14 L := hs
      obtain ⟨v_18, ev_18⟩ : ∃ z : Int32, z = fp_14 0 6 := ⟨_, rfl⟩
      replace hs := hs.trans (spl_e ev_18 rfl)
      have q_19 : 0 ≤ v_18.toInt ∧ v_18.toInt ≤ 8 := by rw [ev_18]; exact hI 0 6
      have q_20 : (fp_14 0 6).toInt = v_18.toInt := by rw [ev_18]
      refine lv_iload hx hb dX12_chairsOn_14 (lv_at hl 4 rfl) ?_
      refine lv_iload_n hx hb dX12_chairsOn_16 rfl (lv_at hl 1 rfl) ?_
      refine lv_icmp_ge (tgt := 38) hx hb dX12_chairsOn_17 (by decide) (fun c => ?_) (fun c => ?_)
      · skip
        have c_21 : x1.toInt ≤ y6_14.toInt := (by first | exact (bn_le c) | (have z := bn_le c; omega))
        refine lv_aload_n hx hb dX12_chairsOn_38 rfl (lv_at hl 0 rfl) ?_
        refine sl_gM_0_35_12 (v := (fp_14 0 35)) hx hb hts hown hK hP rfl dX12_chairsOn_39 ?_
        refine lv_topi (fun v_23 ev_23 => ?_)
        replace hs := hs.trans ((if_neg (Int.not_lt.mpr c_21)).trans (spl_e ev_23 rfl))
        refine lv_if_lt (tgt := 54) hx hb dX12_chairsOn_42 (by decide) (fun c => ?_) (fun c => ?_)
        · skip
          have c_24 : v_23.toInt < 0 := (by first | exact (cm_lt1 ti_0 c) | (have z := bn_lt c; have k1 : (0 : Int32).toInt = 0 := ti_0; omega))
          exact blk_54 y5_14 fp_14 _ _ _ (hs.trans ((if_pos c_24).trans rfl)) (by have zz0_6 : (fp_14 0 6).toInt = v_18.toInt := (congrArg Int32.toInt (show fp_14 0 6 = v_18 from ev_18.symm)); exact ⟨by omega, by omega⟩) hI hF hP hS (lv_sub hl [0, 3] rfl)
        · skip
          have c_25 : 0 ≤ v_23.toInt := (by first | exact (cm_nlt1 ti_0 c) | (have z := bn_nlt c; have k1 : (0 : Int32).toInt = 0 := ti_0; omega))
          replace hs := hs.trans ((if_neg (Int.not_lt.mpr c_25)).trans rfl)
          refine lv_iload hx hb dX12_chairsOn_45 (lv_at hl 3 rfl) ?_
          refine lv_aload_n hx hb dX12_chairsOn_47 rfl (lv_at hl 0 rfl) ?_
          refine sl_gM_0_35_12 (v := v_23) hx hb hts hown hK hP (show fp_14 0 35 = v_23 from ev_23.symm) dX12_chairsOn_48 ?_
          refine lv_icmp_ge (tgt := 92) hx hb dX12_chairsOn_51 (by decide) (fun c => ?_) (fun c => ?_)
          · skip
            have c_26 : v_23.toInt ≤ y5_14.toInt := (by first | exact (bn_le c) | (have z := bn_le c; omega))
            exact hret _ _ _ _ fp_14 L Q dX12_chairsOn_92 hP hS ⟨⟨hI, hF, rfl, rfl⟩, (Eq.trans (Eq.symm (hs.trans ((if_neg (Int.not_lt.mpr c_26)).trans rfl))) hsp)⟩
          · skip
            have c_27 : y5_14.toInt < v_23.toInt := (by first | exact (bn_nle c) | (have z := bn_nle c; omega))
            exact blk_54 y5_14 fp_14 _ _ _ (hs.trans ((if_pos c_27).trans rfl)) (by have zz0_6 : (fp_14 0 6).toInt = v_18.toInt := (congrArg Int32.toInt (show fp_14 0 6 = v_18 from ev_18.symm)); exact ⟨by omega, by omega⟩) hI hF hP hS (lv_sub hl [0, 3] rfl)
      · skip
        have c_22 : y6_14.toInt < x1.toInt := (by first | exact (bn_nle c) | (have z := bn_nle c; omega))
        refine lv_iload hx hb dX12_chairsOn_20 (lv_at hl 3 rfl) ?_
        refine lv_aload_n hx hb dX12_chairsOn_22 rfl (lv_at hl 0 rfl) ?_
        refine lv_iload_n hx hb dX12_chairsOn_23 rfl (lv_at hl 2 rfl) ?_
        refine lv_iload hx hb dX12_chairsOn_24 (lv_at hl 4 rfl) ?_
        refine sg_calli (va_runV (As := [.int x2, .int y6_14]) (rest := [.int y5_14]) ⟨hx, hb, hml, hown, hts⟩ (kX12_chairLoss l D ca za h hh fp_14 L Q hI x2 y6_14 b2 ⟨by omega, by omega⟩ H.size) (sl_c12_chairLoss_1_0_0_21_12 hts ⟨Nat.le_of_ble_eq_true rfl, Nat.le_of_ble_eq_true rfl⟩) (sl_vM_0 hA hK hP hS hZ) rfl rfl hl.1 rfl (lv_room (Nat.le_of_ble_eq_true rfl)) dX12_chairsOn_26 ⟨Nat.le_refl _, Nat.le_refl _⟩) hA hS (fun r_31 f_28 L_29 Q_30 H locs hq hP hS => ?_)
        obtain ⟨⟨ef9, eL9, eQ9⟩, hq, u_32⟩ := hq
        rw [ef9, eL9, eQ9] at hP; clear ef9 eL9 eQ9
        refine lv_iadd hx hb dX12_chairsOn_29 ?_
        refine lv_topi (fun v_33 ev_33 => ?_)
        refine lv_istore (lv' := [(5, .int v_33), (0, .ref (h 0)), (2, .int x1), (3, .int x2), (6, .int y6_14)]) hx hb dX12_chairsOn_30 hl (by decide) rfl (fun ls hl => ?_)
        obtain ⟨v_34, ev_34⟩ : ∃ z : Int32, z = y6_14 + 1 := ⟨_, rfl⟩
        have q_35 : v_34.toInt = y6_14.toInt + 1 := by rw [ev_34]; exact (bn_addc y6_14 1 (by decide) (by omega) (by omega))
        refine lv_iinc (v := v_34) (lv' := [(6, .int v_34), (5, .int v_33), (0, .ref (h 0)), (2, .int x1), (3, .int x2)]) hx hb dX12_chairsOn_32 hl (k := 4) rfl (by rw [ev_34]; rfl) (by decide) rfl (fun ls hl => ?_)
        refine lv_goto (tgt := 14) hx hb dX12_chairsOn_35 (by decide) ?_
        exact ih_14 v_33 v_34 fp_14 _ _ _ (hs.trans ((if_pos c_22).trans (spl_e u_32 (spl_e ev_33 (spl_e ev_34 rfl))))) (by omega) (by have zz0_6 : (fp_14 0 6).toInt = v_18.toInt := (congrArg Int32.toInt (show fp_14 0 6 = v_18 from ev_18.symm)); exact ⟨by omega, by omega⟩) ⟨by omega, by omega⟩ hI hF hP hS (lv_sub hl [2, 3, 4, 1, 0] rfl)
  have loop_116 : ∀ (n_116 : Nat) (y5_116 : Int32) (fp_116 : sg_F) (H : Heap) (locs : List Loc) (ls : Array Slot), sp = sX12_chairsOn_3_l116 x1 x2 x3 n_116 y5_116 fp_116 L → 4 - y5_116.toInt < (n_116 : Int) → 4 ≤ (fp_116 0 6).toInt ∧ (fp_116 0 6).toInt ≤ 8 → 0 ≤ y5_116.toInt ∧ y5_116.toInt ≤ 4 → sgI loM hiM fp_116 → sgK WkX12_chairsOn_3 f fp_116 → va_P D vwCl (sgw 26 h (eM ca h) fp_116 L Q) H → va_S (sgA 26 h s.heap.size) s.heap H locs → lv_has ls 7 [(0, .ref (h 0)), (1, .int 3), (2, .int x1), (3, .int x2), (4, .int x3), (5, .int y5_116)] → W p l e ({ frames := 7, cells := 0, slots := 0, locals := 177 }) s m ([.ref (h 0), .int 3, .int x1, .int x2, .int x3] : List Value).toArray below meth cd H locs 0 0 Qz (F0 m 116 ls []) := by
    intro n_116
    induction n_116 with
    | zero => intro y5_116 fp_116 H locs ls hs hm_116 hy0_116 hy1_116 hI hF hP hS hl; exact absurd hm_116 (by omega)
    | succ n_116 ih_116 =>
      intro y5_116 fp_116 H locs ls hs hm_116 hy0_116 hy1_116 hI hF hP hS hl
      have hs : sp = sX12_chairsOn_3_h116 x1 x2 x3 (sX12_chairsOn_3_l116 x1 x2 x3 n_116) y5_116 fp_116 L := hs
      obtain ⟨v_36, ev_36⟩ : ∃ z : Int32, z = fp_116 0 6 := ⟨_, rfl⟩
      replace hs := hs.trans (spl_e ev_36 rfl)
      have q_37 : 0 ≤ v_36.toInt ∧ v_36.toInt ≤ 8 := by rw [ev_36]; exact hI 0 6
      have q_38 : (fp_116 0 6).toInt = v_36.toInt := by rw [ev_36]
      refine lv_iload hx hb dX12_chairsOn_116 (lv_at hl 5 rfl) ?_
      refine lv_iload hx hb dX12_chairsOn_118 (lv_at hl 4 rfl) ?_
      refine lv_icmp_ge (tgt := 166) hx hb dX12_chairsOn_120 (by decide) (fun c => ?_) (fun c => ?_)
      · skip
        have c_39 : x3.toInt ≤ y5_116.toInt := (by first | exact (bn_le c) | (have z := bn_le c; omega))
        exact hret _ _ _ _ fp_116 L Q dX12_chairsOn_166 hP hS ⟨⟨hI, hF, rfl, rfl⟩, (Eq.trans (Eq.symm (hs.trans ((if_neg (Int.not_lt.mpr c_39)).trans rfl))) hsp)⟩
      · skip
        have c_40 : y5_116.toInt < x3.toInt := (by first | exact (bn_nle c) | (have z := bn_nle c; omega))
        replace hs := hs.trans ((if_pos c_40).trans rfl)
        refine lv_iload hx hb dX12_chairsOn_123 (lv_at hl 5 rfl) ?_
        refine lv_iload_n hx hb dX12_chairsOn_125 rfl (lv_at hl 2 rfl) ?_
        refine lv_icmp_gt (tgt := 166) hx hb dX12_chairsOn_126 (by decide) (fun c => ?_) (fun c => ?_)
        · skip
          have c_41 : x1.toInt < y5_116.toInt := (by first | exact (bn_lt c) | (have z := bn_lt c; omega))
          exact hret _ _ _ _ fp_116 L Q dX12_chairsOn_166 hP hS ⟨⟨hI, hF, rfl, rfl⟩, (Eq.trans (Eq.symm (hs.trans ((if_pos c_41).trans rfl))) hsp)⟩
        · skip
          have c_42 : y5_116.toInt ≤ x1.toInt := (by first | exact (bn_nlt c) | (have z := bn_nlt c; omega))
          refine lv_aload_n hx hb dX12_chairsOn_129 rfl (lv_at hl 0 rfl) ?_
          refine sl_gM_0_33_12 hx hb hts hown hK hP dX12_chairsOn_130 ?_
          refine lv_iload_n hx hb dX12_chairsOn_133 rfl (lv_at hl 1 rfl) ?_
          refine lv_iload hx hb dX12_chairsOn_134 (lv_at hl 5 rfl) ?_
          refine sg_iast hx hb hh hA hK hP hS 15 (by decide) 0 (fun _ => rfl) rfl (i := 3) (x := y5_116) (vp_in_iff.mpr (by decide)) dX12_chairsOn_136 (fun f_43 H locs ef_43 hP hS => ?_)
          replace hs := hs.trans ((if_neg (Int.not_lt.mpr c_42)).trans (spl_e ef_43 rfl))
          have hI : sgI loM hiM f_43 := by rw [ef_43]; exact sgI.put hI 15 (Int32.toNatClampNeg 3) (show 0 ≤ (y5_116 : Int32).toInt ∧ (y5_116 : Int32).toInt ≤ 7 from ⟨by omega, by omega⟩)
          have hF : sgK WkX12_chairsOn_3 f f_43 := sgK.put hF ef_43 (by rfl)
          refine lv_aload_n hx hb dX12_chairsOn_137 rfl (lv_at hl 0 rfl) ?_
          refine lv_iload_n hx hb dX12_chairsOn_138 rfl (lv_at hl 1 rfl) ?_
          refine lv_iconst (v := 1) hx hb dX12_chairsOn_139 ic_1 ?_
          refine lv_iadd hx hb dX12_chairsOn_140 ?_
          refine W.eq (g2 := F0 m 141 ls [.int 4, .ref (h 0)]) (by rw [show (3 + 1 : Int32) = 4 from by decide]) ?_
          refine lv_iload hx hb dX12_chairsOn_141 (lv_at hl 5 rfl) ?_
          refine lv_iload_n hx hb dX12_chairsOn_143 rfl (lv_at hl 2 rfl) ?_
          refine lv_icmp_ne (tgt := 153) hx hb dX12_chairsOn_144 (by decide) (fun c => ?_) (fun c => ?_)
          · skip
            have c_44 : y5_116.toInt ≠ x1.toInt := (by first | exact (bn_ne c) | (have z := bn_ne c; omega))
            refine lv_iload_n hx hb dX12_chairsOn_153 rfl (lv_at hl 2 rfl) ?_
            refine lv_iload_n hx hb dX12_chairsOn_154 rfl (lv_at hl 3 rfl) ?_
            refine lv_iload hx hb dX12_chairsOn_155 (lv_at hl 4 rfl) ?_
            have q_46 : (f_43 0 6).toInt = v_36.toInt := (congrArg Int32.toInt (show f_43 0 6 = v_36 from (by rw [ef_43, sg_up_n (by decide)]; exact ev_36.symm)))
            refine sg_callv (va_runV (As := [.int 4, .int x1, .int x2, .int x3]) (rest := []) ⟨hx, hb, hml, hown, hts⟩ (kX12_chairsOn_4 l D ca za h hh f_43 L Q hI x1 x2 x3 ⟨by omega, by omega⟩ b2 b3 (by have k0 : (4 : Int32).toInt = 4 := ti_4; omega) H.size) (sl_c12_chairsOn_6_0_0_151_12 hts ⟨Nat.le_of_ble_eq_true rfl, Nat.le_of_ble_eq_true rfl⟩) (sl_vM_0 hA hK hP hS hZ) rfl rfl hl.1 rfl (lv_room (Nat.le_of_ble_eq_true rfl)) dX12_chairsOn_157 ⟨Nat.le_refl _, Nat.le_refl _⟩) hA hS (fun f_48 L_49 Q_50 H locs hq hP hS => ?_)
            obtain ⟨⟨hI, hk_f_48, eL9, eQ9⟩, u_51⟩ := hq
            rw [eL9, eQ9] at hP; clear eL9 eQ9
            have hF : sgK WkX12_chairsOn_3 f f_48 := sgK.tr hF hk_f_48 (by decide +kernel)
            obtain ⟨v_52, ev_52⟩ : ∃ z : Int32, z = y5_116 + 1 := ⟨_, rfl⟩
            have q_53 : v_52.toInt = y5_116.toInt + 1 := by rw [ev_52]; exact (bn_addc y5_116 1 (by decide) (by omega) (by omega))
            refine lv_iinc (v := v_52) (lv' := [(5, .int v_52), (0, .ref (h 0)), (1, .int 3), (2, .int x1), (3, .int x2), (4, .int x3)]) hx hb dX12_chairsOn_160 hl (k := 5) rfl (by rw [ev_52]; rfl) (by decide) rfl (fun ls hl => ?_)
            refine lv_goto (tgt := 116) hx hb dX12_chairsOn_163 (by decide) ?_
            exact ih_116 v_52 f_48 _ _ _ (hs.trans ((if_neg c_44).trans (spl_e u_51 (spl_e ev_52 rfl)))) (by omega) (by have zz0_6 : (f_48 0 6).toInt = v_36.toInt := (congrArg Int32.toInt (show f_48 0 6 = v_36 from ((hk_f_48 0 6 (by decide)).trans (by rw [ef_43, sg_up_n (by decide)]; exact ev_36.symm)))); exact ⟨by omega, by omega⟩) ⟨by omega, by omega⟩ hI hF hP hS (lv_sub hl [1, 2, 3, 4, 5, 0] rfl)
          · skip
            have c_45 : y5_116.toInt = x1.toInt := (by first | exact (Int32.toInt_inj.mpr c) | (have z := Int32.toInt_inj.mpr c; omega))
            refine lv_iload_n hx hb dX12_chairsOn_147 rfl (lv_at hl 2 rfl) ?_
            refine lv_iconst (v := 1) hx hb dX12_chairsOn_148 ic_1 ?_
            refine lv_iadd hx hb dX12_chairsOn_149 ?_
            refine lv_topi (fun v_54 ev_54 => ?_)
            have q_55 : v_54.toInt = x1.toInt + 1 := by rw [ev_54]; first | exact cm_add ti_1 (by omega) (by omega) | (have k1 : (1 : Int32).toInt = 1 := ti_1; exact (bn_addI (by omega) (by omega)).trans (by omega))
            refine lv_goto (tgt := 154) hx hb dX12_chairsOn_150 (by decide) ?_
            refine lv_iload_n hx hb dX12_chairsOn_154 rfl (lv_at hl 3 rfl) ?_
            refine lv_iload hx hb dX12_chairsOn_155 (lv_at hl 4 rfl) ?_
            have q_56 : (f_43 0 6).toInt = v_36.toInt := (congrArg Int32.toInt (show f_43 0 6 = v_36 from (by rw [ef_43, sg_up_n (by decide)]; exact ev_36.symm)))
            refine sg_callv (va_runV (As := [.int 4, .int v_54, .int x2, .int x3]) (rest := []) ⟨hx, hb, hml, hown, hts⟩ (kX12_chairsOn_4 l D ca za h hh f_43 L Q hI v_54 x2 x3 ⟨by omega, by omega⟩ b2 b3 (by have k0 : (4 : Int32).toInt = 4 := ti_4; omega) H.size) (sl_c12_chairsOn_6_0_0_151_12 hts ⟨Nat.le_of_ble_eq_true rfl, Nat.le_of_ble_eq_true rfl⟩) (sl_vM_0 hA hK hP hS hZ) rfl rfl hl.1 rfl (lv_room (Nat.le_of_ble_eq_true rfl)) dX12_chairsOn_157 ⟨Nat.le_refl _, Nat.le_refl _⟩) hA hS (fun f_58 L_59 Q_60 H locs hq hP hS => ?_)
            obtain ⟨⟨hI, hk_f_58, eL9, eQ9⟩, u_61⟩ := hq
            rw [eL9, eQ9] at hP; clear eL9 eQ9
            have hF : sgK WkX12_chairsOn_3 f f_58 := sgK.tr hF hk_f_58 (by decide +kernel)
            obtain ⟨v_62, ev_62⟩ : ∃ z : Int32, z = y5_116 + 1 := ⟨_, rfl⟩
            have q_63 : v_62.toInt = y5_116.toInt + 1 := by rw [ev_62]; exact (bn_addc y5_116 1 (by decide) (by omega) (by omega))
            refine lv_iinc (v := v_62) (lv' := [(5, .int v_62), (0, .ref (h 0)), (1, .int 3), (2, .int x1), (3, .int x2), (4, .int x3)]) hx hb dX12_chairsOn_160 hl (k := 5) rfl (by rw [ev_62]; rfl) (by decide) rfl (fun ls hl => ?_)
            refine lv_goto (tgt := 116) hx hb dX12_chairsOn_163 (by decide) ?_
            exact ih_116 v_62 f_58 _ _ _ (hs.trans ((if_pos c_45).trans (spl_e ev_54 (spl_e u_61 (spl_e ev_62 rfl))))) (by omega) (by have zz0_6 : (f_58 0 6).toInt = v_36.toInt := (congrArg Int32.toInt (show f_58 0 6 = v_36 from ((hk_f_58 0 6 (by decide)).trans (by rw [ef_43, sg_up_n (by decide)]; exact ev_36.symm)))); exact ⟨by omega, by omega⟩) ⟨by omega, by omega⟩ hI hF hP hS (lv_sub hl [1, 2, 3, 4, 5, 0] rfl)
  refine lv_iload_n hx hb dX12_chairsOn_0 rfl (lv_at hl 1 rfl) ?_
  refine lv_aload_n hx hb dX12_chairsOn_1 rfl (lv_at hl 0 rfl) ?_
  refine sl_gM_0_6_12 (v := v_1) hx hb hts hown hK hP (show f 0 6 = v_1 from ev_1.symm) dX12_chairsOn_2 ?_
  refine lv_icmp_ne (tgt := 93) hx hb dX12_chairsOn_5 (by decide) (fun c => ?_) (fun c => ?_)
  · skip
    have c_64 : 3 ≠ v_1.toInt := (by first | exact (cm_ne0 ti_3 c) | (have z := bn_ne c; have k0 : (3 : Int32).toInt = 3 := ti_3; omega))
    refine lv_iload_n hx hb dX12_chairsOn_93 rfl (lv_at hl 3 rfl) ?_
    refine lv_iload_n hx hb dX12_chairsOn_94 rfl (lv_at hl 1 rfl) ?_
    refine sg_calli (va_runS (As := [.int x2, .int 3]) (rest := []) ⟨hx, hb, hml, hown, hts⟩ (kX12_isIn l D ca za h hh f L Q hI x2 3 ⟨by omega, by omega⟩ (by decide) H.size) (va_cwS 2 hts (gw_S (fun _ h => List.mem_cons_of_mem _ h) mw_832 mw_833 mw_619 mw_831) rfl rfl rfl hd_yX12_isIn.2 ⟨Nat.le_of_ble_eq_true rfl, Nat.le_of_ble_eq_true rfl⟩) (sg_preS hA hK hP hS hZ) rfl rfl hl.1 rfl (lv_room (Nat.le_of_ble_eq_true rfl)) dX12_chairsOn_95 ⟨Nat.le_refl _, Nat.le_refl _⟩) hA hS (fun r_69 f_66 L_67 Q_68 H locs hq hP hS => ?_)
    obtain ⟨⟨ef9, eL9, eQ9⟩, hq, u_70⟩ := hq
    replace hs := hs.trans ((if_neg c_64).trans (spl_e u_70 rfl))
    rw [ef9, eL9, eQ9] at hP; clear ef9 eL9 eQ9
    refine lv_if_ne (tgt := 113) hx hb dX12_chairsOn_98 (by decide) (fun c => ?_) (fun c => ?_)
    · skip
      have c_71 : r_69.toInt ≠ 0 := (by first | exact (cm_ne1 ti_0 c) | (have z := bn_ne c; have k1 : (0 : Int32).toInt = 0 := ti_0; omega))
      refine lv_iconst (v := 0) hx hb dX12_chairsOn_113 ic_0 ?_
      refine lv_istore (lv' := [(5, .int 0), (0, .ref (h 0)), (1, .int 3), (2, .int x1), (3, .int x2), (4, .int x3)]) hx hb dX12_chairsOn_114 hl (by decide) rfl (fun ls hl => ?_)
      exact loop_116 5 0 f _ _ _ (hs.trans ((if_neg c_71).trans rfl)) (by have kc0 : (0 : Int32).toInt = 0 := ti_0; omega) (by have zz0_6 : (f 0 6).toInt = v_1.toInt := (congrArg Int32.toInt (show f 0 6 = v_1 from ev_1.symm)); exact ⟨by omega, by omega⟩) (by decide) hI hF hP hS (lv_sub hl [1, 2, 3, 4, 5, 0] rfl)
    · skip
      have c_72 : r_69.toInt = 0 := (by first | exact (cm_eq1 ti_0 c) | (have z := Int32.toInt_inj.mpr c; have k1 : (0 : Int32).toInt = 0 := ti_0; omega))
      refine lv_aload_n hx hb dX12_chairsOn_101 rfl (lv_at hl 0 rfl) ?_
      refine lv_iload_n hx hb dX12_chairsOn_102 rfl (lv_at hl 1 rfl) ?_
      refine lv_iconst (v := 1) hx hb dX12_chairsOn_103 ic_1 ?_
      refine lv_iadd hx hb dX12_chairsOn_104 ?_
      refine W.eq (g2 := F0 m 105 ls [.int 4, .ref (h 0)]) (by rw [show (3 + 1 : Int32) = 4 from by decide]) ?_
      refine lv_iload_n hx hb dX12_chairsOn_105 rfl (lv_at hl 2 rfl) ?_
      refine lv_iload_n hx hb dX12_chairsOn_106 rfl (lv_at hl 3 rfl) ?_
      refine lv_iload hx hb dX12_chairsOn_107 (lv_at hl 4 rfl) ?_
      have q_73 : (f 0 6).toInt = v_1.toInt := (congrArg Int32.toInt (show f 0 6 = v_1 from ev_1.symm))
      refine sg_callv (va_runV (As := [.int 4, .int x1, .int x2, .int x3]) (rest := []) ⟨hx, hb, hml, hown, hts⟩ (kX12_chairsOn_4 l D ca za h hh f L Q hI x1 x2 x3 ⟨by omega, by omega⟩ b2 b3 (by have k0 : (4 : Int32).toInt = 4 := ti_4; omega) H.size) (sl_c12_chairsOn_6_0_0_151_12 hts ⟨Nat.le_of_ble_eq_true rfl, Nat.le_of_ble_eq_true rfl⟩) (sl_vM_0 hA hK hP hS hZ) rfl rfl hl.1 rfl (lv_room (Nat.le_of_ble_eq_true rfl)) dX12_chairsOn_109 ⟨Nat.le_refl _, Nat.le_refl _⟩) hA hS (fun f_75 L_76 Q_77 H locs hq hP hS => ?_)
      obtain ⟨⟨hI, hk_f_75, eL9, eQ9⟩, u_78⟩ := hq
      rw [eL9, eQ9] at hP; clear eL9 eQ9
      have hF : sgK WkX12_chairsOn_3 f f_75 := sgK.tr hF hk_f_75 (by decide +kernel)
      exact hret _ _ _ _ f_75 L Q dX12_chairsOn_112 hP hS ⟨⟨hI, hF, rfl, rfl⟩, (Eq.trans (Eq.symm (hs.trans ((if_pos c_72).trans (spl_e u_78 rfl)))) hsp)⟩
  · skip
    have c_65 : 3 = v_1.toInt := (by first | exact (cm_eq0 ti_3 c) | (have z := Int32.toInt_inj.mpr c; have k0 : (3 : Int32).toInt = 3 := ti_3; omega))
    refine lv_iconst (v := 0) hx hb dX12_chairsOn_8 ic_0 ?_
    refine lv_istore (lv' := [(5, .int 0), (0, .ref (h 0)), (1, .int 3), (2, .int x1), (3, .int x2), (4, .int x3)]) hx hb dX12_chairsOn_9 hl (by decide) rfl (fun ls hl => ?_)
    refine lv_iconst (v := 0) hx hb dX12_chairsOn_11 ic_0 ?_
    refine lv_istore (lv' := [(6, .int 0), (5, .int 0), (0, .ref (h 0)), (1, .int 3), (2, .int x1), (3, .int x2), (4, .int x3)]) hx hb dX12_chairsOn_12 hl (by decide) rfl (fun ls hl => ?_)
    exact loop_14 4 0 0 f _ _ _ (hs.trans ((if_pos c_65).trans rfl)) (by have kc0 : (0 : Int32).toInt = 0 := ti_0; have kc1 : (0 : Int32).toInt = 0 := ti_0; omega) (by have zz0_6 : (f 0 6).toInt = v_1.toInt := (congrArg Int32.toInt (show f 0 6 = v_1 from ev_1.symm)); exact ⟨by omega, by omega⟩) (by decide) hI hF hP hS (lv_sub hl [2, 4, 5, 1, 0] rfl)

abbrev WkX12_chairsOn_2 : List (Nat × Nat × Option Nat) := [(0, 0, some 35), (15, 15, none), (16, 16, none)]
set_option maxHeartbeats 4000000 in
set_option maxRecDepth 100000 in
theorem kX12_chairsOn_2 (l : Launch) (D : va_G) (ca : Nat → ClassId) (za h : Nat → Nat) (hh : sgH 26 h) (f : sg_F) (L : sg_L) (Q : sg_Q) (hI : sgI loM hiM f) (x1 : Int32) (x2 : Int32) (x3 : Int32) (b1 : 0 ≤ x1.toInt ∧ x1.toInt ≤ 2) (b2 : 0 ≤ x2.toInt ∧ x2.toInt ≤ 255) (b3 : 0 ≤ x3.toInt ∧ x3.toInt ≤ 9) (p0 : 2 ≤ (f 0 6).toInt ∧ (f 0 6).toInt ≤ 8) (sz : Nat) : Met l yX12_chairsOn gwX12_chairsOn { frames := 8, cells := 0, slots := 0, locals := 203 } (sgP D vwCl (tyX ca) 26 h (eM ca h) zcM za f L Q sz [.ref (h 0), .int 2, .int x1, .int x2, .int x3]) (sgQv D vwCl 26 h (eM ca h) sz (fun f1 L1 Q1 => ((sgI loM hiM f1 ∧ sgK WkX12_chairsOn_2 f f1 ∧ L1 = L ∧ Q1 = Q) ∧ (f1) = sX12_chairsOn_2 x1 x2 x3 f L))) 0 0 (sgA 26 h sz) := by
  refine sg_ofWv (cc := cX12_chairsOn) (maxL := 7) RX12 (by decide) rfl rfl (Nat.le_of_ble_eq_true rfl) ?_
  intro p e s m below meth cd Qz ls hx hb hml hown hts hK hZ hP hS hl hret
  have hA := sgY.self (n := 26) (h := h) (sz := s.heap.size)
  have hl : lv_has ls 7 [(0, .ref (h 0)), (1, .int 2), (2, .int x1), (3, .int x2), (4, .int x3)] := hl
  obtain ⟨H, hH⟩ : ∃ z : Heap, z = s.heap := ⟨_, rfl⟩
  obtain ⟨locs, hlo⟩ : ∃ z : List Loc, z = [] := ⟨_, rfl⟩
  have hP : va_P D vwCl (sgw 26 h (eM ca h) f L Q) H := by rw [hH]; exact hP
  have hS : va_S (sgA 26 h s.heap.size) s.heap H locs := by rw [hH, hlo]; exact hS
  suffices hgo : W p l e ({ frames := 8, cells := 0, slots := 0, locals := 203 }) s m ([.ref (h 0), .int 2, .int x1, .int x2, .int x3] : List Value).toArray below meth cd H locs 0 0 Qz (F0 m 0 ls []) by rw [hH, hlo] at hgo; exact hgo
  clear hH hlo
  obtain ⟨sp, hsp⟩ : ∃ z : sg_F, z = sX12_chairsOn_2 x1 x2 x3 f L := ⟨_, rfl⟩
  have hs : sp = sX12_chairsOn_2 x1 x2 x3 f L := hsp
  obtain ⟨v_1, ev_1⟩ : ∃ z : Int32, z = f 0 6 := ⟨_, rfl⟩
  replace hs := hs.trans (spl_e ev_1 rfl)
  have q_2 : 0 ≤ v_1.toInt ∧ v_1.toInt ≤ 8 := by rw [ev_1]; exact hI 0 6
  have o_3 : (f 0 6).toInt = v_1.toInt := (congrArg Int32.toInt (show f 0 6 = v_1 from ev_1.symm))
  have hF : sgK WkX12_chairsOn_2 f f := sgK.rf
  have loop_63 : ∀ (n_63 : Nat) (y6_63 : Int32) (fp_63 : sg_F) (H : Heap) (locs : List Loc) (ls : Array Slot), sp = sX12_chairsOn_2_l63 x1 x2 x3 n_63 y6_63 fp_63 L → 2 - y6_63.toInt < (n_63 : Int) → 2 ≤ (fp_63 0 6).toInt ∧ (fp_63 0 6).toInt ≤ 2 → 0 ≤ y6_63.toInt ∧ y6_63.toInt ≤ 2 → sgI loM hiM fp_63 → sgK WkX12_chairsOn_2 f fp_63 → va_P D vwCl (sgw 26 h (eM ca h) fp_63 L Q) H → va_S (sgA 26 h s.heap.size) s.heap H locs → lv_has ls 7 [(0, .ref (h 0)), (6, .int y6_63)] → W p l e ({ frames := 8, cells := 0, slots := 0, locals := 203 }) s m ([.ref (h 0), .int 2, .int x1, .int x2, .int x3] : List Value).toArray below meth cd H locs 0 0 Qz (F0 m 63 ls []) := by
    intro n_63
    induction n_63 with
    | zero => intro y6_63 fp_63 H locs ls hs hm_63 hy0_63 hy1_63 hI hF hP hS hl; exact absurd hm_63 (by omega)
    | succ n_63 ih_63 =>
      intro y6_63 fp_63 H locs ls hs hm_63 hy0_63 hy1_63 hI hF hP hS hl
      have hs : sp = sX12_chairsOn_2_h63 x1 x2 x3 (sX12_chairsOn_2_l63 x1 x2 x3 n_63) y6_63 fp_63 L := hs
      obtain ⟨v_4, ev_4⟩ : ∃ z : Int32, z = fp_63 0 6 := ⟨_, rfl⟩
      replace hs := hs.trans (spl_e ev_4 rfl)
      have q_5 : 0 ≤ v_4.toInt ∧ v_4.toInt ≤ 8 := by rw [ev_4]; exact hI 0 6
      have q_6 : (fp_63 0 6).toInt = v_4.toInt := by rw [ev_4]
      refine lv_iload hx hb dX12_chairsOn_63 (lv_at hl 1 rfl) ?_
      refine lv_aload_n hx hb dX12_chairsOn_65 rfl (lv_at hl 0 rfl) ?_
      refine sl_gM_0_6_12 (v := v_4) hx hb hts hown hK hP (show fp_63 0 6 = v_4 from ev_4.symm) dX12_chairsOn_66 ?_
      refine lv_icmp_ge (tgt := 92) hx hb dX12_chairsOn_69 (by decide) (fun c => ?_) (fun c => ?_)
      · skip
        have c_7 : v_4.toInt ≤ y6_63.toInt := (by first | exact (bn_le c) | (have z := bn_le c; omega))
        exact hret _ _ _ _ fp_63 L Q dX12_chairsOn_92 hP hS ⟨⟨hI, hF, rfl, rfl⟩, (Eq.trans (Eq.symm (hs.trans ((if_neg (Int.not_lt.mpr c_7)).trans rfl))) hsp)⟩
      · skip
        have c_8 : y6_63.toInt < v_4.toInt := (by first | exact (bn_nle c) | (have z := bn_nle c; omega))
        refine lv_aload_n hx hb dX12_chairsOn_72 rfl (lv_at hl 0 rfl) ?_
        refine sl_gM_0_34_12 hx hb hts hown hK hP dX12_chairsOn_73 ?_
        refine lv_iload hx hb dX12_chairsOn_76 (lv_at hl 1 rfl) ?_
        refine lv_aload_n hx hb dX12_chairsOn_78 rfl (lv_at hl 0 rfl) ?_
        refine sl_gM_0_33_12 hx hb hts hown hK hP dX12_chairsOn_79 ?_
        refine lv_iload hx hb dX12_chairsOn_82 (lv_at hl 1 rfl) ?_
        refine sg_iald hx hb hK hP 15 (by decide) 0 rfl rfl (i := y6_63) (vp_in_iff.mpr ⟨by omega, by omega⟩) dX12_chairsOn_84 ?_
        refine lv_topi (fun v_9 ev_9 => ?_)
        have q_10 : 0 ≤ v_9.toInt ∧ v_9.toInt ≤ 7 := by rw [ev_9]; exact hI 15 _
        refine sg_iast hx hb hh hA hK hP hS 16 (by decide) 0 (fun _ => rfl) rfl (i := y6_63) (x := v_9) (vp_in_iff.mpr ⟨by omega, by omega⟩) dX12_chairsOn_85 (fun f_11 H locs ef_11 hP hS => ?_)
        have hI : sgI loM hiM f_11 := by rw [ef_11]; exact sgI.put hI 16 y6_63.toNatClampNeg (show 0 ≤ (v_9 : Int32).toInt ∧ (v_9 : Int32).toInt ≤ 7 from q_10)
        have hF : sgK WkX12_chairsOn_2 f f_11 := sgK.put hF ef_11 (by rfl)
        obtain ⟨v_12, ev_12⟩ : ∃ z : Int32, z = y6_63 + 1 := ⟨_, rfl⟩
        have q_13 : v_12.toInt = y6_63.toInt + 1 := by rw [ev_12]; exact (bn_addc y6_63 1 (by decide) (by omega) (by omega))
        refine lv_iinc (v := v_12) (lv' := [(6, .int v_12), (0, .ref (h 0))]) hx hb dX12_chairsOn_86 hl (k := 1) rfl (by rw [ev_12]; rfl) (by decide) rfl (fun ls hl => ?_)
        refine lv_goto (tgt := 63) hx hb dX12_chairsOn_89 (by decide) ?_
        exact ih_63 v_12 f_11 _ _ _ (hs.trans ((if_pos c_8).trans (spl_e ev_9 (spl_e ef_11 (spl_e ev_12 rfl))))) (by omega) (by have zz0_6 : (f_11 0 6).toInt = v_4.toInt := (congrArg Int32.toInt (show f_11 0 6 = v_4 from (by rw [ef_11, sg_up_n (by decide)]; exact ev_4.symm))); exact ⟨by omega, by omega⟩) ⟨by omega, by omega⟩ hI hF hP hS (lv_sub hl [1, 0] rfl)
  have blk_54 : ∀ (y5_54 : Int32) (fp_54 : sg_F) (H : Heap) (locs : List Loc) (ls : Array Slot), sp = sX12_chairsOn_2_b54 x1 x2 x3 y5_54 fp_54 L → 2 ≤ (fp_54 0 6).toInt ∧ (fp_54 0 6).toInt ≤ 2 → sgI loM hiM fp_54 → sgK WkX12_chairsOn_2 f fp_54 → va_P D vwCl (sgw 26 h (eM ca h) fp_54 L Q) H → va_S (sgA 26 h s.heap.size) s.heap H locs → lv_has ls 7 [(0, .ref (h 0)), (5, .int y5_54)] → W p l e ({ frames := 8, cells := 0, slots := 0, locals := 203 }) s m ([.ref (h 0), .int 2, .int x1, .int x2, .int x3] : List Value).toArray below meth cd H locs 0 0 Qz (F0 m 54 ls []) := by
    intro y5_54 fp_54 H locs ls hs hy0_54 hI hF hP hS hl
    obtain ⟨v_14, ev_14⟩ : ∃ z : Int32, z = fp_54 0 6 := ⟨_, rfl⟩
    have q_15 : 0 ≤ v_14.toInt ∧ v_14.toInt ≤ 8 := by rw [ev_14]; exact hI 0 6
    have q_16 : (fp_54 0 6).toInt = v_14.toInt := by rw [ev_14]
    refine lv_aload_n hx hb dX12_chairsOn_54 rfl (lv_at hl 0 rfl) ?_
    refine lv_iload hx hb dX12_chairsOn_55 (lv_at hl 1 rfl) ?_
    refine sl_pM_0_35_12 (x := y5_54) hx hb hts hown hh hA hK hP hS dX12_chairsOn_57 (fun f_17 H locs ef_17 hP hS => ?_)
    have hI : sgI loM hiM f_17 := by rw [ef_17]; exact sgI.put hI 0 35 (bn_top _)
    have hF : sgK WkX12_chairsOn_2 f f_17 := sgK.put hF ef_17 (by rfl)
    refine lv_iconst (v := 0) hx hb dX12_chairsOn_60 ic_0 ?_
    refine lv_istore (lv' := [(6, .int 0), (0, .ref (h 0)), (5, .int y5_54)]) hx hb dX12_chairsOn_61 hl (by decide) rfl (fun ls hl => ?_)
    exact loop_63 3 0 f_17 _ _ _ (hs.trans ((spl_e ev_14 (spl_e ef_17 rfl)))) (by have kc0 : (0 : Int32).toInt = 0 := ti_0; omega) (by have zz0_6 : (f_17 0 6).toInt = v_14.toInt := (congrArg Int32.toInt (show f_17 0 6 = v_14 from (by rw [ef_17, sg_up_s, sgu_n (by decide)]; exact ev_14.symm))); exact ⟨by omega, by omega⟩) (by decide) hI hF hP hS (lv_sub hl [1, 0] rfl)
  have loop_14 : ∀ (n_14 : Nat) (y5_14 : Int32) (y6_14 : Int32) (fp_14 : sg_F) (H : Heap) (locs : List Loc) (ls : Array Slot), sp = sX12_chairsOn_2_l14 x1 x2 x3 n_14 y5_14 y6_14 fp_14 L → 2 - y6_14.toInt < (n_14 : Int) → 2 ≤ (fp_14 0 6).toInt ∧ (fp_14 0 6).toInt ≤ 2 → 0 ≤ y6_14.toInt ∧ y6_14.toInt ≤ 2 → sgI loM hiM fp_14 → sgK WkX12_chairsOn_2 f fp_14 → va_P D vwCl (sgw 26 h (eM ca h) fp_14 L Q) H → va_S (sgA 26 h s.heap.size) s.heap H locs → lv_has ls 7 [(0, .ref (h 0)), (2, .int x1), (3, .int x2), (5, .int y5_14), (6, .int y6_14)] → W p l e ({ frames := 8, cells := 0, slots := 0, locals := 203 }) s m ([.ref (h 0), .int 2, .int x1, .int x2, .int x3] : List Value).toArray below meth cd H locs 0 0 Qz (F0 m 14 ls []) := by
    intro n_14
    induction n_14 with
    | zero => intro y5_14 y6_14 fp_14 H locs ls hs hm_14 hy0_14 hy1_14 hI hF hP hS hl; exact absurd hm_14 (by omega)
    | succ n_14 ih_14 =>
      intro y5_14 y6_14 fp_14 H locs ls hs hm_14 hy0_14 hy1_14 hI hF hP hS hl
      have hs : sp = sX12_chairsOn_2_h14 x1 x2 x3 (sX12_chairsOn_2_l14 x1 x2 x3 n_14) y5_14 y6_14 fp_14 L := hs
      obtain ⟨v_18, ev_18⟩ : ∃ z : Int32, z = fp_14 0 6 := ⟨_, rfl⟩
      replace hs := hs.trans (spl_e ev_18 rfl)
      have q_19 : 0 ≤ v_18.toInt ∧ v_18.toInt ≤ 8 := by rw [ev_18]; exact hI 0 6
      have q_20 : (fp_14 0 6).toInt = v_18.toInt := by rw [ev_18]
      refine lv_iload hx hb dX12_chairsOn_14 (lv_at hl 4 rfl) ?_
      refine lv_iload_n hx hb dX12_chairsOn_16 rfl (lv_at hl 1 rfl) ?_
      refine lv_icmp_ge (tgt := 38) hx hb dX12_chairsOn_17 (by decide) (fun c => ?_) (fun c => ?_)
      · skip
        have c_21 : x1.toInt ≤ y6_14.toInt := (by first | exact (bn_le c) | (have z := bn_le c; omega))
        refine lv_aload_n hx hb dX12_chairsOn_38 rfl (lv_at hl 0 rfl) ?_
        refine sl_gM_0_35_12 (v := (fp_14 0 35)) hx hb hts hown hK hP rfl dX12_chairsOn_39 ?_
        refine lv_topi (fun v_23 ev_23 => ?_)
        replace hs := hs.trans ((if_neg (Int.not_lt.mpr c_21)).trans (spl_e ev_23 rfl))
        refine lv_if_lt (tgt := 54) hx hb dX12_chairsOn_42 (by decide) (fun c => ?_) (fun c => ?_)
        · skip
          have c_24 : v_23.toInt < 0 := (by first | exact (cm_lt1 ti_0 c) | (have z := bn_lt c; have k1 : (0 : Int32).toInt = 0 := ti_0; omega))
          exact blk_54 y5_14 fp_14 _ _ _ (hs.trans ((if_pos c_24).trans rfl)) (by have zz0_6 : (fp_14 0 6).toInt = v_18.toInt := (congrArg Int32.toInt (show fp_14 0 6 = v_18 from ev_18.symm)); exact ⟨by omega, by omega⟩) hI hF hP hS (lv_sub hl [0, 3] rfl)
        · skip
          have c_25 : 0 ≤ v_23.toInt := (by first | exact (cm_nlt1 ti_0 c) | (have z := bn_nlt c; have k1 : (0 : Int32).toInt = 0 := ti_0; omega))
          replace hs := hs.trans ((if_neg (Int.not_lt.mpr c_25)).trans rfl)
          refine lv_iload hx hb dX12_chairsOn_45 (lv_at hl 3 rfl) ?_
          refine lv_aload_n hx hb dX12_chairsOn_47 rfl (lv_at hl 0 rfl) ?_
          refine sl_gM_0_35_12 (v := v_23) hx hb hts hown hK hP (show fp_14 0 35 = v_23 from ev_23.symm) dX12_chairsOn_48 ?_
          refine lv_icmp_ge (tgt := 92) hx hb dX12_chairsOn_51 (by decide) (fun c => ?_) (fun c => ?_)
          · skip
            have c_26 : v_23.toInt ≤ y5_14.toInt := (by first | exact (bn_le c) | (have z := bn_le c; omega))
            exact hret _ _ _ _ fp_14 L Q dX12_chairsOn_92 hP hS ⟨⟨hI, hF, rfl, rfl⟩, (Eq.trans (Eq.symm (hs.trans ((if_neg (Int.not_lt.mpr c_26)).trans rfl))) hsp)⟩
          · skip
            have c_27 : y5_14.toInt < v_23.toInt := (by first | exact (bn_nle c) | (have z := bn_nle c; omega))
            exact blk_54 y5_14 fp_14 _ _ _ (hs.trans ((if_pos c_27).trans rfl)) (by have zz0_6 : (fp_14 0 6).toInt = v_18.toInt := (congrArg Int32.toInt (show fp_14 0 6 = v_18 from ev_18.symm)); exact ⟨by omega, by omega⟩) hI hF hP hS (lv_sub hl [0, 3] rfl)
      · skip
        have c_22 : y6_14.toInt < x1.toInt := (by first | exact (bn_nle c) | (have z := bn_nle c; omega))
        refine lv_iload hx hb dX12_chairsOn_20 (lv_at hl 3 rfl) ?_
        refine lv_aload_n hx hb dX12_chairsOn_22 rfl (lv_at hl 0 rfl) ?_
        refine lv_iload_n hx hb dX12_chairsOn_23 rfl (lv_at hl 2 rfl) ?_
        refine lv_iload hx hb dX12_chairsOn_24 (lv_at hl 4 rfl) ?_
        refine sg_calli (va_runV (As := [.int x2, .int y6_14]) (rest := [.int y5_14]) ⟨hx, hb, hml, hown, hts⟩ (kX12_chairLoss l D ca za h hh fp_14 L Q hI x2 y6_14 b2 ⟨by omega, by omega⟩ H.size) (sl_c12_chairLoss_1_0_0_21_12 hts ⟨Nat.le_of_ble_eq_true rfl, Nat.le_of_ble_eq_true rfl⟩) (sl_vM_0 hA hK hP hS hZ) rfl rfl hl.1 rfl (lv_room (Nat.le_of_ble_eq_true rfl)) dX12_chairsOn_26 ⟨Nat.le_refl _, Nat.le_refl _⟩) hA hS (fun r_31 f_28 L_29 Q_30 H locs hq hP hS => ?_)
        obtain ⟨⟨ef9, eL9, eQ9⟩, hq, u_32⟩ := hq
        rw [ef9, eL9, eQ9] at hP; clear ef9 eL9 eQ9
        refine lv_iadd hx hb dX12_chairsOn_29 ?_
        refine lv_topi (fun v_33 ev_33 => ?_)
        refine lv_istore (lv' := [(5, .int v_33), (0, .ref (h 0)), (2, .int x1), (3, .int x2), (6, .int y6_14)]) hx hb dX12_chairsOn_30 hl (by decide) rfl (fun ls hl => ?_)
        obtain ⟨v_34, ev_34⟩ : ∃ z : Int32, z = y6_14 + 1 := ⟨_, rfl⟩
        have q_35 : v_34.toInt = y6_14.toInt + 1 := by rw [ev_34]; exact (bn_addc y6_14 1 (by decide) (by omega) (by omega))
        refine lv_iinc (v := v_34) (lv' := [(6, .int v_34), (5, .int v_33), (0, .ref (h 0)), (2, .int x1), (3, .int x2)]) hx hb dX12_chairsOn_32 hl (k := 4) rfl (by rw [ev_34]; rfl) (by decide) rfl (fun ls hl => ?_)
        refine lv_goto (tgt := 14) hx hb dX12_chairsOn_35 (by decide) ?_
        exact ih_14 v_33 v_34 fp_14 _ _ _ (hs.trans ((if_pos c_22).trans (spl_e u_32 (spl_e ev_33 (spl_e ev_34 rfl))))) (by omega) (by have zz0_6 : (fp_14 0 6).toInt = v_18.toInt := (congrArg Int32.toInt (show fp_14 0 6 = v_18 from ev_18.symm)); exact ⟨by omega, by omega⟩) ⟨by omega, by omega⟩ hI hF hP hS (lv_sub hl [2, 3, 4, 1, 0] rfl)
  have loop_116 : ∀ (n_116 : Nat) (y5_116 : Int32) (fp_116 : sg_F) (H : Heap) (locs : List Loc) (ls : Array Slot), sp = sX12_chairsOn_2_l116 x1 x2 x3 n_116 y5_116 fp_116 L → 3 - y5_116.toInt < (n_116 : Int) → 3 ≤ (fp_116 0 6).toInt ∧ (fp_116 0 6).toInt ≤ 8 → 0 ≤ y5_116.toInt ∧ y5_116.toInt ≤ 3 → sgI loM hiM fp_116 → sgK WkX12_chairsOn_2 f fp_116 → va_P D vwCl (sgw 26 h (eM ca h) fp_116 L Q) H → va_S (sgA 26 h s.heap.size) s.heap H locs → lv_has ls 7 [(0, .ref (h 0)), (1, .int 2), (2, .int x1), (3, .int x2), (4, .int x3), (5, .int y5_116)] → W p l e ({ frames := 8, cells := 0, slots := 0, locals := 203 }) s m ([.ref (h 0), .int 2, .int x1, .int x2, .int x3] : List Value).toArray below meth cd H locs 0 0 Qz (F0 m 116 ls []) := by
    intro n_116
    induction n_116 with
    | zero => intro y5_116 fp_116 H locs ls hs hm_116 hy0_116 hy1_116 hI hF hP hS hl; exact absurd hm_116 (by omega)
    | succ n_116 ih_116 =>
      intro y5_116 fp_116 H locs ls hs hm_116 hy0_116 hy1_116 hI hF hP hS hl
      have hs : sp = sX12_chairsOn_2_h116 x1 x2 x3 (sX12_chairsOn_2_l116 x1 x2 x3 n_116) y5_116 fp_116 L := hs
      obtain ⟨v_36, ev_36⟩ : ∃ z : Int32, z = fp_116 0 6 := ⟨_, rfl⟩
      replace hs := hs.trans (spl_e ev_36 rfl)
      have q_37 : 0 ≤ v_36.toInt ∧ v_36.toInt ≤ 8 := by rw [ev_36]; exact hI 0 6
      have q_38 : (fp_116 0 6).toInt = v_36.toInt := by rw [ev_36]
      refine lv_iload hx hb dX12_chairsOn_116 (lv_at hl 5 rfl) ?_
      refine lv_iload hx hb dX12_chairsOn_118 (lv_at hl 4 rfl) ?_
      refine lv_icmp_ge (tgt := 166) hx hb dX12_chairsOn_120 (by decide) (fun c => ?_) (fun c => ?_)
      · skip
        have c_39 : x3.toInt ≤ y5_116.toInt := (by first | exact (bn_le c) | (have z := bn_le c; omega))
        exact hret _ _ _ _ fp_116 L Q dX12_chairsOn_166 hP hS ⟨⟨hI, hF, rfl, rfl⟩, (Eq.trans (Eq.symm (hs.trans ((if_neg (Int.not_lt.mpr c_39)).trans rfl))) hsp)⟩
      · skip
        have c_40 : y5_116.toInt < x3.toInt := (by first | exact (bn_nle c) | (have z := bn_nle c; omega))
        replace hs := hs.trans ((if_pos c_40).trans rfl)
        refine lv_iload hx hb dX12_chairsOn_123 (lv_at hl 5 rfl) ?_
        refine lv_iload_n hx hb dX12_chairsOn_125 rfl (lv_at hl 2 rfl) ?_
        refine lv_icmp_gt (tgt := 166) hx hb dX12_chairsOn_126 (by decide) (fun c => ?_) (fun c => ?_)
        · skip
          have c_41 : x1.toInt < y5_116.toInt := (by first | exact (bn_lt c) | (have z := bn_lt c; omega))
          exact hret _ _ _ _ fp_116 L Q dX12_chairsOn_166 hP hS ⟨⟨hI, hF, rfl, rfl⟩, (Eq.trans (Eq.symm (hs.trans ((if_pos c_41).trans rfl))) hsp)⟩
        · skip
          have c_42 : y5_116.toInt ≤ x1.toInt := (by first | exact (bn_nlt c) | (have z := bn_nlt c; omega))
          refine lv_aload_n hx hb dX12_chairsOn_129 rfl (lv_at hl 0 rfl) ?_
          refine sl_gM_0_33_12 hx hb hts hown hK hP dX12_chairsOn_130 ?_
          refine lv_iload_n hx hb dX12_chairsOn_133 rfl (lv_at hl 1 rfl) ?_
          refine lv_iload hx hb dX12_chairsOn_134 (lv_at hl 5 rfl) ?_
          refine sg_iast hx hb hh hA hK hP hS 15 (by decide) 0 (fun _ => rfl) rfl (i := 2) (x := y5_116) (vp_in_iff.mpr (by decide)) dX12_chairsOn_136 (fun f_43 H locs ef_43 hP hS => ?_)
          replace hs := hs.trans ((if_neg (Int.not_lt.mpr c_42)).trans (spl_e ef_43 rfl))
          have hI : sgI loM hiM f_43 := by rw [ef_43]; exact sgI.put hI 15 (Int32.toNatClampNeg 2) (show 0 ≤ (y5_116 : Int32).toInt ∧ (y5_116 : Int32).toInt ≤ 7 from ⟨by omega, by omega⟩)
          have hF : sgK WkX12_chairsOn_2 f f_43 := sgK.put hF ef_43 (by rfl)
          refine lv_aload_n hx hb dX12_chairsOn_137 rfl (lv_at hl 0 rfl) ?_
          refine lv_iload_n hx hb dX12_chairsOn_138 rfl (lv_at hl 1 rfl) ?_
          refine lv_iconst (v := 1) hx hb dX12_chairsOn_139 ic_1 ?_
          refine lv_iadd hx hb dX12_chairsOn_140 ?_
          refine W.eq (g2 := F0 m 141 ls [.int 3, .ref (h 0)]) (by rw [show (2 + 1 : Int32) = 3 from by decide]) ?_
          refine lv_iload hx hb dX12_chairsOn_141 (lv_at hl 5 rfl) ?_
          refine lv_iload_n hx hb dX12_chairsOn_143 rfl (lv_at hl 2 rfl) ?_
          refine lv_icmp_ne (tgt := 153) hx hb dX12_chairsOn_144 (by decide) (fun c => ?_) (fun c => ?_)
          · skip
            have c_44 : y5_116.toInt ≠ x1.toInt := (by first | exact (bn_ne c) | (have z := bn_ne c; omega))
            refine lv_iload_n hx hb dX12_chairsOn_153 rfl (lv_at hl 2 rfl) ?_
            refine lv_iload_n hx hb dX12_chairsOn_154 rfl (lv_at hl 3 rfl) ?_
            refine lv_iload hx hb dX12_chairsOn_155 (lv_at hl 4 rfl) ?_
            have q_46 : (f_43 0 6).toInt = v_36.toInt := (congrArg Int32.toInt (show f_43 0 6 = v_36 from (by rw [ef_43, sg_up_n (by decide)]; exact ev_36.symm)))
            refine sg_callv (va_runV (As := [.int 3, .int x1, .int x2, .int x3]) (rest := []) ⟨hx, hb, hml, hown, hts⟩ (kX12_chairsOn_3 l D ca za h hh f_43 L Q hI x1 x2 x3 ⟨by omega, by omega⟩ b2 b3 (by have k0 : (3 : Int32).toInt = 3 := ti_3; omega) H.size) (sl_c12_chairsOn_7_0_0_177_12 hts ⟨Nat.le_of_ble_eq_true rfl, Nat.le_of_ble_eq_true rfl⟩) (sl_vM_0 hA hK hP hS hZ) rfl rfl hl.1 rfl (lv_room (Nat.le_of_ble_eq_true rfl)) dX12_chairsOn_157 ⟨Nat.le_refl _, Nat.le_refl _⟩) hA hS (fun f_48 L_49 Q_50 H locs hq hP hS => ?_)
            obtain ⟨⟨hI, hk_f_48, eL9, eQ9⟩, u_51⟩ := hq
            rw [eL9, eQ9] at hP; clear eL9 eQ9
            have hF : sgK WkX12_chairsOn_2 f f_48 := sgK.tr hF hk_f_48 (by decide +kernel)
            obtain ⟨v_52, ev_52⟩ : ∃ z : Int32, z = y5_116 + 1 := ⟨_, rfl⟩
            have q_53 : v_52.toInt = y5_116.toInt + 1 := by rw [ev_52]; exact (bn_addc y5_116 1 (by decide) (by omega) (by omega))
            refine lv_iinc (v := v_52) (lv' := [(5, .int v_52), (0, .ref (h 0)), (1, .int 2), (2, .int x1), (3, .int x2), (4, .int x3)]) hx hb dX12_chairsOn_160 hl (k := 5) rfl (by rw [ev_52]; rfl) (by decide) rfl (fun ls hl => ?_)
            refine lv_goto (tgt := 116) hx hb dX12_chairsOn_163 (by decide) ?_
            exact ih_116 v_52 f_48 _ _ _ (hs.trans ((if_neg c_44).trans (spl_e u_51 (spl_e ev_52 rfl)))) (by omega) (by have zz0_6 : (f_48 0 6).toInt = v_36.toInt := (congrArg Int32.toInt (show f_48 0 6 = v_36 from ((hk_f_48 0 6 (by decide)).trans (by rw [ef_43, sg_up_n (by decide)]; exact ev_36.symm)))); exact ⟨by omega, by omega⟩) ⟨by omega, by omega⟩ hI hF hP hS (lv_sub hl [1, 2, 3, 4, 5, 0] rfl)
          · skip
            have c_45 : y5_116.toInt = x1.toInt := (by first | exact (Int32.toInt_inj.mpr c) | (have z := Int32.toInt_inj.mpr c; omega))
            refine lv_iload_n hx hb dX12_chairsOn_147 rfl (lv_at hl 2 rfl) ?_
            refine lv_iconst (v := 1) hx hb dX12_chairsOn_148 ic_1 ?_
            refine lv_iadd hx hb dX12_chairsOn_149 ?_
            refine lv_topi (fun v_54 ev_54 => ?_)
            have q_55 : v_54.toInt = x1.toInt + 1 := by rw [ev_54]; first | exact cm_add ti_1 (by omega) (by omega) | (have k1 : (1 : Int32).toInt = 1 := ti_1; exact (bn_addI (by omega) (by omega)).trans (by omega))
            refine lv_goto (tgt := 154) hx hb dX12_chairsOn_150 (by decide) ?_
            refine lv_iload_n hx hb dX12_chairsOn_154 rfl (lv_at hl 3 rfl) ?_
            refine lv_iload hx hb dX12_chairsOn_155 (lv_at hl 4 rfl) ?_
            have q_56 : (f_43 0 6).toInt = v_36.toInt := (congrArg Int32.toInt (show f_43 0 6 = v_36 from (by rw [ef_43, sg_up_n (by decide)]; exact ev_36.symm)))
            refine sg_callv (va_runV (As := [.int 3, .int v_54, .int x2, .int x3]) (rest := []) ⟨hx, hb, hml, hown, hts⟩ (kX12_chairsOn_3 l D ca za h hh f_43 L Q hI v_54 x2 x3 ⟨by omega, by omega⟩ b2 b3 (by have k0 : (3 : Int32).toInt = 3 := ti_3; omega) H.size) (sl_c12_chairsOn_7_0_0_177_12 hts ⟨Nat.le_of_ble_eq_true rfl, Nat.le_of_ble_eq_true rfl⟩) (sl_vM_0 hA hK hP hS hZ) rfl rfl hl.1 rfl (lv_room (Nat.le_of_ble_eq_true rfl)) dX12_chairsOn_157 ⟨Nat.le_refl _, Nat.le_refl _⟩) hA hS (fun f_58 L_59 Q_60 H locs hq hP hS => ?_)
            obtain ⟨⟨hI, hk_f_58, eL9, eQ9⟩, u_61⟩ := hq
            rw [eL9, eQ9] at hP; clear eL9 eQ9
            have hF : sgK WkX12_chairsOn_2 f f_58 := sgK.tr hF hk_f_58 (by decide +kernel)
            obtain ⟨v_62, ev_62⟩ : ∃ z : Int32, z = y5_116 + 1 := ⟨_, rfl⟩
            have q_63 : v_62.toInt = y5_116.toInt + 1 := by rw [ev_62]; exact (bn_addc y5_116 1 (by decide) (by omega) (by omega))
            refine lv_iinc (v := v_62) (lv' := [(5, .int v_62), (0, .ref (h 0)), (1, .int 2), (2, .int x1), (3, .int x2), (4, .int x3)]) hx hb dX12_chairsOn_160 hl (k := 5) rfl (by rw [ev_62]; rfl) (by decide) rfl (fun ls hl => ?_)
            refine lv_goto (tgt := 116) hx hb dX12_chairsOn_163 (by decide) ?_
            exact ih_116 v_62 f_58 _ _ _ (hs.trans ((if_pos c_45).trans (spl_e ev_54 (spl_e u_61 (spl_e ev_62 rfl))))) (by omega) (by have zz0_6 : (f_58 0 6).toInt = v_36.toInt := (congrArg Int32.toInt (show f_58 0 6 = v_36 from ((hk_f_58 0 6 (by decide)).trans (by rw [ef_43, sg_up_n (by decide)]; exact ev_36.symm)))); exact ⟨by omega, by omega⟩) ⟨by omega, by omega⟩ hI hF hP hS (lv_sub hl [1, 2, 3, 4, 5, 0] rfl)
  refine lv_iload_n hx hb dX12_chairsOn_0 rfl (lv_at hl 1 rfl) ?_
  refine lv_aload_n hx hb dX12_chairsOn_1 rfl (lv_at hl 0 rfl) ?_
  refine sl_gM_0_6_12 (v := v_1) hx hb hts hown hK hP (show f 0 6 = v_1 from ev_1.symm) dX12_chairsOn_2 ?_
  refine lv_icmp_ne (tgt := 93) hx hb dX12_chairsOn_5 (by decide) (fun c => ?_) (fun c => ?_)
  · skip
    have c_64 : 2 ≠ v_1.toInt := (by first | exact (cm_ne0 ti_2 c) | (have z := bn_ne c; have k0 : (2 : Int32).toInt = 2 := ti_2; omega))
    refine lv_iload_n hx hb dX12_chairsOn_93 rfl (lv_at hl 3 rfl) ?_
    refine lv_iload_n hx hb dX12_chairsOn_94 rfl (lv_at hl 1 rfl) ?_
    refine sg_calli (va_runS (As := [.int x2, .int 2]) (rest := []) ⟨hx, hb, hml, hown, hts⟩ (kX12_isIn l D ca za h hh f L Q hI x2 2 ⟨by omega, by omega⟩ (by decide) H.size) (va_cwS 2 hts (gw_S (fun _ h => List.mem_cons_of_mem _ h) mw_832 mw_833 mw_619 mw_831) rfl rfl rfl hd_yX12_isIn.2 ⟨Nat.le_of_ble_eq_true rfl, Nat.le_of_ble_eq_true rfl⟩) (sg_preS hA hK hP hS hZ) rfl rfl hl.1 rfl (lv_room (Nat.le_of_ble_eq_true rfl)) dX12_chairsOn_95 ⟨Nat.le_refl _, Nat.le_refl _⟩) hA hS (fun r_69 f_66 L_67 Q_68 H locs hq hP hS => ?_)
    obtain ⟨⟨ef9, eL9, eQ9⟩, hq, u_70⟩ := hq
    replace hs := hs.trans ((if_neg c_64).trans (spl_e u_70 rfl))
    rw [ef9, eL9, eQ9] at hP; clear ef9 eL9 eQ9
    refine lv_if_ne (tgt := 113) hx hb dX12_chairsOn_98 (by decide) (fun c => ?_) (fun c => ?_)
    · skip
      have c_71 : r_69.toInt ≠ 0 := (by first | exact (cm_ne1 ti_0 c) | (have z := bn_ne c; have k1 : (0 : Int32).toInt = 0 := ti_0; omega))
      refine lv_iconst (v := 0) hx hb dX12_chairsOn_113 ic_0 ?_
      refine lv_istore (lv' := [(5, .int 0), (0, .ref (h 0)), (1, .int 2), (2, .int x1), (3, .int x2), (4, .int x3)]) hx hb dX12_chairsOn_114 hl (by decide) rfl (fun ls hl => ?_)
      exact loop_116 4 0 f _ _ _ (hs.trans ((if_neg c_71).trans rfl)) (by have kc0 : (0 : Int32).toInt = 0 := ti_0; omega) (by have zz0_6 : (f 0 6).toInt = v_1.toInt := (congrArg Int32.toInt (show f 0 6 = v_1 from ev_1.symm)); exact ⟨by omega, by omega⟩) (by decide) hI hF hP hS (lv_sub hl [1, 2, 3, 4, 5, 0] rfl)
    · skip
      have c_72 : r_69.toInt = 0 := (by first | exact (cm_eq1 ti_0 c) | (have z := Int32.toInt_inj.mpr c; have k1 : (0 : Int32).toInt = 0 := ti_0; omega))
      refine lv_aload_n hx hb dX12_chairsOn_101 rfl (lv_at hl 0 rfl) ?_
      refine lv_iload_n hx hb dX12_chairsOn_102 rfl (lv_at hl 1 rfl) ?_
      refine lv_iconst (v := 1) hx hb dX12_chairsOn_103 ic_1 ?_
      refine lv_iadd hx hb dX12_chairsOn_104 ?_
      refine W.eq (g2 := F0 m 105 ls [.int 3, .ref (h 0)]) (by rw [show (2 + 1 : Int32) = 3 from by decide]) ?_
      refine lv_iload_n hx hb dX12_chairsOn_105 rfl (lv_at hl 2 rfl) ?_
      refine lv_iload_n hx hb dX12_chairsOn_106 rfl (lv_at hl 3 rfl) ?_
      refine lv_iload hx hb dX12_chairsOn_107 (lv_at hl 4 rfl) ?_
      have q_73 : (f 0 6).toInt = v_1.toInt := (congrArg Int32.toInt (show f 0 6 = v_1 from ev_1.symm))
      refine sg_callv (va_runV (As := [.int 3, .int x1, .int x2, .int x3]) (rest := []) ⟨hx, hb, hml, hown, hts⟩ (kX12_chairsOn_3 l D ca za h hh f L Q hI x1 x2 x3 ⟨by omega, by omega⟩ b2 b3 (by have k0 : (3 : Int32).toInt = 3 := ti_3; omega) H.size) (sl_c12_chairsOn_7_0_0_177_12 hts ⟨Nat.le_of_ble_eq_true rfl, Nat.le_of_ble_eq_true rfl⟩) (sl_vM_0 hA hK hP hS hZ) rfl rfl hl.1 rfl (lv_room (Nat.le_of_ble_eq_true rfl)) dX12_chairsOn_109 ⟨Nat.le_refl _, Nat.le_refl _⟩) hA hS (fun f_75 L_76 Q_77 H locs hq hP hS => ?_)
      obtain ⟨⟨hI, hk_f_75, eL9, eQ9⟩, u_78⟩ := hq
      rw [eL9, eQ9] at hP; clear eL9 eQ9
      have hF : sgK WkX12_chairsOn_2 f f_75 := sgK.tr hF hk_f_75 (by decide +kernel)
      exact hret _ _ _ _ f_75 L Q dX12_chairsOn_112 hP hS ⟨⟨hI, hF, rfl, rfl⟩, (Eq.trans (Eq.symm (hs.trans ((if_pos c_72).trans (spl_e u_78 rfl)))) hsp)⟩
  · skip
    have c_65 : 2 = v_1.toInt := (by first | exact (cm_eq0 ti_2 c) | (have z := Int32.toInt_inj.mpr c; have k0 : (2 : Int32).toInt = 2 := ti_2; omega))
    refine lv_iconst (v := 0) hx hb dX12_chairsOn_8 ic_0 ?_
    refine lv_istore (lv' := [(5, .int 0), (0, .ref (h 0)), (1, .int 2), (2, .int x1), (3, .int x2), (4, .int x3)]) hx hb dX12_chairsOn_9 hl (by decide) rfl (fun ls hl => ?_)
    refine lv_iconst (v := 0) hx hb dX12_chairsOn_11 ic_0 ?_
    refine lv_istore (lv' := [(6, .int 0), (5, .int 0), (0, .ref (h 0)), (1, .int 2), (2, .int x1), (3, .int x2), (4, .int x3)]) hx hb dX12_chairsOn_12 hl (by decide) rfl (fun ls hl => ?_)
    exact loop_14 3 0 0 f _ _ _ (hs.trans ((if_pos c_65).trans rfl)) (by have kc0 : (0 : Int32).toInt = 0 := ti_0; have kc1 : (0 : Int32).toInt = 0 := ti_0; omega) (by have zz0_6 : (f 0 6).toInt = v_1.toInt := (congrArg Int32.toInt (show f 0 6 = v_1 from ev_1.symm)); exact ⟨by omega, by omega⟩) (by decide) hI hF hP hS (lv_sub hl [2, 4, 5, 1, 0] rfl)

abbrev WkX12_chairsOn_1 : List (Nat × Nat × Option Nat) := [(0, 0, some 35), (15, 15, none), (16, 16, none)]
set_option maxHeartbeats 4000000 in
set_option maxRecDepth 100000 in
theorem kX12_chairsOn_1 (l : Launch) (D : va_G) (ca : Nat → ClassId) (za h : Nat → Nat) (hh : sgH 26 h) (f : sg_F) (L : sg_L) (Q : sg_Q) (hI : sgI loM hiM f) (x1 : Int32) (x2 : Int32) (x3 : Int32) (b1 : 0 ≤ x1.toInt ∧ x1.toInt ≤ 1) (b2 : 0 ≤ x2.toInt ∧ x2.toInt ≤ 255) (b3 : 0 ≤ x3.toInt ∧ x3.toInt ≤ 9) (p0 : 1 ≤ (f 0 6).toInt ∧ (f 0 6).toInt ≤ 8) (sz : Nat) : Met l yX12_chairsOn gwX12_chairsOn { frames := 9, cells := 0, slots := 0, locals := 229 } (sgP D vwCl (tyX ca) 26 h (eM ca h) zcM za f L Q sz [.ref (h 0), .int 1, .int x1, .int x2, .int x3]) (sgQv D vwCl 26 h (eM ca h) sz (fun f1 L1 Q1 => ((sgI loM hiM f1 ∧ sgK WkX12_chairsOn_1 f f1 ∧ L1 = L ∧ Q1 = Q) ∧ (f1) = sX12_chairsOn_1 x1 x2 x3 f L))) 0 0 (sgA 26 h sz) := by
  refine sg_ofWv (cc := cX12_chairsOn) (maxL := 7) RX12 (by decide) rfl rfl (Nat.le_of_ble_eq_true rfl) ?_
  intro p e s m below meth cd Qz ls hx hb hml hown hts hK hZ hP hS hl hret
  have hA := sgY.self (n := 26) (h := h) (sz := s.heap.size)
  have hl : lv_has ls 7 [(0, .ref (h 0)), (1, .int 1), (2, .int x1), (3, .int x2), (4, .int x3)] := hl
  obtain ⟨H, hH⟩ : ∃ z : Heap, z = s.heap := ⟨_, rfl⟩
  obtain ⟨locs, hlo⟩ : ∃ z : List Loc, z = [] := ⟨_, rfl⟩
  have hP : va_P D vwCl (sgw 26 h (eM ca h) f L Q) H := by rw [hH]; exact hP
  have hS : va_S (sgA 26 h s.heap.size) s.heap H locs := by rw [hH, hlo]; exact hS
  suffices hgo : W p l e ({ frames := 9, cells := 0, slots := 0, locals := 229 }) s m ([.ref (h 0), .int 1, .int x1, .int x2, .int x3] : List Value).toArray below meth cd H locs 0 0 Qz (F0 m 0 ls []) by rw [hH, hlo] at hgo; exact hgo
  clear hH hlo
  obtain ⟨sp, hsp⟩ : ∃ z : sg_F, z = sX12_chairsOn_1 x1 x2 x3 f L := ⟨_, rfl⟩
  have hs : sp = sX12_chairsOn_1 x1 x2 x3 f L := hsp
  obtain ⟨v_1, ev_1⟩ : ∃ z : Int32, z = f 0 6 := ⟨_, rfl⟩
  replace hs := hs.trans (spl_e ev_1 rfl)
  have q_2 : 0 ≤ v_1.toInt ∧ v_1.toInt ≤ 8 := by rw [ev_1]; exact hI 0 6
  have o_3 : (f 0 6).toInt = v_1.toInt := (congrArg Int32.toInt (show f 0 6 = v_1 from ev_1.symm))
  have hF : sgK WkX12_chairsOn_1 f f := sgK.rf
  have loop_63 : ∀ (n_63 : Nat) (y6_63 : Int32) (fp_63 : sg_F) (H : Heap) (locs : List Loc) (ls : Array Slot), sp = sX12_chairsOn_1_l63 x1 x2 x3 n_63 y6_63 fp_63 L → 1 - y6_63.toInt < (n_63 : Int) → 1 ≤ (fp_63 0 6).toInt ∧ (fp_63 0 6).toInt ≤ 1 → 0 ≤ y6_63.toInt ∧ y6_63.toInt ≤ 1 → sgI loM hiM fp_63 → sgK WkX12_chairsOn_1 f fp_63 → va_P D vwCl (sgw 26 h (eM ca h) fp_63 L Q) H → va_S (sgA 26 h s.heap.size) s.heap H locs → lv_has ls 7 [(0, .ref (h 0)), (6, .int y6_63)] → W p l e ({ frames := 9, cells := 0, slots := 0, locals := 229 }) s m ([.ref (h 0), .int 1, .int x1, .int x2, .int x3] : List Value).toArray below meth cd H locs 0 0 Qz (F0 m 63 ls []) := by
    intro n_63
    induction n_63 with
    | zero => intro y6_63 fp_63 H locs ls hs hm_63 hy0_63 hy1_63 hI hF hP hS hl; exact absurd hm_63 (by omega)
    | succ n_63 ih_63 =>
      intro y6_63 fp_63 H locs ls hs hm_63 hy0_63 hy1_63 hI hF hP hS hl
      have hs : sp = sX12_chairsOn_1_h63 x1 x2 x3 (sX12_chairsOn_1_l63 x1 x2 x3 n_63) y6_63 fp_63 L := hs
      obtain ⟨v_4, ev_4⟩ : ∃ z : Int32, z = fp_63 0 6 := ⟨_, rfl⟩
      replace hs := hs.trans (spl_e ev_4 rfl)
      have q_5 : 0 ≤ v_4.toInt ∧ v_4.toInt ≤ 8 := by rw [ev_4]; exact hI 0 6
      have q_6 : (fp_63 0 6).toInt = v_4.toInt := by rw [ev_4]
      refine lv_iload hx hb dX12_chairsOn_63 (lv_at hl 1 rfl) ?_
      refine lv_aload_n hx hb dX12_chairsOn_65 rfl (lv_at hl 0 rfl) ?_
      refine sl_gM_0_6_12 (v := v_4) hx hb hts hown hK hP (show fp_63 0 6 = v_4 from ev_4.symm) dX12_chairsOn_66 ?_
      refine lv_icmp_ge (tgt := 92) hx hb dX12_chairsOn_69 (by decide) (fun c => ?_) (fun c => ?_)
      · skip
        have c_7 : v_4.toInt ≤ y6_63.toInt := (by first | exact (bn_le c) | (have z := bn_le c; omega))
        exact hret _ _ _ _ fp_63 L Q dX12_chairsOn_92 hP hS ⟨⟨hI, hF, rfl, rfl⟩, (Eq.trans (Eq.symm (hs.trans ((if_neg (Int.not_lt.mpr c_7)).trans rfl))) hsp)⟩
      · skip
        have c_8 : y6_63.toInt < v_4.toInt := (by first | exact (bn_nle c) | (have z := bn_nle c; omega))
        refine lv_aload_n hx hb dX12_chairsOn_72 rfl (lv_at hl 0 rfl) ?_
        refine sl_gM_0_34_12 hx hb hts hown hK hP dX12_chairsOn_73 ?_
        refine lv_iload hx hb dX12_chairsOn_76 (lv_at hl 1 rfl) ?_
        refine lv_aload_n hx hb dX12_chairsOn_78 rfl (lv_at hl 0 rfl) ?_
        refine sl_gM_0_33_12 hx hb hts hown hK hP dX12_chairsOn_79 ?_
        refine lv_iload hx hb dX12_chairsOn_82 (lv_at hl 1 rfl) ?_
        refine sg_iald hx hb hK hP 15 (by decide) 0 rfl rfl (i := y6_63) (vp_in_iff.mpr ⟨by omega, by omega⟩) dX12_chairsOn_84 ?_
        refine lv_topi (fun v_9 ev_9 => ?_)
        have q_10 : 0 ≤ v_9.toInt ∧ v_9.toInt ≤ 7 := by rw [ev_9]; exact hI 15 _
        refine sg_iast hx hb hh hA hK hP hS 16 (by decide) 0 (fun _ => rfl) rfl (i := y6_63) (x := v_9) (vp_in_iff.mpr ⟨by omega, by omega⟩) dX12_chairsOn_85 (fun f_11 H locs ef_11 hP hS => ?_)
        have hI : sgI loM hiM f_11 := by rw [ef_11]; exact sgI.put hI 16 y6_63.toNatClampNeg (show 0 ≤ (v_9 : Int32).toInt ∧ (v_9 : Int32).toInt ≤ 7 from q_10)
        have hF : sgK WkX12_chairsOn_1 f f_11 := sgK.put hF ef_11 (by rfl)
        obtain ⟨v_12, ev_12⟩ : ∃ z : Int32, z = y6_63 + 1 := ⟨_, rfl⟩
        have q_13 : v_12.toInt = y6_63.toInt + 1 := by rw [ev_12]; exact (bn_addc y6_63 1 (by decide) (by omega) (by omega))
        refine lv_iinc (v := v_12) (lv' := [(6, .int v_12), (0, .ref (h 0))]) hx hb dX12_chairsOn_86 hl (k := 1) rfl (by rw [ev_12]; rfl) (by decide) rfl (fun ls hl => ?_)
        refine lv_goto (tgt := 63) hx hb dX12_chairsOn_89 (by decide) ?_
        exact ih_63 v_12 f_11 _ _ _ (hs.trans ((if_pos c_8).trans (spl_e ev_9 (spl_e ef_11 (spl_e ev_12 rfl))))) (by omega) (by have zz0_6 : (f_11 0 6).toInt = v_4.toInt := (congrArg Int32.toInt (show f_11 0 6 = v_4 from (by rw [ef_11, sg_up_n (by decide)]; exact ev_4.symm))); exact ⟨by omega, by omega⟩) ⟨by omega, by omega⟩ hI hF hP hS (lv_sub hl [1, 0] rfl)
  have blk_54 : ∀ (y5_54 : Int32) (fp_54 : sg_F) (H : Heap) (locs : List Loc) (ls : Array Slot), sp = sX12_chairsOn_1_b54 x1 x2 x3 y5_54 fp_54 L → 1 ≤ (fp_54 0 6).toInt ∧ (fp_54 0 6).toInt ≤ 1 → sgI loM hiM fp_54 → sgK WkX12_chairsOn_1 f fp_54 → va_P D vwCl (sgw 26 h (eM ca h) fp_54 L Q) H → va_S (sgA 26 h s.heap.size) s.heap H locs → lv_has ls 7 [(0, .ref (h 0)), (5, .int y5_54)] → W p l e ({ frames := 9, cells := 0, slots := 0, locals := 229 }) s m ([.ref (h 0), .int 1, .int x1, .int x2, .int x3] : List Value).toArray below meth cd H locs 0 0 Qz (F0 m 54 ls []) := by
    intro y5_54 fp_54 H locs ls hs hy0_54 hI hF hP hS hl
    obtain ⟨v_14, ev_14⟩ : ∃ z : Int32, z = fp_54 0 6 := ⟨_, rfl⟩
    have q_15 : 0 ≤ v_14.toInt ∧ v_14.toInt ≤ 8 := by rw [ev_14]; exact hI 0 6
    have q_16 : (fp_54 0 6).toInt = v_14.toInt := by rw [ev_14]
    refine lv_aload_n hx hb dX12_chairsOn_54 rfl (lv_at hl 0 rfl) ?_
    refine lv_iload hx hb dX12_chairsOn_55 (lv_at hl 1 rfl) ?_
    refine sl_pM_0_35_12 (x := y5_54) hx hb hts hown hh hA hK hP hS dX12_chairsOn_57 (fun f_17 H locs ef_17 hP hS => ?_)
    have hI : sgI loM hiM f_17 := by rw [ef_17]; exact sgI.put hI 0 35 (bn_top _)
    have hF : sgK WkX12_chairsOn_1 f f_17 := sgK.put hF ef_17 (by rfl)
    refine lv_iconst (v := 0) hx hb dX12_chairsOn_60 ic_0 ?_
    refine lv_istore (lv' := [(6, .int 0), (0, .ref (h 0)), (5, .int y5_54)]) hx hb dX12_chairsOn_61 hl (by decide) rfl (fun ls hl => ?_)
    exact loop_63 2 0 f_17 _ _ _ (hs.trans ((spl_e ev_14 (spl_e ef_17 rfl)))) (by have kc0 : (0 : Int32).toInt = 0 := ti_0; omega) (by have zz0_6 : (f_17 0 6).toInt = v_14.toInt := (congrArg Int32.toInt (show f_17 0 6 = v_14 from (by rw [ef_17, sg_up_s, sgu_n (by decide)]; exact ev_14.symm))); exact ⟨by omega, by omega⟩) (by decide) hI hF hP hS (lv_sub hl [1, 0] rfl)
  have loop_14 : ∀ (n_14 : Nat) (y5_14 : Int32) (y6_14 : Int32) (fp_14 : sg_F) (H : Heap) (locs : List Loc) (ls : Array Slot), sp = sX12_chairsOn_1_l14 x1 x2 x3 n_14 y5_14 y6_14 fp_14 L → 1 - y6_14.toInt < (n_14 : Int) → 1 ≤ (fp_14 0 6).toInt ∧ (fp_14 0 6).toInt ≤ 1 → 0 ≤ y6_14.toInt ∧ y6_14.toInt ≤ 1 → sgI loM hiM fp_14 → sgK WkX12_chairsOn_1 f fp_14 → va_P D vwCl (sgw 26 h (eM ca h) fp_14 L Q) H → va_S (sgA 26 h s.heap.size) s.heap H locs → lv_has ls 7 [(0, .ref (h 0)), (2, .int x1), (3, .int x2), (5, .int y5_14), (6, .int y6_14)] → W p l e ({ frames := 9, cells := 0, slots := 0, locals := 229 }) s m ([.ref (h 0), .int 1, .int x1, .int x2, .int x3] : List Value).toArray below meth cd H locs 0 0 Qz (F0 m 14 ls []) := by
    intro n_14
    induction n_14 with
    | zero => intro y5_14 y6_14 fp_14 H locs ls hs hm_14 hy0_14 hy1_14 hI hF hP hS hl; exact absurd hm_14 (by omega)
    | succ n_14 ih_14 =>
      intro y5_14 y6_14 fp_14 H locs ls hs hm_14 hy0_14 hy1_14 hI hF hP hS hl
      have hs : sp = sX12_chairsOn_1_h14 x1 x2 x3 (sX12_chairsOn_1_l14 x1 x2 x3 n_14) y5_14 y6_14 fp_14 L := hs
      obtain ⟨v_18, ev_18⟩ : ∃ z : Int32, z = fp_14 0 6 := ⟨_, rfl⟩
      replace hs := hs.trans (spl_e ev_18 rfl)
      have q_19 : 0 ≤ v_18.toInt ∧ v_18.toInt ≤ 8 := by rw [ev_18]; exact hI 0 6
      have q_20 : (fp_14 0 6).toInt = v_18.toInt := by rw [ev_18]
      refine lv_iload hx hb dX12_chairsOn_14 (lv_at hl 4 rfl) ?_
      refine lv_iload_n hx hb dX12_chairsOn_16 rfl (lv_at hl 1 rfl) ?_
      refine lv_icmp_ge (tgt := 38) hx hb dX12_chairsOn_17 (by decide) (fun c => ?_) (fun c => ?_)
      · skip
        have c_21 : x1.toInt ≤ y6_14.toInt := (by first | exact (bn_le c) | (have z := bn_le c; omega))
        refine lv_aload_n hx hb dX12_chairsOn_38 rfl (lv_at hl 0 rfl) ?_
        refine sl_gM_0_35_12 (v := (fp_14 0 35)) hx hb hts hown hK hP rfl dX12_chairsOn_39 ?_
        refine lv_topi (fun v_23 ev_23 => ?_)
        replace hs := hs.trans ((if_neg (Int.not_lt.mpr c_21)).trans (spl_e ev_23 rfl))
        refine lv_if_lt (tgt := 54) hx hb dX12_chairsOn_42 (by decide) (fun c => ?_) (fun c => ?_)
        · skip
          have c_24 : v_23.toInt < 0 := (by first | exact (cm_lt1 ti_0 c) | (have z := bn_lt c; have k1 : (0 : Int32).toInt = 0 := ti_0; omega))
          exact blk_54 y5_14 fp_14 _ _ _ (hs.trans ((if_pos c_24).trans rfl)) (by have zz0_6 : (fp_14 0 6).toInt = v_18.toInt := (congrArg Int32.toInt (show fp_14 0 6 = v_18 from ev_18.symm)); exact ⟨by omega, by omega⟩) hI hF hP hS (lv_sub hl [0, 3] rfl)
        · skip
          have c_25 : 0 ≤ v_23.toInt := (by first | exact (cm_nlt1 ti_0 c) | (have z := bn_nlt c; have k1 : (0 : Int32).toInt = 0 := ti_0; omega))
          replace hs := hs.trans ((if_neg (Int.not_lt.mpr c_25)).trans rfl)
          refine lv_iload hx hb dX12_chairsOn_45 (lv_at hl 3 rfl) ?_
          refine lv_aload_n hx hb dX12_chairsOn_47 rfl (lv_at hl 0 rfl) ?_
          refine sl_gM_0_35_12 (v := v_23) hx hb hts hown hK hP (show fp_14 0 35 = v_23 from ev_23.symm) dX12_chairsOn_48 ?_
          refine lv_icmp_ge (tgt := 92) hx hb dX12_chairsOn_51 (by decide) (fun c => ?_) (fun c => ?_)
          · skip
            have c_26 : v_23.toInt ≤ y5_14.toInt := (by first | exact (bn_le c) | (have z := bn_le c; omega))
            exact hret _ _ _ _ fp_14 L Q dX12_chairsOn_92 hP hS ⟨⟨hI, hF, rfl, rfl⟩, (Eq.trans (Eq.symm (hs.trans ((if_neg (Int.not_lt.mpr c_26)).trans rfl))) hsp)⟩
          · skip
            have c_27 : y5_14.toInt < v_23.toInt := (by first | exact (bn_nle c) | (have z := bn_nle c; omega))
            exact blk_54 y5_14 fp_14 _ _ _ (hs.trans ((if_pos c_27).trans rfl)) (by have zz0_6 : (fp_14 0 6).toInt = v_18.toInt := (congrArg Int32.toInt (show fp_14 0 6 = v_18 from ev_18.symm)); exact ⟨by omega, by omega⟩) hI hF hP hS (lv_sub hl [0, 3] rfl)
      · skip
        have c_22 : y6_14.toInt < x1.toInt := (by first | exact (bn_nle c) | (have z := bn_nle c; omega))
        refine lv_iload hx hb dX12_chairsOn_20 (lv_at hl 3 rfl) ?_
        refine lv_aload_n hx hb dX12_chairsOn_22 rfl (lv_at hl 0 rfl) ?_
        refine lv_iload_n hx hb dX12_chairsOn_23 rfl (lv_at hl 2 rfl) ?_
        refine lv_iload hx hb dX12_chairsOn_24 (lv_at hl 4 rfl) ?_
        refine sg_calli (va_runV (As := [.int x2, .int y6_14]) (rest := [.int y5_14]) ⟨hx, hb, hml, hown, hts⟩ (kX12_chairLoss l D ca za h hh fp_14 L Q hI x2 y6_14 b2 ⟨by omega, by omega⟩ H.size) (sl_c12_chairLoss_1_0_0_21_12 hts ⟨Nat.le_of_ble_eq_true rfl, Nat.le_of_ble_eq_true rfl⟩) (sl_vM_0 hA hK hP hS hZ) rfl rfl hl.1 rfl (lv_room (Nat.le_of_ble_eq_true rfl)) dX12_chairsOn_26 ⟨Nat.le_refl _, Nat.le_refl _⟩) hA hS (fun r_31 f_28 L_29 Q_30 H locs hq hP hS => ?_)
        obtain ⟨⟨ef9, eL9, eQ9⟩, hq, u_32⟩ := hq
        rw [ef9, eL9, eQ9] at hP; clear ef9 eL9 eQ9
        refine lv_iadd hx hb dX12_chairsOn_29 ?_
        refine lv_topi (fun v_33 ev_33 => ?_)
        refine lv_istore (lv' := [(5, .int v_33), (0, .ref (h 0)), (2, .int x1), (3, .int x2), (6, .int y6_14)]) hx hb dX12_chairsOn_30 hl (by decide) rfl (fun ls hl => ?_)
        obtain ⟨v_34, ev_34⟩ : ∃ z : Int32, z = y6_14 + 1 := ⟨_, rfl⟩
        have q_35 : v_34.toInt = y6_14.toInt + 1 := by rw [ev_34]; exact (bn_addc y6_14 1 (by decide) (by omega) (by omega))
        refine lv_iinc (v := v_34) (lv' := [(6, .int v_34), (5, .int v_33), (0, .ref (h 0)), (2, .int x1), (3, .int x2)]) hx hb dX12_chairsOn_32 hl (k := 4) rfl (by rw [ev_34]; rfl) (by decide) rfl (fun ls hl => ?_)
        refine lv_goto (tgt := 14) hx hb dX12_chairsOn_35 (by decide) ?_
        exact ih_14 v_33 v_34 fp_14 _ _ _ (hs.trans ((if_pos c_22).trans (spl_e u_32 (spl_e ev_33 (spl_e ev_34 rfl))))) (by omega) (by have zz0_6 : (fp_14 0 6).toInt = v_18.toInt := (congrArg Int32.toInt (show fp_14 0 6 = v_18 from ev_18.symm)); exact ⟨by omega, by omega⟩) ⟨by omega, by omega⟩ hI hF hP hS (lv_sub hl [2, 3, 4, 1, 0] rfl)
  have loop_116 : ∀ (n_116 : Nat) (y5_116 : Int32) (fp_116 : sg_F) (H : Heap) (locs : List Loc) (ls : Array Slot), sp = sX12_chairsOn_1_l116 x1 x2 x3 n_116 y5_116 fp_116 L → 2 - y5_116.toInt < (n_116 : Int) → 2 ≤ (fp_116 0 6).toInt ∧ (fp_116 0 6).toInt ≤ 8 → 0 ≤ y5_116.toInt ∧ y5_116.toInt ≤ 2 → sgI loM hiM fp_116 → sgK WkX12_chairsOn_1 f fp_116 → va_P D vwCl (sgw 26 h (eM ca h) fp_116 L Q) H → va_S (sgA 26 h s.heap.size) s.heap H locs → lv_has ls 7 [(0, .ref (h 0)), (1, .int 1), (2, .int x1), (3, .int x2), (4, .int x3), (5, .int y5_116)] → W p l e ({ frames := 9, cells := 0, slots := 0, locals := 229 }) s m ([.ref (h 0), .int 1, .int x1, .int x2, .int x3] : List Value).toArray below meth cd H locs 0 0 Qz (F0 m 116 ls []) := by
    intro n_116
    induction n_116 with
    | zero => intro y5_116 fp_116 H locs ls hs hm_116 hy0_116 hy1_116 hI hF hP hS hl; exact absurd hm_116 (by omega)
    | succ n_116 ih_116 =>
      intro y5_116 fp_116 H locs ls hs hm_116 hy0_116 hy1_116 hI hF hP hS hl
      have hs : sp = sX12_chairsOn_1_h116 x1 x2 x3 (sX12_chairsOn_1_l116 x1 x2 x3 n_116) y5_116 fp_116 L := hs
      obtain ⟨v_36, ev_36⟩ : ∃ z : Int32, z = fp_116 0 6 := ⟨_, rfl⟩
      replace hs := hs.trans (spl_e ev_36 rfl)
      have q_37 : 0 ≤ v_36.toInt ∧ v_36.toInt ≤ 8 := by rw [ev_36]; exact hI 0 6
      have q_38 : (fp_116 0 6).toInt = v_36.toInt := by rw [ev_36]
      refine lv_iload hx hb dX12_chairsOn_116 (lv_at hl 5 rfl) ?_
      refine lv_iload hx hb dX12_chairsOn_118 (lv_at hl 4 rfl) ?_
      refine lv_icmp_ge (tgt := 166) hx hb dX12_chairsOn_120 (by decide) (fun c => ?_) (fun c => ?_)
      · skip
        have c_39 : x3.toInt ≤ y5_116.toInt := (by first | exact (bn_le c) | (have z := bn_le c; omega))
        exact hret _ _ _ _ fp_116 L Q dX12_chairsOn_166 hP hS ⟨⟨hI, hF, rfl, rfl⟩, (Eq.trans (Eq.symm (hs.trans ((if_neg (Int.not_lt.mpr c_39)).trans rfl))) hsp)⟩
      · skip
        have c_40 : y5_116.toInt < x3.toInt := (by first | exact (bn_nle c) | (have z := bn_nle c; omega))
        replace hs := hs.trans ((if_pos c_40).trans rfl)
        refine lv_iload hx hb dX12_chairsOn_123 (lv_at hl 5 rfl) ?_
        refine lv_iload_n hx hb dX12_chairsOn_125 rfl (lv_at hl 2 rfl) ?_
        refine lv_icmp_gt (tgt := 166) hx hb dX12_chairsOn_126 (by decide) (fun c => ?_) (fun c => ?_)
        · skip
          have c_41 : x1.toInt < y5_116.toInt := (by first | exact (bn_lt c) | (have z := bn_lt c; omega))
          exact hret _ _ _ _ fp_116 L Q dX12_chairsOn_166 hP hS ⟨⟨hI, hF, rfl, rfl⟩, (Eq.trans (Eq.symm (hs.trans ((if_pos c_41).trans rfl))) hsp)⟩
        · skip
          have c_42 : y5_116.toInt ≤ x1.toInt := (by first | exact (bn_nlt c) | (have z := bn_nlt c; omega))
          refine lv_aload_n hx hb dX12_chairsOn_129 rfl (lv_at hl 0 rfl) ?_
          refine sl_gM_0_33_12 hx hb hts hown hK hP dX12_chairsOn_130 ?_
          refine lv_iload_n hx hb dX12_chairsOn_133 rfl (lv_at hl 1 rfl) ?_
          refine lv_iload hx hb dX12_chairsOn_134 (lv_at hl 5 rfl) ?_
          refine sg_iast hx hb hh hA hK hP hS 15 (by decide) 0 (fun _ => rfl) rfl (i := 1) (x := y5_116) (vp_in_iff.mpr (by decide)) dX12_chairsOn_136 (fun f_43 H locs ef_43 hP hS => ?_)
          replace hs := hs.trans ((if_neg (Int.not_lt.mpr c_42)).trans (spl_e ef_43 rfl))
          have hI : sgI loM hiM f_43 := by rw [ef_43]; exact sgI.put hI 15 (Int32.toNatClampNeg 1) (show 0 ≤ (y5_116 : Int32).toInt ∧ (y5_116 : Int32).toInt ≤ 7 from ⟨by omega, by omega⟩)
          have hF : sgK WkX12_chairsOn_1 f f_43 := sgK.put hF ef_43 (by rfl)
          refine lv_aload_n hx hb dX12_chairsOn_137 rfl (lv_at hl 0 rfl) ?_
          refine lv_iload_n hx hb dX12_chairsOn_138 rfl (lv_at hl 1 rfl) ?_
          refine lv_iconst (v := 1) hx hb dX12_chairsOn_139 ic_1 ?_
          refine lv_iadd hx hb dX12_chairsOn_140 ?_
          refine W.eq (g2 := F0 m 141 ls [.int 2, .ref (h 0)]) (by rw [show (1 + 1 : Int32) = 2 from by decide]) ?_
          refine lv_iload hx hb dX12_chairsOn_141 (lv_at hl 5 rfl) ?_
          refine lv_iload_n hx hb dX12_chairsOn_143 rfl (lv_at hl 2 rfl) ?_
          refine lv_icmp_ne (tgt := 153) hx hb dX12_chairsOn_144 (by decide) (fun c => ?_) (fun c => ?_)
          · skip
            have c_44 : y5_116.toInt ≠ x1.toInt := (by first | exact (bn_ne c) | (have z := bn_ne c; omega))
            refine lv_iload_n hx hb dX12_chairsOn_153 rfl (lv_at hl 2 rfl) ?_
            refine lv_iload_n hx hb dX12_chairsOn_154 rfl (lv_at hl 3 rfl) ?_
            refine lv_iload hx hb dX12_chairsOn_155 (lv_at hl 4 rfl) ?_
            have q_46 : (f_43 0 6).toInt = v_36.toInt := (congrArg Int32.toInt (show f_43 0 6 = v_36 from (by rw [ef_43, sg_up_n (by decide)]; exact ev_36.symm)))
            refine sg_callv (va_runV (As := [.int 2, .int x1, .int x2, .int x3]) (rest := []) ⟨hx, hb, hml, hown, hts⟩ (kX12_chairsOn_2 l D ca za h hh f_43 L Q hI x1 x2 x3 ⟨by omega, by omega⟩ b2 b3 (by have k0 : (2 : Int32).toInt = 2 := ti_2; omega) H.size) (sl_c12_chairsOn_8_0_0_203_12 hts ⟨Nat.le_of_ble_eq_true rfl, Nat.le_of_ble_eq_true rfl⟩) (sl_vM_0 hA hK hP hS hZ) rfl rfl hl.1 rfl (lv_room (Nat.le_of_ble_eq_true rfl)) dX12_chairsOn_157 ⟨Nat.le_refl _, Nat.le_refl _⟩) hA hS (fun f_48 L_49 Q_50 H locs hq hP hS => ?_)
            obtain ⟨⟨hI, hk_f_48, eL9, eQ9⟩, u_51⟩ := hq
            rw [eL9, eQ9] at hP; clear eL9 eQ9
            have hF : sgK WkX12_chairsOn_1 f f_48 := sgK.tr hF hk_f_48 (by decide +kernel)
            obtain ⟨v_52, ev_52⟩ : ∃ z : Int32, z = y5_116 + 1 := ⟨_, rfl⟩
            have q_53 : v_52.toInt = y5_116.toInt + 1 := by rw [ev_52]; exact (bn_addc y5_116 1 (by decide) (by omega) (by omega))
            refine lv_iinc (v := v_52) (lv' := [(5, .int v_52), (0, .ref (h 0)), (1, .int 1), (2, .int x1), (3, .int x2), (4, .int x3)]) hx hb dX12_chairsOn_160 hl (k := 5) rfl (by rw [ev_52]; rfl) (by decide) rfl (fun ls hl => ?_)
            refine lv_goto (tgt := 116) hx hb dX12_chairsOn_163 (by decide) ?_
            exact ih_116 v_52 f_48 _ _ _ (hs.trans ((if_neg c_44).trans (spl_e u_51 (spl_e ev_52 rfl)))) (by omega) (by have zz0_6 : (f_48 0 6).toInt = v_36.toInt := (congrArg Int32.toInt (show f_48 0 6 = v_36 from ((hk_f_48 0 6 (by decide)).trans (by rw [ef_43, sg_up_n (by decide)]; exact ev_36.symm)))); exact ⟨by omega, by omega⟩) ⟨by omega, by omega⟩ hI hF hP hS (lv_sub hl [1, 2, 3, 4, 5, 0] rfl)
          · skip
            have c_45 : y5_116.toInt = x1.toInt := (by first | exact (Int32.toInt_inj.mpr c) | (have z := Int32.toInt_inj.mpr c; omega))
            refine lv_iload_n hx hb dX12_chairsOn_147 rfl (lv_at hl 2 rfl) ?_
            refine lv_iconst (v := 1) hx hb dX12_chairsOn_148 ic_1 ?_
            refine lv_iadd hx hb dX12_chairsOn_149 ?_
            refine lv_topi (fun v_54 ev_54 => ?_)
            have q_55 : v_54.toInt = x1.toInt + 1 := by rw [ev_54]; first | exact cm_add ti_1 (by omega) (by omega) | (have k1 : (1 : Int32).toInt = 1 := ti_1; exact (bn_addI (by omega) (by omega)).trans (by omega))
            refine lv_goto (tgt := 154) hx hb dX12_chairsOn_150 (by decide) ?_
            refine lv_iload_n hx hb dX12_chairsOn_154 rfl (lv_at hl 3 rfl) ?_
            refine lv_iload hx hb dX12_chairsOn_155 (lv_at hl 4 rfl) ?_
            have q_56 : (f_43 0 6).toInt = v_36.toInt := (congrArg Int32.toInt (show f_43 0 6 = v_36 from (by rw [ef_43, sg_up_n (by decide)]; exact ev_36.symm)))
            refine sg_callv (va_runV (As := [.int 2, .int v_54, .int x2, .int x3]) (rest := []) ⟨hx, hb, hml, hown, hts⟩ (kX12_chairsOn_2 l D ca za h hh f_43 L Q hI v_54 x2 x3 ⟨by omega, by omega⟩ b2 b3 (by have k0 : (2 : Int32).toInt = 2 := ti_2; omega) H.size) (sl_c12_chairsOn_8_0_0_203_12 hts ⟨Nat.le_of_ble_eq_true rfl, Nat.le_of_ble_eq_true rfl⟩) (sl_vM_0 hA hK hP hS hZ) rfl rfl hl.1 rfl (lv_room (Nat.le_of_ble_eq_true rfl)) dX12_chairsOn_157 ⟨Nat.le_refl _, Nat.le_refl _⟩) hA hS (fun f_58 L_59 Q_60 H locs hq hP hS => ?_)
            obtain ⟨⟨hI, hk_f_58, eL9, eQ9⟩, u_61⟩ := hq
            rw [eL9, eQ9] at hP; clear eL9 eQ9
            have hF : sgK WkX12_chairsOn_1 f f_58 := sgK.tr hF hk_f_58 (by decide +kernel)
            obtain ⟨v_62, ev_62⟩ : ∃ z : Int32, z = y5_116 + 1 := ⟨_, rfl⟩
            have q_63 : v_62.toInt = y5_116.toInt + 1 := by rw [ev_62]; exact (bn_addc y5_116 1 (by decide) (by omega) (by omega))
            refine lv_iinc (v := v_62) (lv' := [(5, .int v_62), (0, .ref (h 0)), (1, .int 1), (2, .int x1), (3, .int x2), (4, .int x3)]) hx hb dX12_chairsOn_160 hl (k := 5) rfl (by rw [ev_62]; rfl) (by decide) rfl (fun ls hl => ?_)
            refine lv_goto (tgt := 116) hx hb dX12_chairsOn_163 (by decide) ?_
            exact ih_116 v_62 f_58 _ _ _ (hs.trans ((if_pos c_45).trans (spl_e ev_54 (spl_e u_61 (spl_e ev_62 rfl))))) (by omega) (by have zz0_6 : (f_58 0 6).toInt = v_36.toInt := (congrArg Int32.toInt (show f_58 0 6 = v_36 from ((hk_f_58 0 6 (by decide)).trans (by rw [ef_43, sg_up_n (by decide)]; exact ev_36.symm)))); exact ⟨by omega, by omega⟩) ⟨by omega, by omega⟩ hI hF hP hS (lv_sub hl [1, 2, 3, 4, 5, 0] rfl)
  refine lv_iload_n hx hb dX12_chairsOn_0 rfl (lv_at hl 1 rfl) ?_
  refine lv_aload_n hx hb dX12_chairsOn_1 rfl (lv_at hl 0 rfl) ?_
  refine sl_gM_0_6_12 (v := v_1) hx hb hts hown hK hP (show f 0 6 = v_1 from ev_1.symm) dX12_chairsOn_2 ?_
  refine lv_icmp_ne (tgt := 93) hx hb dX12_chairsOn_5 (by decide) (fun c => ?_) (fun c => ?_)
  · skip
    have c_64 : 1 ≠ v_1.toInt := (by first | exact (cm_ne0 ti_1 c) | (have z := bn_ne c; have k0 : (1 : Int32).toInt = 1 := ti_1; omega))
    refine lv_iload_n hx hb dX12_chairsOn_93 rfl (lv_at hl 3 rfl) ?_
    refine lv_iload_n hx hb dX12_chairsOn_94 rfl (lv_at hl 1 rfl) ?_
    refine sg_calli (va_runS (As := [.int x2, .int 1]) (rest := []) ⟨hx, hb, hml, hown, hts⟩ (kX12_isIn l D ca za h hh f L Q hI x2 1 ⟨by omega, by omega⟩ (by decide) H.size) (va_cwS 2 hts (gw_S (fun _ h => List.mem_cons_of_mem _ h) mw_832 mw_833 mw_619 mw_831) rfl rfl rfl hd_yX12_isIn.2 ⟨Nat.le_of_ble_eq_true rfl, Nat.le_of_ble_eq_true rfl⟩) (sg_preS hA hK hP hS hZ) rfl rfl hl.1 rfl (lv_room (Nat.le_of_ble_eq_true rfl)) dX12_chairsOn_95 ⟨Nat.le_refl _, Nat.le_refl _⟩) hA hS (fun r_69 f_66 L_67 Q_68 H locs hq hP hS => ?_)
    obtain ⟨⟨ef9, eL9, eQ9⟩, hq, u_70⟩ := hq
    replace hs := hs.trans ((if_neg c_64).trans (spl_e u_70 rfl))
    rw [ef9, eL9, eQ9] at hP; clear ef9 eL9 eQ9
    refine lv_if_ne (tgt := 113) hx hb dX12_chairsOn_98 (by decide) (fun c => ?_) (fun c => ?_)
    · skip
      have c_71 : r_69.toInt ≠ 0 := (by first | exact (cm_ne1 ti_0 c) | (have z := bn_ne c; have k1 : (0 : Int32).toInt = 0 := ti_0; omega))
      refine lv_iconst (v := 0) hx hb dX12_chairsOn_113 ic_0 ?_
      refine lv_istore (lv' := [(5, .int 0), (0, .ref (h 0)), (1, .int 1), (2, .int x1), (3, .int x2), (4, .int x3)]) hx hb dX12_chairsOn_114 hl (by decide) rfl (fun ls hl => ?_)
      exact loop_116 3 0 f _ _ _ (hs.trans ((if_neg c_71).trans rfl)) (by have kc0 : (0 : Int32).toInt = 0 := ti_0; omega) (by have zz0_6 : (f 0 6).toInt = v_1.toInt := (congrArg Int32.toInt (show f 0 6 = v_1 from ev_1.symm)); exact ⟨by omega, by omega⟩) (by decide) hI hF hP hS (lv_sub hl [1, 2, 3, 4, 5, 0] rfl)
    · skip
      have c_72 : r_69.toInt = 0 := (by first | exact (cm_eq1 ti_0 c) | (have z := Int32.toInt_inj.mpr c; have k1 : (0 : Int32).toInt = 0 := ti_0; omega))
      refine lv_aload_n hx hb dX12_chairsOn_101 rfl (lv_at hl 0 rfl) ?_
      refine lv_iload_n hx hb dX12_chairsOn_102 rfl (lv_at hl 1 rfl) ?_
      refine lv_iconst (v := 1) hx hb dX12_chairsOn_103 ic_1 ?_
      refine lv_iadd hx hb dX12_chairsOn_104 ?_
      refine W.eq (g2 := F0 m 105 ls [.int 2, .ref (h 0)]) (by rw [show (1 + 1 : Int32) = 2 from by decide]) ?_
      refine lv_iload_n hx hb dX12_chairsOn_105 rfl (lv_at hl 2 rfl) ?_
      refine lv_iload_n hx hb dX12_chairsOn_106 rfl (lv_at hl 3 rfl) ?_
      refine lv_iload hx hb dX12_chairsOn_107 (lv_at hl 4 rfl) ?_
      have q_73 : (f 0 6).toInt = v_1.toInt := (congrArg Int32.toInt (show f 0 6 = v_1 from ev_1.symm))
      refine sg_callv (va_runV (As := [.int 2, .int x1, .int x2, .int x3]) (rest := []) ⟨hx, hb, hml, hown, hts⟩ (kX12_chairsOn_2 l D ca za h hh f L Q hI x1 x2 x3 ⟨by omega, by omega⟩ b2 b3 (by have k0 : (2 : Int32).toInt = 2 := ti_2; omega) H.size) (sl_c12_chairsOn_8_0_0_203_12 hts ⟨Nat.le_of_ble_eq_true rfl, Nat.le_of_ble_eq_true rfl⟩) (sl_vM_0 hA hK hP hS hZ) rfl rfl hl.1 rfl (lv_room (Nat.le_of_ble_eq_true rfl)) dX12_chairsOn_109 ⟨Nat.le_refl _, Nat.le_refl _⟩) hA hS (fun f_75 L_76 Q_77 H locs hq hP hS => ?_)
      obtain ⟨⟨hI, hk_f_75, eL9, eQ9⟩, u_78⟩ := hq
      rw [eL9, eQ9] at hP; clear eL9 eQ9
      have hF : sgK WkX12_chairsOn_1 f f_75 := sgK.tr hF hk_f_75 (by decide +kernel)
      exact hret _ _ _ _ f_75 L Q dX12_chairsOn_112 hP hS ⟨⟨hI, hF, rfl, rfl⟩, (Eq.trans (Eq.symm (hs.trans ((if_pos c_72).trans (spl_e u_78 rfl)))) hsp)⟩
  · skip
    have c_65 : 1 = v_1.toInt := (by first | exact (cm_eq0 ti_1 c) | (have z := Int32.toInt_inj.mpr c; have k0 : (1 : Int32).toInt = 1 := ti_1; omega))
    refine lv_iconst (v := 0) hx hb dX12_chairsOn_8 ic_0 ?_
    refine lv_istore (lv' := [(5, .int 0), (0, .ref (h 0)), (1, .int 1), (2, .int x1), (3, .int x2), (4, .int x3)]) hx hb dX12_chairsOn_9 hl (by decide) rfl (fun ls hl => ?_)
    refine lv_iconst (v := 0) hx hb dX12_chairsOn_11 ic_0 ?_
    refine lv_istore (lv' := [(6, .int 0), (5, .int 0), (0, .ref (h 0)), (1, .int 1), (2, .int x1), (3, .int x2), (4, .int x3)]) hx hb dX12_chairsOn_12 hl (by decide) rfl (fun ls hl => ?_)
    exact loop_14 2 0 0 f _ _ _ (hs.trans ((if_pos c_65).trans rfl)) (by have kc0 : (0 : Int32).toInt = 0 := ti_0; have kc1 : (0 : Int32).toInt = 0 := ti_0; omega) (by have zz0_6 : (f 0 6).toInt = v_1.toInt := (congrArg Int32.toInt (show f 0 6 = v_1 from ev_1.symm)); exact ⟨by omega, by omega⟩) (by decide) hI hF hP hS (lv_sub hl [2, 4, 5, 1, 0] rfl)

abbrev WkX12_chairsOn_0 : List (Nat × Nat × Option Nat) := [(0, 0, some 35), (15, 15, none), (16, 16, none)]
set_option maxHeartbeats 4000000 in
set_option maxRecDepth 100000 in
theorem kX12_chairsOn_0 (l : Launch) (D : va_G) (ca : Nat → ClassId) (za h : Nat → Nat) (hh : sgH 26 h) (f : sg_F) (L : sg_L) (Q : sg_Q) (hI : sgI loM hiM f) (x1 : Int32) (x2 : Int32) (x3 : Int32) (b1 : 0 ≤ x1.toInt ∧ x1.toInt ≤ 0) (b2 : 0 ≤ x2.toInt ∧ x2.toInt ≤ 255) (b3 : 0 ≤ x3.toInt ∧ x3.toInt ≤ 9) (p0 : 0 ≤ (f 0 6).toInt ∧ (f 0 6).toInt ≤ 8) (sz : Nat) : Met l yX12_chairsOn gwX12_chairsOn { frames := 10, cells := 0, slots := 0, locals := 255 } (sgP D vwCl (tyX ca) 26 h (eM ca h) zcM za f L Q sz [.ref (h 0), .int 0, .int x1, .int x2, .int x3]) (sgQv D vwCl 26 h (eM ca h) sz (fun f1 L1 Q1 => ((sgI loM hiM f1 ∧ sgK WkX12_chairsOn_0 f f1 ∧ L1 = L ∧ Q1 = Q) ∧ (f1) = sX12_chairsOn_0 x1 x2 x3 f L))) 0 0 (sgA 26 h sz) := by
  refine sg_ofWv (cc := cX12_chairsOn) (maxL := 7) RX12 (by decide) rfl rfl (Nat.le_of_ble_eq_true rfl) ?_
  intro p e s m below meth cd Qz ls hx hb hml hown hts hK hZ hP hS hl hret
  have hA := sgY.self (n := 26) (h := h) (sz := s.heap.size)
  have hl : lv_has ls 7 [(0, .ref (h 0)), (1, .int 0), (2, .int x1), (3, .int x2), (4, .int x3)] := hl
  obtain ⟨H, hH⟩ : ∃ z : Heap, z = s.heap := ⟨_, rfl⟩
  obtain ⟨locs, hlo⟩ : ∃ z : List Loc, z = [] := ⟨_, rfl⟩
  have hP : va_P D vwCl (sgw 26 h (eM ca h) f L Q) H := by rw [hH]; exact hP
  have hS : va_S (sgA 26 h s.heap.size) s.heap H locs := by rw [hH, hlo]; exact hS
  suffices hgo : W p l e ({ frames := 10, cells := 0, slots := 0, locals := 255 }) s m ([.ref (h 0), .int 0, .int x1, .int x2, .int x3] : List Value).toArray below meth cd H locs 0 0 Qz (F0 m 0 ls []) by rw [hH, hlo] at hgo; exact hgo
  clear hH hlo
  obtain ⟨sp, hsp⟩ : ∃ z : sg_F, z = sX12_chairsOn_0 x1 x2 x3 f L := ⟨_, rfl⟩
  have hs : sp = sX12_chairsOn_0 x1 x2 x3 f L := hsp
  obtain ⟨v_1, ev_1⟩ : ∃ z : Int32, z = f 0 6 := ⟨_, rfl⟩
  replace hs := hs.trans (spl_e ev_1 rfl)
  have q_2 : 0 ≤ v_1.toInt ∧ v_1.toInt ≤ 8 := by rw [ev_1]; exact hI 0 6
  have o_3 : (f 0 6).toInt = v_1.toInt := (congrArg Int32.toInt (show f 0 6 = v_1 from ev_1.symm))
  have hF : sgK WkX12_chairsOn_0 f f := sgK.rf
  have loop_63 : ∀ (n_63 : Nat) (fp_63 : sg_F) (H : Heap) (locs : List Loc) (ls : Array Slot), sp = sX12_chairsOn_0_l63 x1 x2 x3 n_63 fp_63 L → 0 - 0 < (n_63 : Int) → 0 ≤ (fp_63 0 35).toInt ∧ (fp_63 0 35).toInt ≤ 0 → 0 ≤ (fp_63 0 6).toInt ∧ (fp_63 0 6).toInt ≤ 0 → sgI loM hiM fp_63 → sgK WkX12_chairsOn_0 f fp_63 → va_P D vwCl (sgw 26 h (eM ca h) fp_63 L Q) H → va_S (sgA 26 h s.heap.size) s.heap H locs → lv_has ls 7 [(0, .ref (h 0)), (6, .int 0)] → W p l e ({ frames := 10, cells := 0, slots := 0, locals := 255 }) s m ([.ref (h 0), .int 0, .int x1, .int x2, .int x3] : List Value).toArray below meth cd H locs 0 0 Qz (F0 m 63 ls []) := by
    intro n_63
    induction n_63 with
    | zero => intro fp_63 H locs ls hs hm_63 hy0_63 hy1_63 hI hF hP hS hl; exact absurd hm_63 (by omega)
    | succ n_63 ih_63 =>
      intro fp_63 H locs ls hs hm_63 hy0_63 hy1_63 hI hF hP hS hl
      have hs : sp = sX12_chairsOn_0_h63 x1 x2 x3 (sX12_chairsOn_0_l63 x1 x2 x3 n_63) fp_63 L := hs
      obtain ⟨v_4, ev_4⟩ : ∃ z : Int32, z = fp_63 0 35 := ⟨_, rfl⟩
      have q_5 : (fp_63 0 35).toInt = v_4.toInt := by rw [ev_4]
      obtain ⟨v_6, ev_6⟩ : ∃ z : Int32, z = fp_63 0 6 := ⟨_, rfl⟩
      have q_7 : 0 ≤ v_6.toInt ∧ v_6.toInt ≤ 8 := by rw [ev_6]; exact hI 0 6
      have q_8 : (fp_63 0 6).toInt = v_6.toInt := by rw [ev_6]
      refine lv_iload hx hb dX12_chairsOn_63 (lv_at hl 1 rfl) ?_
      refine lv_aload_n hx hb dX12_chairsOn_65 rfl (lv_at hl 0 rfl) ?_
      refine sl_gM_0_6_12 (v := v_6) hx hb hts hown hK hP (show fp_63 0 6 = v_6 from ev_6.symm) dX12_chairsOn_66 ?_
      refine lv_icmp_ge (tgt := 92) hx hb dX12_chairsOn_69 (by decide) (fun c => ?_) (fun c => ?_)
      · skip
        have c_9 : v_6.toInt ≤ 0 := (by first | exact (cm_le1 ti_0 c) | (have z := bn_le c; have k0 : (0 : Int32).toInt = 0 := ti_0; omega))
        exact hret _ _ _ _ fp_63 L Q dX12_chairsOn_92 hP hS ⟨⟨hI, hF, rfl, rfl⟩, (Eq.trans (Eq.symm (hs.trans ((spl_e ev_4 (spl_e ev_6 rfl))))) hsp)⟩
      · skip
        exfalso; have c_10 : 0 < v_6.toInt := (by first | exact (cm_nle1 ti_0 c) | (have z := bn_nle c; have k0 : (0 : Int32).toInt = 0 := ti_0; omega)); omega
  have blk_54 : ∀ (fp_54 : sg_F) (H : Heap) (locs : List Loc) (ls : Array Slot), sp = sX12_chairsOn_0_b54 x1 x2 x3 fp_54 L → 0 ≤ (fp_54 0 6).toInt ∧ (fp_54 0 6).toInt ≤ 0 → sgI loM hiM fp_54 → sgK WkX12_chairsOn_0 f fp_54 → va_P D vwCl (sgw 26 h (eM ca h) fp_54 L Q) H → va_S (sgA 26 h s.heap.size) s.heap H locs → lv_has ls 7 [(0, .ref (h 0)), (5, .int 0)] → W p l e ({ frames := 10, cells := 0, slots := 0, locals := 255 }) s m ([.ref (h 0), .int 0, .int x1, .int x2, .int x3] : List Value).toArray below meth cd H locs 0 0 Qz (F0 m 54 ls []) := by
    intro fp_54 H locs ls hs hy0_54 hI hF hP hS hl
    obtain ⟨v_11, ev_11⟩ : ∃ z : Int32, z = fp_54 0 6 := ⟨_, rfl⟩
    have q_12 : 0 ≤ v_11.toInt ∧ v_11.toInt ≤ 8 := by rw [ev_11]; exact hI 0 6
    have q_13 : (fp_54 0 6).toInt = v_11.toInt := by rw [ev_11]
    refine lv_aload_n hx hb dX12_chairsOn_54 rfl (lv_at hl 0 rfl) ?_
    refine lv_iload hx hb dX12_chairsOn_55 (lv_at hl 1 rfl) ?_
    refine sl_pM_0_35_12 (x := 0) hx hb hts hown hh hA hK hP hS dX12_chairsOn_57 (fun f_14 H locs ef_14 hP hS => ?_)
    have hI : sgI loM hiM f_14 := by rw [ef_14]; exact sgI.put hI 0 35 (bn_top _)
    have hF : sgK WkX12_chairsOn_0 f f_14 := sgK.put hF ef_14 (by rfl)
    refine lv_iconst (v := 0) hx hb dX12_chairsOn_60 ic_0 ?_
    refine lv_istore (lv' := [(6, .int 0), (0, .ref (h 0)), (5, .int 0)]) hx hb dX12_chairsOn_61 hl (by decide) rfl (fun ls hl => ?_)
    exact loop_63 1 f_14 _ _ _ (hs.trans ((spl_e ev_11 (spl_e ef_14 rfl)))) (by omega) (by have zz0_35 : (f_14 0 35).toInt = 0 := (congrArg Int32.toInt (show f_14 0 35 = 0 from (by rw [ef_14, sg_up_s, sgu_s]))).trans (by decide); exact ⟨by omega, by omega⟩) (by have zz0_6 : (f_14 0 6).toInt = v_11.toInt := (congrArg Int32.toInt (show f_14 0 6 = v_11 from (by rw [ef_14, sg_up_s, sgu_n (by decide)]; exact ev_11.symm))); exact ⟨by omega, by omega⟩) hI hF hP hS (lv_sub hl [1, 0] rfl)
  have loop_14 : ∀ (n_14 : Nat) (fp_14 : sg_F) (H : Heap) (locs : List Loc) (ls : Array Slot), sp = sX12_chairsOn_0_l14 x1 x2 x3 n_14 fp_14 L → 0 - 0 < (n_14 : Int) → 0 ≤ (fp_14 0 6).toInt ∧ (fp_14 0 6).toInt ≤ 0 → sgI loM hiM fp_14 → sgK WkX12_chairsOn_0 f fp_14 → va_P D vwCl (sgw 26 h (eM ca h) fp_14 L Q) H → va_S (sgA 26 h s.heap.size) s.heap H locs → lv_has ls 7 [(0, .ref (h 0)), (2, .int x1), (3, .int x2), (5, .int 0), (6, .int 0)] → W p l e ({ frames := 10, cells := 0, slots := 0, locals := 255 }) s m ([.ref (h 0), .int 0, .int x1, .int x2, .int x3] : List Value).toArray below meth cd H locs 0 0 Qz (F0 m 14 ls []) := by
    intro n_14
    induction n_14 with
    | zero => intro fp_14 H locs ls hs hm_14 hy0_14 hI hF hP hS hl; exact absurd hm_14 (by omega)
    | succ n_14 ih_14 =>
      intro fp_14 H locs ls hs hm_14 hy0_14 hI hF hP hS hl
      have hs : sp = sX12_chairsOn_0_h14 x1 x2 x3 (sX12_chairsOn_0_l14 x1 x2 x3 n_14) fp_14 L := hs
      obtain ⟨v_15, ev_15⟩ : ∃ z : Int32, z = fp_14 0 6 := ⟨_, rfl⟩
      have q_16 : 0 ≤ v_15.toInt ∧ v_15.toInt ≤ 8 := by rw [ev_15]; exact hI 0 6
      have q_17 : (fp_14 0 6).toInt = v_15.toInt := by rw [ev_15]
      refine lv_iload hx hb dX12_chairsOn_14 (lv_at hl 4 rfl) ?_
      refine lv_iload_n hx hb dX12_chairsOn_16 rfl (lv_at hl 1 rfl) ?_
      refine lv_icmp_ge (tgt := 38) hx hb dX12_chairsOn_17 (by decide) (fun c => ?_) (fun c => ?_)
      · skip
        have c_18 : x1.toInt ≤ 0 := (by first | exact (cm_le1 ti_0 c) | (have z := bn_le c; have k0 : (0 : Int32).toInt = 0 := ti_0; omega))
        refine lv_aload_n hx hb dX12_chairsOn_38 rfl (lv_at hl 0 rfl) ?_
        refine sl_gM_0_35_12 (v := (fp_14 0 35)) hx hb hts hown hK hP rfl dX12_chairsOn_39 ?_
        refine lv_topi (fun v_20 ev_20 => ?_)
        replace hs := hs.trans (spl_e ev_15 (spl_e ev_20 rfl))
        refine lv_if_lt (tgt := 54) hx hb dX12_chairsOn_42 (by decide) (fun c => ?_) (fun c => ?_)
        · skip
          have c_21 : v_20.toInt < 0 := (by first | exact (cm_lt1 ti_0 c) | (have z := bn_lt c; have k1 : (0 : Int32).toInt = 0 := ti_0; omega))
          exact blk_54 fp_14 _ _ _ (hs.trans ((if_pos c_21).trans rfl)) (by have zz0_6 : (fp_14 0 6).toInt = v_15.toInt := (congrArg Int32.toInt (show fp_14 0 6 = v_15 from ev_15.symm)); exact ⟨by omega, by omega⟩) hI hF hP hS (lv_sub hl [0, 3] rfl)
        · skip
          have c_22 : 0 ≤ v_20.toInt := (by first | exact (cm_nlt1 ti_0 c) | (have z := bn_nlt c; have k1 : (0 : Int32).toInt = 0 := ti_0; omega))
          replace hs := hs.trans ((if_neg (Int.not_lt.mpr c_22)).trans rfl)
          refine lv_iload hx hb dX12_chairsOn_45 (lv_at hl 3 rfl) ?_
          refine lv_aload_n hx hb dX12_chairsOn_47 rfl (lv_at hl 0 rfl) ?_
          refine sl_gM_0_35_12 (v := v_20) hx hb hts hown hK hP (show fp_14 0 35 = v_20 from ev_20.symm) dX12_chairsOn_48 ?_
          refine lv_icmp_ge (tgt := 92) hx hb dX12_chairsOn_51 (by decide) (fun c => ?_) (fun c => ?_)
          · skip
            have c_23 : v_20.toInt ≤ 0 := (by first | exact (cm_le1 ti_0 c) | (have z := bn_le c; have k0 : (0 : Int32).toInt = 0 := ti_0; omega))
            exact hret _ _ _ _ fp_14 L Q dX12_chairsOn_92 hP hS ⟨⟨hI, hF, rfl, rfl⟩, (Eq.trans (Eq.symm (hs.trans ((if_neg (Int.not_lt.mpr c_23)).trans rfl))) hsp)⟩
          · skip
            have c_24 : 0 < v_20.toInt := (by first | exact (cm_nle1 ti_0 c) | (have z := bn_nle c; have k0 : (0 : Int32).toInt = 0 := ti_0; omega))
            exact blk_54 fp_14 _ _ _ (hs.trans ((if_pos c_24).trans rfl)) (by have zz0_6 : (fp_14 0 6).toInt = v_15.toInt := (congrArg Int32.toInt (show fp_14 0 6 = v_15 from ev_15.symm)); exact ⟨by omega, by omega⟩) hI hF hP hS (lv_sub hl [0, 3] rfl)
      · skip
        exfalso; have c_19 : 0 < x1.toInt := (by first | exact (cm_nle1 ti_0 c) | (have z := bn_nle c; have k0 : (0 : Int32).toInt = 0 := ti_0; omega)); omega
  have loop_116 : ∀ (n_116 : Nat) (y5_116 : Int32) (fp_116 : sg_F) (H : Heap) (locs : List Loc) (ls : Array Slot), sp = sX12_chairsOn_0_l116 x1 x2 x3 n_116 y5_116 fp_116 L → 1 - y5_116.toInt < (n_116 : Int) → 1 ≤ (fp_116 0 6).toInt ∧ (fp_116 0 6).toInt ≤ 8 → 0 ≤ y5_116.toInt ∧ y5_116.toInt ≤ 1 → sgI loM hiM fp_116 → sgK WkX12_chairsOn_0 f fp_116 → va_P D vwCl (sgw 26 h (eM ca h) fp_116 L Q) H → va_S (sgA 26 h s.heap.size) s.heap H locs → lv_has ls 7 [(0, .ref (h 0)), (1, .int 0), (2, .int x1), (3, .int x2), (4, .int x3), (5, .int y5_116)] → W p l e ({ frames := 10, cells := 0, slots := 0, locals := 255 }) s m ([.ref (h 0), .int 0, .int x1, .int x2, .int x3] : List Value).toArray below meth cd H locs 0 0 Qz (F0 m 116 ls []) := by
    intro n_116
    induction n_116 with
    | zero => intro y5_116 fp_116 H locs ls hs hm_116 hy0_116 hy1_116 hI hF hP hS hl; exact absurd hm_116 (by omega)
    | succ n_116 ih_116 =>
      intro y5_116 fp_116 H locs ls hs hm_116 hy0_116 hy1_116 hI hF hP hS hl
      have hs : sp = sX12_chairsOn_0_h116 x1 x2 x3 (sX12_chairsOn_0_l116 x1 x2 x3 n_116) y5_116 fp_116 L := hs
      obtain ⟨v_25, ev_25⟩ : ∃ z : Int32, z = fp_116 0 6 := ⟨_, rfl⟩
      replace hs := hs.trans (spl_e ev_25 rfl)
      have q_26 : 0 ≤ v_25.toInt ∧ v_25.toInt ≤ 8 := by rw [ev_25]; exact hI 0 6
      have q_27 : (fp_116 0 6).toInt = v_25.toInt := by rw [ev_25]
      refine lv_iload hx hb dX12_chairsOn_116 (lv_at hl 5 rfl) ?_
      refine lv_iload hx hb dX12_chairsOn_118 (lv_at hl 4 rfl) ?_
      refine lv_icmp_ge (tgt := 166) hx hb dX12_chairsOn_120 (by decide) (fun c => ?_) (fun c => ?_)
      · skip
        have c_28 : x3.toInt ≤ y5_116.toInt := (by first | exact (bn_le c) | (have z := bn_le c; omega))
        exact hret _ _ _ _ fp_116 L Q dX12_chairsOn_166 hP hS ⟨⟨hI, hF, rfl, rfl⟩, (Eq.trans (Eq.symm (hs.trans ((if_neg (Int.not_lt.mpr c_28)).trans rfl))) hsp)⟩
      · skip
        have c_29 : y5_116.toInt < x3.toInt := (by first | exact (bn_nle c) | (have z := bn_nle c; omega))
        replace hs := hs.trans ((if_pos c_29).trans rfl)
        refine lv_iload hx hb dX12_chairsOn_123 (lv_at hl 5 rfl) ?_
        refine lv_iload_n hx hb dX12_chairsOn_125 rfl (lv_at hl 2 rfl) ?_
        refine lv_icmp_gt (tgt := 166) hx hb dX12_chairsOn_126 (by decide) (fun c => ?_) (fun c => ?_)
        · skip
          have c_30 : x1.toInt < y5_116.toInt := (by first | exact (bn_lt c) | (have z := bn_lt c; omega))
          exact hret _ _ _ _ fp_116 L Q dX12_chairsOn_166 hP hS ⟨⟨hI, hF, rfl, rfl⟩, (Eq.trans (Eq.symm (hs.trans ((if_pos c_30).trans rfl))) hsp)⟩
        · skip
          have c_31 : y5_116.toInt ≤ x1.toInt := (by first | exact (bn_nlt c) | (have z := bn_nlt c; omega))
          refine lv_aload_n hx hb dX12_chairsOn_129 rfl (lv_at hl 0 rfl) ?_
          refine sl_gM_0_33_12 hx hb hts hown hK hP dX12_chairsOn_130 ?_
          refine lv_iload_n hx hb dX12_chairsOn_133 rfl (lv_at hl 1 rfl) ?_
          refine lv_iload hx hb dX12_chairsOn_134 (lv_at hl 5 rfl) ?_
          refine sg_iast hx hb hh hA hK hP hS 15 (by decide) 0 (fun _ => rfl) rfl (i := 0) (x := y5_116) (vp_in_iff.mpr (by decide)) dX12_chairsOn_136 (fun f_32 H locs ef_32 hP hS => ?_)
          have hI : sgI loM hiM f_32 := by rw [ef_32]; exact sgI.put hI 15 (Int32.toNatClampNeg 0) (show 0 ≤ (y5_116 : Int32).toInt ∧ (y5_116 : Int32).toInt ≤ 7 from ⟨by omega, by omega⟩)
          have hF : sgK WkX12_chairsOn_0 f f_32 := sgK.put hF ef_32 (by rfl)
          refine lv_aload_n hx hb dX12_chairsOn_137 rfl (lv_at hl 0 rfl) ?_
          refine lv_iload_n hx hb dX12_chairsOn_138 rfl (lv_at hl 1 rfl) ?_
          refine lv_iconst (v := 1) hx hb dX12_chairsOn_139 ic_1 ?_
          refine lv_iadd hx hb dX12_chairsOn_140 ?_
          refine W.eq (g2 := F0 m 141 ls [.int 1, .ref (h 0)]) (by rw [show (0 + 1 : Int32) = 1 from by decide]) ?_
          refine lv_iload hx hb dX12_chairsOn_141 (lv_at hl 5 rfl) ?_
          refine lv_iload_n hx hb dX12_chairsOn_143 rfl (lv_at hl 2 rfl) ?_
          refine lv_icmp_ne (tgt := 153) hx hb dX12_chairsOn_144 (by decide) (fun c => ?_) (fun c => ?_)
          · skip
            exfalso; have c_33 : y5_116.toInt ≠ x1.toInt := (by first | exact (bn_ne c) | (have z := bn_ne c; omega)); first | exact absurd (by assumption) c_33 | omega
          · skip
            have c_34 : y5_116.toInt = x1.toInt := (by first | exact (Int32.toInt_inj.mpr c) | (have z := Int32.toInt_inj.mpr c; omega))
            refine lv_iload_n hx hb dX12_chairsOn_147 rfl (lv_at hl 2 rfl) ?_
            refine lv_iconst (v := 1) hx hb dX12_chairsOn_148 ic_1 ?_
            refine lv_iadd hx hb dX12_chairsOn_149 ?_
            refine lv_topi (fun v_35 ev_35 => ?_)
            have q_36 : v_35.toInt = x1.toInt + 1 := by rw [ev_35]; first | exact cm_add ti_1 (by omega) (by omega) | (have k1 : (1 : Int32).toInt = 1 := ti_1; exact (bn_addI (by omega) (by omega)).trans (by omega))
            refine lv_goto (tgt := 154) hx hb dX12_chairsOn_150 (by decide) ?_
            refine lv_iload_n hx hb dX12_chairsOn_154 rfl (lv_at hl 3 rfl) ?_
            refine lv_iload hx hb dX12_chairsOn_155 (lv_at hl 4 rfl) ?_
            have q_37 : (f_32 0 6).toInt = v_25.toInt := (congrArg Int32.toInt (show f_32 0 6 = v_25 from (by rw [ef_32, sg_up_n (by decide)]; exact ev_25.symm)))
            refine sg_callv (va_runV (As := [.int 1, .int v_35, .int x2, .int x3]) (rest := []) ⟨hx, hb, hml, hown, hts⟩ (kX12_chairsOn_1 l D ca za h hh f_32 L Q hI v_35 x2 x3 ⟨by omega, by omega⟩ b2 b3 (by have k0 : (1 : Int32).toInt = 1 := ti_1; omega) H.size) (sl_c12_chairsOn_9_0_0_229_12 hts ⟨Nat.le_of_ble_eq_true rfl, Nat.le_of_ble_eq_true rfl⟩) (sl_vM_0 hA hK hP hS hZ) rfl rfl hl.1 rfl (lv_room (Nat.le_of_ble_eq_true rfl)) dX12_chairsOn_157 ⟨Nat.le_refl _, Nat.le_refl _⟩) hA hS (fun f_39 L_40 Q_41 H locs hq hP hS => ?_)
            obtain ⟨⟨hI, hk_f_39, eL9, eQ9⟩, u_42⟩ := hq
            rw [eL9, eQ9] at hP; clear eL9 eQ9
            have hF : sgK WkX12_chairsOn_0 f f_39 := sgK.tr hF hk_f_39 (by decide +kernel)
            obtain ⟨v_43, ev_43⟩ : ∃ z : Int32, z = y5_116 + 1 := ⟨_, rfl⟩
            have q_44 : v_43.toInt = y5_116.toInt + 1 := by rw [ev_43]; exact (bn_addc y5_116 1 (by decide) (by omega) (by omega))
            refine lv_iinc (v := v_43) (lv' := [(5, .int v_43), (0, .ref (h 0)), (1, .int 0), (2, .int x1), (3, .int x2), (4, .int x3)]) hx hb dX12_chairsOn_160 hl (k := 5) rfl (by rw [ev_43]; rfl) (by decide) rfl (fun ls hl => ?_)
            refine lv_goto (tgt := 116) hx hb dX12_chairsOn_163 (by decide) ?_
            exact ih_116 v_43 f_39 _ _ _ (hs.trans ((if_neg (Int.not_lt.mpr c_31)).trans (spl_e ef_32 (spl_e ev_35 (spl_e u_42 (spl_e ev_43 rfl)))))) (by omega) (by have zz0_6 : (f_39 0 6).toInt = v_25.toInt := (congrArg Int32.toInt (show f_39 0 6 = v_25 from ((hk_f_39 0 6 (by decide)).trans (by rw [ef_32, sg_up_n (by decide)]; exact ev_25.symm)))); exact ⟨by omega, by omega⟩) ⟨by omega, by omega⟩ hI hF hP hS (lv_sub hl [1, 2, 3, 4, 5, 0] rfl)
  refine lv_iload_n hx hb dX12_chairsOn_0 rfl (lv_at hl 1 rfl) ?_
  refine lv_aload_n hx hb dX12_chairsOn_1 rfl (lv_at hl 0 rfl) ?_
  refine sl_gM_0_6_12 (v := v_1) hx hb hts hown hK hP (show f 0 6 = v_1 from ev_1.symm) dX12_chairsOn_2 ?_
  refine lv_icmp_ne (tgt := 93) hx hb dX12_chairsOn_5 (by decide) (fun c => ?_) (fun c => ?_)
  · skip
    have c_45 : 0 ≠ v_1.toInt := (by first | exact (cm_ne0 ti_0 c) | (have z := bn_ne c; have k0 : (0 : Int32).toInt = 0 := ti_0; omega))
    refine lv_iload_n hx hb dX12_chairsOn_93 rfl (lv_at hl 3 rfl) ?_
    refine lv_iload_n hx hb dX12_chairsOn_94 rfl (lv_at hl 1 rfl) ?_
    refine sg_calli (va_runS (As := [.int x2, .int 0]) (rest := []) ⟨hx, hb, hml, hown, hts⟩ (kX12_isIn l D ca za h hh f L Q hI x2 0 ⟨by omega, by omega⟩ (by decide) H.size) (va_cwS 2 hts (gw_S (fun _ h => List.mem_cons_of_mem _ h) mw_832 mw_833 mw_619 mw_831) rfl rfl rfl hd_yX12_isIn.2 ⟨Nat.le_of_ble_eq_true rfl, Nat.le_of_ble_eq_true rfl⟩) (sg_preS hA hK hP hS hZ) rfl rfl hl.1 rfl (lv_room (Nat.le_of_ble_eq_true rfl)) dX12_chairsOn_95 ⟨Nat.le_refl _, Nat.le_refl _⟩) hA hS (fun r_50 f_47 L_48 Q_49 H locs hq hP hS => ?_)
    obtain ⟨⟨ef9, eL9, eQ9⟩, hq, u_51⟩ := hq
    replace hs := hs.trans ((if_neg c_45).trans (spl_e u_51 rfl))
    rw [ef9, eL9, eQ9] at hP; clear ef9 eL9 eQ9
    refine lv_if_ne (tgt := 113) hx hb dX12_chairsOn_98 (by decide) (fun c => ?_) (fun c => ?_)
    · skip
      have c_52 : r_50.toInt ≠ 0 := (by first | exact (cm_ne1 ti_0 c) | (have z := bn_ne c; have k1 : (0 : Int32).toInt = 0 := ti_0; omega))
      refine lv_iconst (v := 0) hx hb dX12_chairsOn_113 ic_0 ?_
      refine lv_istore (lv' := [(5, .int 0), (0, .ref (h 0)), (1, .int 0), (2, .int x1), (3, .int x2), (4, .int x3)]) hx hb dX12_chairsOn_114 hl (by decide) rfl (fun ls hl => ?_)
      exact loop_116 2 0 f _ _ _ (hs.trans ((if_neg c_52).trans rfl)) (by have kc0 : (0 : Int32).toInt = 0 := ti_0; omega) (by have zz0_6 : (f 0 6).toInt = v_1.toInt := (congrArg Int32.toInt (show f 0 6 = v_1 from ev_1.symm)); exact ⟨by omega, by omega⟩) (by decide) hI hF hP hS (lv_sub hl [1, 2, 3, 4, 5, 0] rfl)
    · skip
      have c_53 : r_50.toInt = 0 := (by first | exact (cm_eq1 ti_0 c) | (have z := Int32.toInt_inj.mpr c; have k1 : (0 : Int32).toInt = 0 := ti_0; omega))
      refine lv_aload_n hx hb dX12_chairsOn_101 rfl (lv_at hl 0 rfl) ?_
      refine lv_iload_n hx hb dX12_chairsOn_102 rfl (lv_at hl 1 rfl) ?_
      refine lv_iconst (v := 1) hx hb dX12_chairsOn_103 ic_1 ?_
      refine lv_iadd hx hb dX12_chairsOn_104 ?_
      refine W.eq (g2 := F0 m 105 ls [.int 1, .ref (h 0)]) (by rw [show (0 + 1 : Int32) = 1 from by decide]) ?_
      refine lv_iload_n hx hb dX12_chairsOn_105 rfl (lv_at hl 2 rfl) ?_
      refine lv_iload_n hx hb dX12_chairsOn_106 rfl (lv_at hl 3 rfl) ?_
      refine lv_iload hx hb dX12_chairsOn_107 (lv_at hl 4 rfl) ?_
      have q_54 : (f 0 6).toInt = v_1.toInt := (congrArg Int32.toInt (show f 0 6 = v_1 from ev_1.symm))
      refine sg_callv (va_runV (As := [.int 1, .int x1, .int x2, .int x3]) (rest := []) ⟨hx, hb, hml, hown, hts⟩ (kX12_chairsOn_1 l D ca za h hh f L Q hI x1 x2 x3 ⟨by omega, by omega⟩ b2 b3 (by have k0 : (1 : Int32).toInt = 1 := ti_1; omega) H.size) (sl_c12_chairsOn_9_0_0_229_12 hts ⟨Nat.le_of_ble_eq_true rfl, Nat.le_of_ble_eq_true rfl⟩) (sl_vM_0 hA hK hP hS hZ) rfl rfl hl.1 rfl (lv_room (Nat.le_of_ble_eq_true rfl)) dX12_chairsOn_109 ⟨Nat.le_refl _, Nat.le_refl _⟩) hA hS (fun f_56 L_57 Q_58 H locs hq hP hS => ?_)
      obtain ⟨⟨hI, hk_f_56, eL9, eQ9⟩, u_59⟩ := hq
      rw [eL9, eQ9] at hP; clear eL9 eQ9
      have hF : sgK WkX12_chairsOn_0 f f_56 := sgK.tr hF hk_f_56 (by decide +kernel)
      exact hret _ _ _ _ f_56 L Q dX12_chairsOn_112 hP hS ⟨⟨hI, hF, rfl, rfl⟩, (Eq.trans (Eq.symm (hs.trans ((if_pos c_53).trans (spl_e u_59 rfl)))) hsp)⟩
  · skip
    have c_46 : 0 = v_1.toInt := (by first | exact (cm_eq0 ti_0 c) | (have z := Int32.toInt_inj.mpr c; have k0 : (0 : Int32).toInt = 0 := ti_0; omega))
    refine lv_iconst (v := 0) hx hb dX12_chairsOn_8 ic_0 ?_
    refine lv_istore (lv' := [(5, .int 0), (0, .ref (h 0)), (1, .int 0), (2, .int x1), (3, .int x2), (4, .int x3)]) hx hb dX12_chairsOn_9 hl (by decide) rfl (fun ls hl => ?_)
    refine lv_iconst (v := 0) hx hb dX12_chairsOn_11 ic_0 ?_
    refine lv_istore (lv' := [(6, .int 0), (5, .int 0), (0, .ref (h 0)), (1, .int 0), (2, .int x1), (3, .int x2), (4, .int x3)]) hx hb dX12_chairsOn_12 hl (by decide) rfl (fun ls hl => ?_)
    exact loop_14 1 f _ _ _ (hs.trans ((if_pos c_46).trans rfl)) (by omega) (by have zz0_6 : (f 0 6).toInt = v_1.toInt := (congrArg Int32.toInt (show f 0 6 = v_1 from ev_1.symm)); exact ⟨by omega, by omega⟩) hI hF hP hS (lv_sub hl [2, 4, 5, 1, 0] rfl)

abbrev WkX12_chairs : List (Nat × Nat × Option Nat) := [(0, 0, some 12), (0, 0, some 13), (0, 0, some 14), (0, 0, some 15), (0, 0, some 16), (0, 0, some 35), (8, 8, none), (14, 14, none), (15, 15, none), (16, 16, none)]
set_option maxHeartbeats 4000000 in
set_option maxRecDepth 100000 in
theorem kX12_chairs (l : Launch) (D : va_G) (ca : Nat → ClassId) (za h : Nat → Nat) (hh : sgH 26 h) (f : sg_F) (L : sg_L) (Q : sg_Q) (hI : sgI loM hiM f) (x0 : Int32) (x1 : Int32) (x2 : Int32) (sz : Nat) : Met l yX12_chairs gwX12_chairs { frames := 45, cells := 0, slots := 0, locals := 1032 } (sgP D vwCl (tyX ca) 26 h (eM ca h) zcM za f L Q sz [.ref (h 0), .int x0, .int x1, .int x2]) (sgQi D vwCl 26 h (eM ca h) sz (fun r f1 L1 Q1 => ((sgI loM hiM f1 ∧ sgK WkX12_chairs f f1 ∧ L1 = L ∧ Q1 = Q) ∧ True ∧ (r, f1) = sX12_chairs x0 x1 x2 f L))) 0 0 (sgA 26 h sz) := by
  refine sg_ofWi (cc := cX12_chairs) (maxL := 7) RX12 (by decide) rfl rfl (Nat.le_of_ble_eq_true rfl) ?_
  intro p e s m below meth cd Qz ls hx hb hml hown hts hK hZ hP hS hl hret
  have hA := sgY.self (n := 26) (h := h) (sz := s.heap.size)
  have hl : lv_has ls 7 [(0, .ref (h 0)), (1, .int x0), (2, .int x1), (3, .int x2)] := hl
  obtain ⟨H, hH⟩ : ∃ z : Heap, z = s.heap := ⟨_, rfl⟩
  obtain ⟨locs, hlo⟩ : ∃ z : List Loc, z = [] := ⟨_, rfl⟩
  have hP : va_P D vwCl (sgw 26 h (eM ca h) f L Q) H := by rw [hH]; exact hP
  have hS : va_S (sgA 26 h s.heap.size) s.heap H locs := by rw [hH, hlo]; exact hS
  suffices hgo : W p l e ({ frames := 45, cells := 0, slots := 0, locals := 1032 }) s m ([.ref (h 0), .int x0, .int x1, .int x2] : List Value).toArray below meth cd H locs 0 0 Qz (F0 m 0 ls []) by rw [hH, hlo] at hgo; exact hgo
  clear hH hlo
  obtain ⟨sp, hsp⟩ : ∃ z : Int32 × sg_F, z = sX12_chairs x0 x1 x2 f L := ⟨_, rfl⟩
  have hs : sp = sX12_chairs x0 x1 x2 f L := hsp
  have hF : sgK WkX12_chairs f f := sgK.rf
  have loop_96 : ∀ (n_96 : Nat) (y4_96 : Int32) (fp_96 : sg_F) (H : Heap) (locs : List Loc) (ls : Array Slot), sp = sX12_chairs_l96 x0 x1 x2 n_96 y4_96 fp_96 L → 21 - y4_96.toInt < (n_96 : Int) → 0 ≤ x0.toInt ∧ x0.toInt ≤ 5 → 0 ≤ x1.toInt ∧ x1.toInt ≤ 29 → (-1) ≤ x2.toInt ∧ x2.toInt ≤ 7 → 0 ≤ y4_96.toInt ∧ y4_96.toInt ≤ 21 → sgI loM hiM fp_96 → sgK WkX12_chairs f fp_96 → va_P D vwCl (sgw 26 h (eM ca h) fp_96 L Q) H → va_S (sgA 26 h s.heap.size) s.heap H locs → lv_has ls 7 [(0, .ref (h 0)), (1, .int x0), (2, .int x1), (3, .int x2), (4, .int y4_96)] → W p l e ({ frames := 45, cells := 0, slots := 0, locals := 1032 }) s m ([.ref (h 0), .int x0, .int x1, .int x2] : List Value).toArray below meth cd H locs 0 0 Qz (F0 m 96 ls []) := by
    intro n_96
    induction n_96 with
    | zero => intro y4_96 fp_96 H locs ls hs hm_96 hy0_96 hy1_96 hy2_96 hy3_96 hI hF hP hS hl; exact absurd hm_96 (by omega)
    | succ n_96 ih_96 =>
      have blk_164 : ∀ (y4_164 : Int32) (fp_164 : sg_F) (H : Heap) (locs : List Loc) (ls : Array Slot), sp = sX12_chairs_b164 (sX12_chairs_l96 x0 x1 x2 n_96) x0 x1 x2 y4_164 fp_164 L → 21 - y4_164.toInt < ((n_96 + 1 : Nat) : Int) → 0 ≤ x0.toInt ∧ x0.toInt ≤ 5 → 0 ≤ x1.toInt ∧ x1.toInt ≤ 29 → (-1) ≤ x2.toInt ∧ x2.toInt ≤ 7 → 0 ≤ y4_164.toInt ∧ y4_164.toInt ≤ 20 → sgI loM hiM fp_164 → sgK WkX12_chairs f fp_164 → va_P D vwCl (sgw 26 h (eM ca h) fp_164 L Q) H → va_S (sgA 26 h s.heap.size) s.heap H locs → lv_has ls 7 [(0, .ref (h 0)), (1, .int x0), (2, .int x1), (3, .int x2), (4, .int y4_164)] → W p l e ({ frames := 45, cells := 0, slots := 0, locals := 1032 }) s m ([.ref (h 0), .int x0, .int x1, .int x2] : List Value).toArray below meth cd H locs 0 0 Qz (F0 m 164 ls []) := by
        intro y4_164 fp_164 H locs ls hs hm_96 hy0_164 hy1_164 hy2_164 hy3_164 hI hF hP hS hl
        obtain ⟨v_1, ev_1⟩ : ∃ z : Int32, z = y4_164 + 1 := ⟨_, rfl⟩
        have q_2 : v_1.toInt = y4_164.toInt + 1 := by rw [ev_1]; exact (bn_addc y4_164 1 (by decide) (by omega) (by omega))
        refine lv_iinc (v := v_1) (lv' := [(4, .int v_1), (0, .ref (h 0)), (1, .int x0), (2, .int x1), (3, .int x2)]) hx hb dX12_chairs_164 hl (k := 4) rfl (by rw [ev_1]; rfl) (by decide) rfl (fun ls hl => ?_)
        refine lv_goto (tgt := 96) hx hb dX12_chairs_167 (by decide) ?_
        exact ih_96 v_1 fp_164 _ _ _ (hs.trans ((spl_e ev_1 rfl))) (by omega) hy0_164 hy1_164 hy2_164 ⟨by omega, by omega⟩ hI hF hP hS (lv_sub hl [1, 2, 3, 4, 0] rfl)
      have loop_118 : ∀ (n_118 : Nat) (y4_118 : Int32) (y5_118 : Int32) (y6_118 : Int32) (fp_118 : sg_F) (H : Heap) (locs : List Loc) (ls : Array Slot), sp = sX12_chairs_l118 (sX12_chairs_l96 x0 x1 x2 n_96) x0 x1 x2 n_118 y4_118 y5_118 y6_118 fp_118 L → 61 - y6_118.toInt < (n_118 : Int) → 21 - y4_118.toInt < ((n_96 + 1 : Nat) : Int) → 0 ≤ x0.toInt ∧ x0.toInt ≤ 5 → 0 ≤ x1.toInt ∧ x1.toInt ≤ 29 → (-1) ≤ x2.toInt ∧ x2.toInt ≤ 7 → 0 ≤ y4_118.toInt ∧ y4_118.toInt ≤ 20 → (-1) ≤ y5_118.toInt ∧ y5_118.toInt ≤ 7 → 0 ≤ y6_118.toInt ∧ y6_118.toInt ≤ 61 → sgI loM hiM fp_118 → sgK WkX12_chairs f fp_118 → va_P D vwCl (sgw 26 h (eM ca h) fp_118 L Q) H → va_S (sgA 26 h s.heap.size) s.heap H locs → lv_has ls 7 [(0, .ref (h 0)), (1, .int x0), (2, .int x1), (3, .int x2), (4, .int y4_118), (5, .int y5_118), (6, .int y6_118)] → W p l e ({ frames := 45, cells := 0, slots := 0, locals := 1032 }) s m ([.ref (h 0), .int x0, .int x1, .int x2] : List Value).toArray below meth cd H locs 0 0 Qz (F0 m 118 ls []) := by
        intro n_118
        induction n_118 with
        | zero => intro y4_118 y5_118 y6_118 fp_118 H locs ls hs hm_118 hm_96 hy0_118 hy1_118 hy2_118 hy3_118 hy4_118 hy5_118 hI hF hP hS hl; exact absurd hm_118 (by omega)
        | succ n_118 ih_118 =>
          intro y4_118 y5_118 y6_118 fp_118 H locs ls hs hm_118 hm_96 hy0_118 hy1_118 hy2_118 hy3_118 hy4_118 hy5_118 hI hF hP hS hl
          have hs : sp = sX12_chairs_h118 (sX12_chairs_l96 x0 x1 x2 n_96) x0 x1 x2 (sX12_chairs_l118 (sX12_chairs_l96 x0 x1 x2 n_96) x0 x1 x2 n_118) y4_118 y5_118 y6_118 fp_118 L := hs
          refine lv_iload hx hb dX12_chairs_118 (lv_at hl 6 rfl) ?_
          refine lv_bipush (v := 61) hx hb dX12_chairs_120 bp_61 ?_
          refine lv_icmp_ge (tgt := 164) hx hb dX12_chairs_122 (by decide) (fun c => ?_) (fun c => ?_)
          · skip
            have c_3 : 61 ≤ y6_118.toInt := (by first | exact (cm_le0 ti_61 c) | (have z := bn_le c; have k1 : (61 : Int32).toInt = 61 := ti_61; omega))
            exact blk_164 y4_118 fp_118 _ _ _ (hs.trans (((if_neg (Int.not_lt.mpr c_3)).trans rfl))) hm_96 hy0_118 hy1_118 hy2_118 hy3_118 hI hF hP hS (lv_sub hl [0, 1, 2, 3, 4] rfl)
          · skip
            have c_4 : y6_118.toInt < 61 := (by first | exact (cm_nle0 ti_61 c) | (have z := bn_nle c; have k1 : (61 : Int32).toInt = 61 := ti_61; omega))
            replace hs := hs.trans ((if_pos c_4).trans rfl)
            refine lv_iload hx hb dX12_chairs_125 (lv_at hl 5 rfl) ?_
            refine lv_if_lt (tgt := 164) hx hb dX12_chairs_127 (by decide) (fun c => ?_) (fun c => ?_)
            · skip
              have c_5 : y5_118.toInt < 0 := (by first | exact (cm_lt1 ti_0 c) | (have z := bn_lt c; have k1 : (0 : Int32).toInt = 0 := ti_0; omega))
              exact blk_164 y4_118 fp_118 _ _ _ (hs.trans ((if_pos c_5).trans rfl)) hm_96 hy0_118 hy1_118 hy2_118 hy3_118 hI hF hP hS (lv_sub hl [0, 1, 2, 3, 4] rfl)
            · skip
              have c_6 : 0 ≤ y5_118.toInt := (by first | exact (cm_nlt1 ti_0 c) | (have z := bn_nlt c; have k1 : (0 : Int32).toInt = 0 := ti_0; omega))
              refine lv_aload_n hx hb dX12_chairs_130 rfl (lv_at hl 0 rfl) ?_
              refine sl_gM_0_32_12 hx hb hts hown hK hP dX12_chairs_131 ?_
              refine lv_bipush (v := 61) hx hb dX12_chairs_134 bp_61 ?_
              refine lv_iload hx hb dX12_chairs_136 (lv_at hl 5 rfl) ?_
              refine lv_imul hx hb dX12_chairs_138 ?_
              refine lv_topi (fun v_7 ev_7 => ?_)
              have q_8 : v_7.toInt = 61 * y5_118.toInt := by rw [ev_7]; exact bn_mulJ (by decide) (by omega) (by omega)
              refine lv_iload hx hb dX12_chairs_139 (lv_at hl 6 rfl) ?_
              refine lv_iadd hx hb dX12_chairs_141 ?_
              refine lv_topi (fun v_9 ev_9 => ?_)
              have q_10 : v_9.toInt = v_7.toInt + y6_118.toInt := by rw [ev_9]; first | exact bn_addI (by omega) (by omega) | exact (bn_addI (by omega) (by omega)).trans (by omega)
              refine lv_dup2_11 hx hb dX12_chairs_142 rfl rfl ?_
              refine sg_iald hx hb hK hP 14 (by decide) 0 rfl rfl (i := v_9) (vp_in_iff.mpr ⟨by omega, by omega⟩) dX12_chairs_143 ?_
              refine lv_topi (fun v_11 ev_11 => ?_)
              refine lv_aload_n hx hb dX12_chairs_144 rfl (lv_at hl 0 rfl) ?_
              refine lv_iload hx hb dX12_chairs_145 (lv_at hl 5 rfl) ?_
              refine lv_iload_n hx hb dX12_chairs_147 rfl (lv_at hl 2 rfl) ?_
              refine lv_bipush (v := 10) hx hb dX12_chairs_148 bp_10 ?_
              refine lv_idiv hx hb dX12_chairs_150 (by decide) ?_
              refine lv_topi (fun v_12 ev_12 => ?_)
              have q_13 : v_12.toInt = x1.toInt / 10 := by rw [ev_12]; exact bn_divI (by omega) (by decide) (by decide)
              refine lv_iload hx hb dX12_chairs_151 (lv_at hl 6 rfl) ?_
              refine sg_calli (va_runV (As := [.int y5_118, .int v_12, .int y6_118]) (rest := [.int v_11, .int v_9, .ref (h 14)]) ⟨hx, hb, hml, hown, hts⟩ (kX12_lossOf l D ca za h hh fp_118 L Q hI y5_118 v_12 y6_118 ⟨by omega, by omega⟩ ⟨by omega, by omega⟩ ⟨by omega, by omega⟩ H.size) (sl_c12_lossOf_44_0_0_1006_12 hts ⟨Nat.le_of_ble_eq_true rfl, Nat.le_of_ble_eq_true rfl⟩) (sl_vM_0 hA hK hP hS hZ) rfl rfl hl.1 rfl (lv_room (Nat.le_of_ble_eq_true rfl)) dX12_chairs_153 ⟨Nat.le_refl _, Nat.le_refl _⟩) hA hS (fun r_17 f_14 L_15 Q_16 H locs hq hP hS => ?_)
              obtain ⟨⟨hI, hk_f_14, eL9, eQ9⟩, hq, u_18⟩ := hq
              rw [eL9, eQ9] at hP; clear eL9 eQ9
              have hF : sgK WkX12_chairs f f_14 := sgK.tr hF hk_f_14 (by decide +kernel)
              refine lv_iadd hx hb dX12_chairs_156 ?_
              refine lv_topi (fun v_19 ev_19 => ?_)
              refine sg_iast hx hb hh hA hK hP hS 14 (by decide) 0 (fun _ => rfl) rfl (i := v_9) (x := v_19) (vp_in_iff.mpr ⟨by omega, by omega⟩) dX12_chairs_157 (fun f_20 H locs ef_20 hP hS => ?_)
              have hI : sgI loM hiM f_20 := by rw [ef_20]; exact sgI.put hI 14 v_9.toNatClampNeg (bn_top _)
              have hF : sgK WkX12_chairs f f_20 := sgK.put hF ef_20 (by rfl)
              obtain ⟨v_21, ev_21⟩ : ∃ z : Int32, z = y6_118 + 1 := ⟨_, rfl⟩
              have q_22 : v_21.toInt = y6_118.toInt + 1 := by rw [ev_21]; exact (bn_addc y6_118 1 (by decide) (by omega) (by omega))
              refine lv_iinc (v := v_21) (lv' := [(6, .int v_21), (0, .ref (h 0)), (1, .int x0), (2, .int x1), (3, .int x2), (4, .int y4_118), (5, .int y5_118)]) hx hb dX12_chairs_158 hl (k := 6) rfl (by rw [ev_21]; rfl) (by decide) rfl (fun ls hl => ?_)
              refine lv_goto (tgt := 118) hx hb dX12_chairs_161 (by decide) ?_
              exact ih_118 y4_118 y5_118 v_21 f_20 _ _ _ (hs.trans ((if_neg (Int.not_lt.mpr c_6)).trans (spl_e ev_7 (spl_e ev_9 (spl_e ev_11 (spl_e ev_12 (spl2_e u_18 (spl_e ev_19 (spl_e ef_20 (spl_e ev_21 rfl)))))))))) (by omega) hm_96 hy0_118 hy1_118 hy2_118 hy3_118 hy4_118 ⟨by omega, by omega⟩ hI hF hP hS (lv_sub hl [1, 2, 3, 4, 5, 6, 0] rfl)
      intro y4_96 fp_96 H locs ls hs hm_96 hy0_96 hy1_96 hy2_96 hy3_96 hI hF hP hS hl
      have hs : sp = sX12_chairs_h96 x0 x1 x2 (sX12_chairs_l96 x0 x1 x2 n_96) y4_96 fp_96 L := hs
      refine lv_iload hx hb dX12_chairs_96 (lv_at hl 4 rfl) ?_
      refine lv_aload_n hx hb dX12_chairs_98 rfl (lv_at hl 0 rfl) ?_
      refine lv_iload_n hx hb dX12_chairs_99 rfl (lv_at hl 1 rfl) ?_
      refine sg_calli (va_runV (As := [.int x0]) (rest := [.int y4_96]) ⟨hx, hb, hml, hown, hts⟩ (kX12_shiftsOf l D ca za h hh fp_96 L Q hI x0 hy0_96 H.size) (sl_c12_shiftsOf_0_0_0_0_12 hts ⟨Nat.le_of_ble_eq_true rfl, Nat.le_of_ble_eq_true rfl⟩) (sl_vM_0 hA hK hP hS hZ) rfl rfl hl.1 rfl (lv_room (Nat.le_of_ble_eq_true rfl)) dX12_chairs_100 ⟨Nat.le_refl _, Nat.le_refl _⟩) hA hS (fun r_26 f_23 L_24 Q_25 H locs hq hP hS => ?_)
      obtain ⟨⟨ef9, eL9, eQ9⟩, hq, u_27⟩ := hq
      replace hs := hs.trans (spl_e u_27 rfl)
      rw [ef9, eL9, eQ9] at hP; clear ef9 eL9 eQ9
      refine lv_icmp_ge (tgt := 170) hx hb dX12_chairs_103 (by decide) (fun c => ?_) (fun c => ?_)
      · skip
        have c_28 : r_26.toInt ≤ y4_96.toInt := (by first | exact (bn_le c) | (have z := bn_le c; omega))
        refine lv_aload_n hx hb dX12_chairs_170 rfl (lv_at hl 0 rfl) ?_
        refine lv_iload_n hx hb dX12_chairs_171 rfl (lv_at hl 1 rfl) ?_
        refine sg_calli (va_runV (As := [.int x0]) (rest := []) ⟨hx, hb, hml, hown, hts⟩ (kX12_sitsSet l D ca za h hh fp_96 L Q hI x0 hy0_96 H.size) (sl_c12_sitsSet_3_0_0_71_12 hts ⟨Nat.le_of_ble_eq_true rfl, Nat.le_of_ble_eq_true rfl⟩) (sl_vM_0 hA hK hP hS hZ) rfl rfl hl.1 rfl (lv_room (Nat.le_of_ble_eq_true rfl)) dX12_chairs_172 ⟨Nat.le_refl _, Nat.le_refl _⟩) hA hS (fun r_33 f_30 L_31 Q_32 H locs hq hP hS => ?_)
        obtain ⟨⟨ef9, eL9, eQ9⟩, hq, u_34⟩ := hq
        rw [ef9, eL9, eQ9] at hP; clear ef9 eL9 eQ9
        refine lv_istore (lv' := [(4, .int r_33), (0, .ref (h 0)), (1, .int x0), (2, .int x1), (3, .int x2)]) hx hb dX12_chairs_175 hl (by decide) rfl (fun ls hl => ?_)
        refine lv_aload_n hx hb dX12_chairs_177 rfl (lv_at hl 1 rfl) ?_
        refine lv_iconst (v := (-1)) hx hb dX12_chairs_178 ic_m1 ?_
        refine sl_pM_0_35_12 (x := (-1)) hx hb hts hown hh hA hK hP hS dX12_chairs_179 (fun f_35 H locs ef_35 hP hS => ?_)
        have hI : sgI loM hiM f_35 := by rw [ef_35]; exact sgI.put hI 0 35 (bn_top _)
        have hF : sgK WkX12_chairs f f_35 := sgK.put hF ef_35 (by rfl)
        refine lv_aload_n hx hb dX12_chairs_182 rfl (lv_at hl 1 rfl) ?_
        refine lv_iconst (v := 0) hx hb dX12_chairs_183 ic_0 ?_
        refine lv_iconst (v := 0) hx hb dX12_chairs_184 ic_0 ?_
        refine lv_iload hx hb dX12_chairs_185 (lv_at hl 0 rfl) ?_
        refine lv_iload_n hx hb dX12_chairs_187 rfl (lv_at hl 3 rfl) ?_
        refine lv_bipush (v := 10) hx hb dX12_chairs_188 bp_10 ?_
        refine lv_irem hx hb dX12_chairs_190 (by decide) ?_
        refine lv_topi (fun v_36 ev_36 => ?_)
        have q_37 : v_36.toInt = x1.toInt % 10 := by rw [ev_36]; exact bn_remI (by omega) (by decide) (by decide)
        obtain ⟨v_38, ev_38⟩ : ∃ z : Int32, z = f_35 0 6 := ⟨_, rfl⟩
        have q_39 : 0 ≤ v_38.toInt ∧ v_38.toInt ≤ 8 := by rw [ev_38]; exact hI 0 6
        have q_40 : (f_35 0 6).toInt = v_38.toInt := (congrArg Int32.toInt (show f_35 0 6 = v_38 from ev_38.symm))
        refine sg_callv (va_runV (As := [.int 0, .int 0, .int r_33, .int v_36]) (rest := []) ⟨hx, hb, hml, hown, hts⟩ (kX12_chairsOn_0 l D ca za h hh f_35 L Q hI 0 r_33 v_36 (by decide) ⟨by omega, by omega⟩ ⟨by omega, by omega⟩ (by have k0 : (0 : Int32).toInt = 0 := ti_0; have k1 : (0 : Int32).toInt = 0 := ti_0; omega) H.size) (sl_c12_chairsOn_10_0_0_255_12 hts ⟨Nat.le_of_ble_eq_true rfl, Nat.le_of_ble_eq_true rfl⟩) (sl_vM_0 hA hK hP hS hZ) rfl rfl hl.1 rfl (lv_room (Nat.le_of_ble_eq_true rfl)) dX12_chairs_191 ⟨Nat.le_refl _, Nat.le_refl _⟩) hA hS (fun f_42 L_43 Q_44 H locs hq hP hS => ?_)
        obtain ⟨⟨hI, hk_f_42, eL9, eQ9⟩, u_45⟩ := hq
        replace hs := hs.trans ((if_neg (Int.not_lt.mpr c_28)).trans (spl_e u_34 (spl_e ef_35 (spl_e ev_36 (spl_e ev_38 (spl_e u_45 rfl))))))
        rw [eL9, eQ9] at hP; clear eL9 eQ9
        have hF : sgK WkX12_chairs f f_42 := sgK.tr hF hk_f_42 (by decide +kernel)
        refine lv_iload_n hx hb dX12_chairs_194 rfl (lv_at hl 4 rfl) ?_
        refine lv_if_ge (tgt := 205) hx hb dX12_chairs_195 (by decide) (fun c => ?_) (fun c => ?_)
        · skip
          have c_46 : 0 ≤ x2.toInt := (by first | exact (cm_le0 ti_0 c) | (have z := bn_le c; have k1 : (0 : Int32).toInt = 0 := ti_0; omega))
          refine lv_iload hx hb dX12_chairs_205 (lv_at hl 0 rfl) ?_
          refine lv_iload_n hx hb dX12_chairs_207 rfl (lv_at hl 4 rfl) ?_
          refine sg_calli (va_runS (As := [.int r_33, .int x2]) (rest := []) ⟨hx, hb, hml, hown, hts⟩ (kX12_isIn l D ca za h hh f_42 L Q hI r_33 x2 ⟨by omega, by omega⟩ ⟨by omega, by omega⟩ H.size) (va_cwS 2 hts (gw_S (fun _ h => List.mem_cons_of_mem _ h) mw_832 mw_833 mw_619 mw_831) rfl rfl rfl hd_yX12_isIn.2 ⟨Nat.le_of_ble_eq_true rfl, Nat.le_of_ble_eq_true rfl⟩) (sg_preS hA hK hP hS hZ) rfl rfl hl.1 rfl (lv_room (Nat.le_of_ble_eq_true rfl)) dX12_chairs_208 ⟨Nat.le_refl _, Nat.le_refl _⟩) hA hS (fun r_51 f_48 L_49 Q_50 H locs hq hP hS => ?_)
          obtain ⟨⟨ef9, eL9, eQ9⟩, hq, u_52⟩ := hq
          replace hs := hs.trans ((if_neg (Int.not_lt.mpr c_46)).trans (spl_e u_52 rfl))
          rw [ef9, eL9, eQ9] at hP; clear ef9 eL9 eQ9
          refine lv_if_eq (tgt := 223) hx hb dX12_chairs_211 (by decide) (fun c => ?_) (fun c => ?_)
          · skip
            have c_53 : r_51.toInt = 0 := (by first | exact (cm_eq1 ti_0 c) | (have z := Int32.toInt_inj.mpr c; have k1 : (0 : Int32).toInt = 0 := ti_0; omega))
            refine lv_bipush (v := (-2)) hx hb dX12_chairs_223 bp_m2 ?_
            have k99 : ((-2) : Int32).toInt = (-2) := ti_m2
            exact hret _ _ _ _ (-2) f_42 L Q dX12_chairs_225 hP hS ⟨⟨hI, hF, rfl, rfl⟩, trivial, (Eq.trans (Eq.symm (hs.trans ((if_pos c_53).trans rfl))) hsp)⟩
          · skip
            have c_54 : r_51.toInt ≠ 0 := (by first | exact (cm_ne1 ti_0 c) | (have z := bn_ne c; have k1 : (0 : Int32).toInt = 0 := ti_0; omega))
            refine lv_aload_n hx hb dX12_chairs_214 rfl (lv_at hl 1 rfl) ?_
            refine sl_gM_0_34_12 hx hb hts hown hK hP dX12_chairs_215 ?_
            refine lv_iload_n hx hb dX12_chairs_218 rfl (lv_at hl 4 rfl) ?_
            refine sg_iald hx hb hK hP 16 (by decide) 0 rfl rfl (i := x2) (vp_in_iff.mpr ⟨by omega, by omega⟩) dX12_chairs_219 ?_
            refine lv_topi (fun v_55 ev_55 => ?_)
            have q_56 : 0 ≤ v_55.toInt ∧ v_55.toInt ≤ 7 := by rw [ev_55]; exact hI 16 _
            refine lv_goto (tgt := 225) hx hb dX12_chairs_220 (by decide) ?_
            exact hret _ _ _ _ (v_55) f_42 L Q dX12_chairs_225 hP hS ⟨⟨hI, hF, rfl, rfl⟩, trivial, (Eq.trans (Eq.symm (hs.trans ((if_neg c_54).trans (spl_e ev_55 rfl)))) hsp)⟩
        · skip
          have c_47 : x2.toInt < 0 := (by first | exact (cm_nle0 ti_0 c) | (have z := bn_nle c; have k1 : (0 : Int32).toInt = 0 := ti_0; omega))
          refine lv_aload_n hx hb dX12_chairs_198 rfl (lv_at hl 1 rfl) ?_
          refine sl_gM_0_35_12 (v := (f_42 0 35)) hx hb hts hown hK hP rfl dX12_chairs_199 ?_
          refine lv_topi (fun v_57 ev_57 => ?_)
          refine lv_goto (tgt := 225) hx hb dX12_chairs_202 (by decide) ?_
          exact hret _ _ _ _ (v_57) f_42 L Q dX12_chairs_225 hP hS ⟨⟨hI, hF, rfl, rfl⟩, trivial, (Eq.trans (Eq.symm (hs.trans ((if_pos c_47).trans (spl_e ev_57 rfl)))) hsp)⟩
      · skip
        have c_29 : y4_96.toInt < r_26.toInt := (by first | exact (bn_nle c) | (have z := bn_nle c; omega))
        refine lv_aload_n hx hb dX12_chairs_106 rfl (lv_at hl 0 rfl) ?_
        refine lv_iload_n hx hb dX12_chairs_107 rfl (lv_at hl 1 rfl) ?_
        refine lv_iload hx hb dX12_chairs_108 (lv_at hl 4 rfl) ?_
        refine sg_calli (va_runV (As := [.int x0, .int y4_96]) (rest := []) ⟨hx, hb, hml, hown, hts⟩ (kX12_whoSits l D ca za h hh fp_96 L Q hI x0 y4_96 hy0_96 ⟨by omega, by omega⟩ H.size) (sl_c12_whoSits_2_0_0_47_12 hts ⟨Nat.le_of_ble_eq_true rfl, Nat.le_of_ble_eq_true rfl⟩) (sl_vM_0 hA hK hP hS hZ) rfl rfl hl.1 rfl (lv_room (Nat.le_of_ble_eq_true rfl)) dX12_chairs_110 ⟨Nat.le_refl _, Nat.le_refl _⟩) hA hS (fun r_61 f_58 L_59 Q_60 H locs hq hP hS => ?_)
        obtain ⟨⟨ef9, eL9, eQ9⟩, hq, u_62⟩ := hq
        rw [ef9, eL9, eQ9] at hP; clear ef9 eL9 eQ9
        refine lv_istore (lv' := [(5, .int r_61), (0, .ref (h 0)), (1, .int x0), (2, .int x1), (3, .int x2), (4, .int y4_96)]) hx hb dX12_chairs_113 hl (by decide) rfl (fun ls hl => ?_)
        refine lv_iconst (v := 0) hx hb dX12_chairs_115 ic_0 ?_
        refine lv_istore (lv' := [(6, .int 0), (5, .int r_61), (0, .ref (h 0)), (1, .int x0), (2, .int x1), (3, .int x2), (4, .int y4_96)]) hx hb dX12_chairs_116 hl (by decide) rfl (fun ls hl => ?_)
        exact loop_118 62 y4_96 r_61 0 fp_96 _ _ _ (hs.trans ((if_pos c_29).trans (spl_e u_62 rfl))) (by have kc2 : (0 : Int32).toInt = 0 := ti_0; omega) (by have kc2 : (0 : Int32).toInt = 0 := ti_0; omega) hy0_96 hy1_96 hy2_96 ⟨by omega, by omega⟩ ⟨by omega, by omega⟩ (by decide) hI hF hP hS (lv_sub hl [2, 3, 4, 5, 6, 1, 0] rfl)
  have loop_71 : ∀ (n_71 : Nat) (y4_71 : Int32) (fp_71 : sg_F) (H : Heap) (locs : List Loc) (ls : Array Slot), sp = sX12_chairs_l71 x0 x1 x2 n_71 y4_71 fp_71 L → 488 - y4_71.toInt < (n_71 : Int) → 0 ≤ x0.toInt ∧ x0.toInt ≤ 5 → 0 ≤ x1.toInt ∧ x1.toInt ≤ 29 → (-1) ≤ x2.toInt ∧ x2.toInt ≤ 7 → 0 ≤ y4_71.toInt ∧ y4_71.toInt ≤ 488 → sgI loM hiM fp_71 → sgK WkX12_chairs f fp_71 → va_P D vwCl (sgw 26 h (eM ca h) fp_71 L Q) H → va_S (sgA 26 h s.heap.size) s.heap H locs → lv_has ls 7 [(0, .ref (h 0)), (1, .int x0), (2, .int x1), (3, .int x2), (4, .int y4_71)] → W p l e ({ frames := 45, cells := 0, slots := 0, locals := 1032 }) s m ([.ref (h 0), .int x0, .int x1, .int x2] : List Value).toArray below meth cd H locs 0 0 Qz (F0 m 71 ls []) := by
    intro n_71
    induction n_71 with
    | zero => intro y4_71 fp_71 H locs ls hs hm_71 hy0_71 hy1_71 hy2_71 hy3_71 hI hF hP hS hl; exact absurd hm_71 (by omega)
    | succ n_71 ih_71 =>
      intro y4_71 fp_71 H locs ls hs hm_71 hy0_71 hy1_71 hy2_71 hy3_71 hI hF hP hS hl
      have hs : sp = sX12_chairs_h71 x0 x1 x2 (sX12_chairs_l71 x0 x1 x2 n_71) y4_71 fp_71 L := hs
      refine lv_iload hx hb dX12_chairs_71 (lv_at hl 4 rfl) ?_
      refine lv_sipush (v := 488) hx hb dX12_chairs_73 (by decide) ?_
      refine lv_icmp_ge (tgt := 93) hx hb dX12_chairs_76 (by decide) (fun c => ?_) (fun c => ?_)
      · skip
        have c_63 : 488 ≤ y4_71.toInt := (by first | exact (cm_le0 ti_488 c) | (have z := bn_le c; have k1 : (488 : Int32).toInt = 488 := ti_488; omega))
        refine lv_iconst (v := 0) hx hb dX12_chairs_93 ic_0 ?_
        refine lv_istore (lv' := [(4, .int 0), (0, .ref (h 0)), (1, .int x0), (2, .int x1), (3, .int x2)]) hx hb dX12_chairs_94 hl (by decide) rfl (fun ls hl => ?_)
        exact loop_96 22 0 fp_71 _ _ _ (hs.trans (((if_neg (Int.not_lt.mpr c_63)).trans rfl))) (by have kc0 : (0 : Int32).toInt = 0 := ti_0; omega) hy0_71 hy1_71 hy2_71 (by decide) hI hF hP hS (lv_sub hl [1, 2, 3, 4, 0] rfl)
      · skip
        have c_64 : y4_71.toInt < 488 := (by first | exact (cm_nle0 ti_488 c) | (have z := bn_nle c; have k1 : (488 : Int32).toInt = 488 := ti_488; omega))
        refine lv_aload_n hx hb dX12_chairs_79 rfl (lv_at hl 0 rfl) ?_
        refine sl_gM_0_32_12 hx hb hts hown hK hP dX12_chairs_80 ?_
        refine lv_iload hx hb dX12_chairs_83 (lv_at hl 4 rfl) ?_
        refine lv_iconst (v := 0) hx hb dX12_chairs_85 ic_0 ?_
        refine sg_iast hx hb hh hA hK hP hS 14 (by decide) 0 (fun _ => rfl) rfl (i := y4_71) (x := 0) (vp_in_iff.mpr ⟨by omega, by omega⟩) dX12_chairs_86 (fun f_65 H locs ef_65 hP hS => ?_)
        have hI : sgI loM hiM f_65 := by rw [ef_65]; exact sgI.put hI 14 y4_71.toNatClampNeg (bn_top _)
        have hF : sgK WkX12_chairs f f_65 := sgK.put hF ef_65 (by rfl)
        obtain ⟨v_66, ev_66⟩ : ∃ z : Int32, z = y4_71 + 1 := ⟨_, rfl⟩
        have q_67 : v_66.toInt = y4_71.toInt + 1 := by rw [ev_66]; exact (bn_addc y4_71 1 (by decide) (by omega) (by omega))
        refine lv_iinc (v := v_66) (lv' := [(4, .int v_66), (0, .ref (h 0)), (1, .int x0), (2, .int x1), (3, .int x2)]) hx hb dX12_chairs_87 hl (k := 4) rfl (by rw [ev_66]; rfl) (by decide) rfl (fun ls hl => ?_)
        refine lv_goto (tgt := 71) hx hb dX12_chairs_90 (by decide) ?_
        exact ih_71 v_66 f_65 _ _ _ (hs.trans (((if_pos c_64).trans (spl_e ef_65 (spl_e ev_66 rfl))))) (by omega) hy0_71 hy1_71 hy2_71 ⟨by omega, by omega⟩ hI hF hP hS (lv_sub hl [1, 2, 3, 4, 0] rfl)
  have blk_54 : ∀ (fp_54 : sg_F) (H : Heap) (locs : List Loc) (ls : Array Slot), sp = sX12_chairs_b54 x0 x1 x2 fp_54 L → 0 ≤ x0.toInt ∧ x0.toInt ≤ 5 → 0 ≤ x1.toInt ∧ x1.toInt ≤ 29 → (-1) ≤ x2.toInt ∧ x2.toInt ≤ 7 → sgI loM hiM fp_54 → sgK WkX12_chairs f fp_54 → va_P D vwCl (sgw 26 h (eM ca h) fp_54 L Q) H → va_S (sgA 26 h s.heap.size) s.heap H locs → lv_has ls 7 [(0, .ref (h 0)), (1, .int x0), (2, .int x1), (3, .int x2)] → W p l e ({ frames := 45, cells := 0, slots := 0, locals := 1032 }) s m ([.ref (h 0), .int x0, .int x1, .int x2] : List Value).toArray below meth cd H locs 0 0 Qz (F0 m 54 ls []) := by
    intro fp_54 H locs ls hs hy0_54 hy1_54 hy2_54 hI hF hP hS hl
    refine lv_aload_n hx hb dX12_chairs_54 rfl (lv_at hl 0 rfl) ?_
    refine lv_iload_n hx hb dX12_chairs_55 rfl (lv_at hl 1 rfl) ?_
    refine sg_calli (va_runV (As := [.int x0]) (rest := []) ⟨hx, hb, hml, hown, hts⟩ (kX12_bytesIs l D ca za h hh fp_54 L Q hI x0 H.size) (sl_c12_bytesIs_2_0_0_45_12 hts ⟨Nat.le_of_ble_eq_true rfl, Nat.le_of_ble_eq_true rfl⟩) (sl_vM_0 hA hK hP hS hZ) rfl rfl hl.1 rfl (lv_room (Nat.le_of_ble_eq_true rfl)) dX12_chairs_56 ⟨Nat.le_refl _, Nat.le_refl _⟩) hA hS (fun r_71 f_68 L_69 Q_70 H locs hq hP hS => ?_)
    obtain ⟨⟨ef9, eL9, eQ9⟩, hq, u_72⟩ := hq
    replace hs := hs.trans (spl_e u_72 rfl)
    rw [ef9, eL9, eQ9] at hP; clear ef9 eL9 eQ9
    rcases hq with ⟨rfl, hq⟩ | hq | ⟨rfl, hq⟩
    · skip
      have hc_73 := hq
      refine lv_if_ge (tgt := 68) hx hb dX12_chairs_59 (by decide) (fun c => ?_) (fun c => absurd c (by decide))
      refine lv_iconst (v := 0) hx hb dX12_chairs_68 ic_0 ?_
      refine lv_istore (lv' := [(4, .int 0), (0, .ref (h 0)), (1, .int x0), (2, .int x1), (3, .int x2)]) hx hb dX12_chairs_69 hl (by decide) rfl (fun ls hl => ?_)
      exact loop_71 489 0 fp_54 _ _ _ (hs.trans ((if_pos rfl).trans rfl)) (by have kc0 : (0 : Int32).toInt = 0 := ti_0; omega) hy0_54 hy1_54 hy2_54 (by decide) hI hF hP hS (lv_sub hl [1, 2, 3, 4, 0] rfl)
    · skip
      have hc_73 := hq
      refine lv_if_ge (tgt := 68) hx hb dX12_chairs_59 (by decide) (fun c => ?_) (fun c => ?_)
      · skip
        exfalso; have c_74 : 0 ≤ r_71.toInt := (by first | exact (cm_le0 ti_0 c) | (have z := bn_le c; have k1 : (0 : Int32).toInt = 0 := ti_0; omega)); omega
      · skip
        have c_75 : r_71.toInt < 0 := (by first | exact (cm_nle0 ti_0 c) | (have z := bn_nle c; have k1 : (0 : Int32).toInt = 0 := ti_0; omega))
        refine lv_aload_n hx hb dX12_chairs_62 rfl (lv_at hl 0 rfl) ?_
        refine lv_iload_n hx hb dX12_chairs_63 rfl (lv_at hl 1 rfl) ?_
        refine sg_calli (va_runV (As := [.int x0]) (rest := []) ⟨hx, hb, hml, hown, hts⟩ (kX12_bytesIs l D ca za h hh fp_54 L Q hI x0 H.size) (sl_c12_bytesIs_2_0_0_45_12 hts ⟨Nat.le_of_ble_eq_true rfl, Nat.le_of_ble_eq_true rfl⟩) (sl_vM_0 hA hK hP hS hZ) rfl rfl hl.1 rfl (lv_room (Nat.le_of_ble_eq_true rfl)) dX12_chairs_64 ⟨Nat.le_refl _, Nat.le_refl _⟩) hA hS (fun r_79 f_76 L_77 Q_78 H locs hq hP hS => ?_)
        obtain ⟨⟨ef9, eL9, eQ9⟩, hq, u_80⟩ := hq
        rw [ef9, eL9, eQ9] at hP; clear ef9 eL9 eQ9
        rw [show r_79 = r_71 from u_80.trans u_72.symm]
        exact hret _ _ _ _ (r_71) fp_54 L Q dX12_chairs_67 hP hS ⟨⟨hI, hF, rfl, rfl⟩, trivial, (Eq.trans (Eq.symm (hs.trans ((if_neg (fun z9 => by have k9 : (1 : Int32).toInt = 1 := ti_1; have h9 := hc_73; rw [z9] at h9; omega)).trans ((if_neg (fun z9 => by have k9 : ((-1) : Int32).toInt = (-1) := ti_m1; have h9 := hc_73; rw [z9] at h9; omega)).trans rfl)))) hsp)⟩
    · skip
      have hc_73 := hq
      refine lv_if_ge (tgt := 68) hx hb dX12_chairs_59 (by decide) (fun c => absurd c (by decide)) (fun c => ?_)
      refine lv_aload_n hx hb dX12_chairs_62 rfl (lv_at hl 0 rfl) ?_
      refine lv_iload_n hx hb dX12_chairs_63 rfl (lv_at hl 1 rfl) ?_
      refine sg_calli (va_runV (As := [.int x0]) (rest := []) ⟨hx, hb, hml, hown, hts⟩ (kX12_bytesIs l D ca za h hh fp_54 L Q hI x0 H.size) (sl_c12_bytesIs_2_0_0_45_12 hts ⟨Nat.le_of_ble_eq_true rfl, Nat.le_of_ble_eq_true rfl⟩) (sl_vM_0 hA hK hP hS hZ) rfl rfl hl.1 rfl (lv_room (Nat.le_of_ble_eq_true rfl)) dX12_chairs_64 ⟨Nat.le_refl _, Nat.le_refl _⟩) hA hS (fun r_84 f_81 L_82 Q_83 H locs hq hP hS => ?_)
      obtain ⟨⟨ef9, eL9, eQ9⟩, hq, u_85⟩ := hq
      rw [ef9, eL9, eQ9] at hP; clear ef9 eL9 eQ9
      rw [show r_84 = (-1) from u_85.trans u_72.symm]
      have k99 : ((-1) : Int32).toInt = (-1) := ti_m1
      exact hret _ _ _ _ (-1) fp_54 L Q dX12_chairs_67 hP hS ⟨⟨hI, hF, rfl, rfl⟩, trivial, (Eq.trans (Eq.symm (hs.trans ((if_neg (by decide)).trans ((if_pos rfl).trans rfl)))) hsp)⟩
  refine lv_aload_n hx hb dX12_chairs_0 rfl (lv_at hl 0 rfl) ?_
  refine lv_iload_n hx hb dX12_chairs_1 rfl (lv_at hl 1 rfl) ?_
  refine sg_calli (va_runV (As := [.int x0]) (rest := []) ⟨hx, hb, hml, hown, hts⟩ (kX12_bytesIs l D ca za h hh f L Q hI x0 H.size) (sl_c12_bytesIs_2_0_0_45_12 hts ⟨Nat.le_of_ble_eq_true rfl, Nat.le_of_ble_eq_true rfl⟩) (sl_vM_0 hA hK hP hS hZ) rfl rfl hl.1 rfl (lv_room (Nat.le_of_ble_eq_true rfl)) dX12_chairs_2 ⟨Nat.le_refl _, Nat.le_refl _⟩) hA hS (fun r_89 f_86 L_87 Q_88 H locs hq hP hS => ?_)
  obtain ⟨⟨ef9, eL9, eQ9⟩, hq, u_90⟩ := hq
  replace hs := hs.trans (spl_e u_90 rfl)
  rw [ef9, eL9, eQ9] at hP; clear ef9 eL9 eQ9
  rcases hq with ⟨rfl, hq⟩ | hq | ⟨rfl, hq⟩
  · skip
    have hc_91 := hq
    refine lv_iconst (v := (-1)) hx hb dX12_chairs_5 ic_m1 ?_
    refine lv_icmp_eq (tgt := 52) hx hb dX12_chairs_6 (by decide) (fun c => absurd c (by decide)) (fun c => ?_)
    refine lv_iload_n hx hb dX12_chairs_9 rfl (lv_at hl 2 rfl) ?_
    refine lv_if_lt (tgt := 52) hx hb dX12_chairs_10 (by decide) (fun c => ?_) (fun c => ?_)
    · skip
      have c_92 : x1.toInt < 0 := (by first | exact (cm_lt1 ti_0 c) | (have z := bn_lt c; have k1 : (0 : Int32).toInt = 0 := ti_0; omega))
      refine lv_iconst (v := (-1)) hx hb dX12_chairs_52 ic_m1 ?_
      have k99 : ((-1) : Int32).toInt = (-1) := ti_m1
      exact hret _ _ _ _ (-1) f L Q dX12_chairs_53 hP hS ⟨⟨hI, hF, rfl, rfl⟩, trivial, (Eq.trans (Eq.symm (hs.trans ((if_pos rfl).trans ((if_pos c_92).trans rfl)))) hsp)⟩
    · skip
      have c_93 : 0 ≤ x1.toInt := (by first | exact (cm_nlt1 ti_0 c) | (have z := bn_nlt c; have k1 : (0 : Int32).toInt = 0 := ti_0; omega))
      refine lv_iload_n hx hb dX12_chairs_13 rfl (lv_at hl 2 rfl) ?_
      refine lv_bipush (v := 10) hx hb dX12_chairs_14 bp_10 ?_
      refine lv_idiv hx hb dX12_chairs_16 (by decide) ?_
      refine lv_topi (fun v_94 ev_94 => ?_)
      have q_95 : v_94.toInt = x1.toInt / 10 := by rw [ev_94]; exact bn_divI (by omega) (by decide) (by decide)
      refine sg_calli (va_runS (As := [.int v_94]) (rest := []) ⟨hx, hb, hml, hown, hts⟩ (kX12_isPart l D ca za h hh f L Q hI v_94 H.size) (va_cwS 1 hts (gw_S (fun _ h => List.mem_cons_of_mem _ h) mw_636 mw_637 mw_619 mw_635) rfl rfl rfl hd_yX12_isPart.2 ⟨Nat.le_of_ble_eq_true rfl, Nat.le_of_ble_eq_true rfl⟩) (sg_preS hA hK hP hS hZ) rfl rfl hl.1 rfl (lv_room (Nat.le_of_ble_eq_true rfl)) dX12_chairs_17 ⟨Nat.le_refl _, Nat.le_refl _⟩) hA hS (fun r_99 f_96 L_97 Q_98 H locs hq hP hS => ?_)
      obtain ⟨⟨ef9, eL9, eQ9⟩, hq, u_100⟩ := hq
      replace hs := hs.trans ((if_pos rfl).trans ((if_neg (Int.not_lt.mpr c_93)).trans (spl_e ev_94 (spl_e u_100 rfl))))
      rw [ef9, eL9, eQ9] at hP; clear ef9 eL9 eQ9
      rcases hq with ⟨rfl, hq⟩ | ⟨rfl, hq⟩
      · skip
        have hc_101 := hq
        refine lv_if_eq (tgt := 52) hx hb dX12_chairs_20 (by decide) (fun c => absurd c (by decide)) (fun c => ?_)
        refine lv_iload_n hx hb dX12_chairs_23 rfl (lv_at hl 2 rfl) ?_
        refine lv_bipush (v := 10) hx hb dX12_chairs_24 bp_10 ?_
        refine lv_irem hx hb dX12_chairs_26 (by decide) ?_
        refine lv_topi (fun v_102 ev_102 => ?_)
        have q_103 : v_102.toInt = x1.toInt % 10 := by rw [ev_102]; exact bn_remI (by omega) (by decide) (by decide)
        obtain ⟨w_104, ew_104⟩ : ∃ z : Int64, z = Int32.toInt64 v_102 := ⟨_, rfl⟩
        have q_105 : w_104.toInt = v_102.toInt := by rw [ew_104]; exact Int32.toInt_toInt64 _
        refine lv_i2l (v := w_104) hx hb dX12_chairs_27 ew_104.symm ?_
        refine lv_lconst (v := 1) hx hb dX12_chairs_28 (by decide) ?_
        refine lv_ldc2 (v := 3) hx hb hown (hts _ (List.mem_cons_of_mem _ mw_692)) dX12_chairs_29 ?_
        refine sg_calli (va_runS (As := [.long w_104, .long 1, .long 3]) (rest := []) ⟨hx, hb, hml, hown, hts⟩ (kX12_within l D ca za h hh f L Q hI w_104 1 3 H.size) (va_cwS 3 hts (gw_S (fun _ h => List.mem_cons_of_mem _ h) mw_631 mw_632 mw_619 mw_630) rfl rfl rfl hd_yX12_within.2 ⟨Nat.le_of_ble_eq_true rfl, Nat.le_of_ble_eq_true rfl⟩) (sg_preS hA hK hP hS hZ) rfl rfl hl.1 rfl (lv_room (Nat.le_of_ble_eq_true rfl)) dX12_chairs_32 ⟨Nat.le_refl _, Nat.le_refl _⟩) hA hS (fun r_109 f_106 L_107 Q_108 H locs hq hP hS => ?_)
        obtain ⟨⟨ef9, eL9, eQ9⟩, hq, u_110⟩ := hq
        replace hs := hs.trans ((if_pos rfl).trans (spl_e ev_102 (spl_e ew_104 (spl_e u_110 rfl))))
        rw [ef9, eL9, eQ9] at hP; clear ef9 eL9 eQ9
        have k_111 : (1 : Int64).toInt = 1 := by decide
        have k_112 : (3 : Int64).toInt = 3 := by decide
        rcases hq with ⟨rfl, hq⟩ | ⟨rfl, hq⟩
        · skip
          have hc_113 := hq
          refine lv_if_eq (tgt := 52) hx hb dX12_chairs_35 (by decide) (fun c => absurd c (by decide)) (fun c => ?_)
          refine lv_iload_n hx hb dX12_chairs_38 rfl (lv_at hl 3 rfl) ?_
          refine lv_iconst (v := (-1)) hx hb dX12_chairs_39 ic_m1 ?_
          refine lv_icmp_eq (tgt := 54) hx hb dX12_chairs_40 (by decide) (fun c => ?_) (fun c => ?_)
          · skip
            have c_114 : x2.toInt = (-1) := (by first | exact (cm_eq1 ti_m1 c) | (have z := Int32.toInt_inj.mpr c; have k1 : ((-1) : Int32).toInt = (-1) := ti_m1; omega))
            exact blk_54 f _ _ _ (hs.trans ((if_pos rfl).trans ((if_pos c_114).trans rfl))) ⟨by omega, by omega⟩ ⟨by omega, by omega⟩ ⟨by omega, by omega⟩ hI hF hP hS (lv_sub hl [0, 1, 2, 3] rfl)
          · skip
            have c_115 : x2.toInt ≠ (-1) := (by first | exact (cm_ne1 ti_m1 c) | (have z := bn_ne c; have k1 : ((-1) : Int32).toInt = (-1) := ti_m1; omega))
            refine lv_aload_n hx hb dX12_chairs_43 rfl (lv_at hl 0 rfl) ?_
            refine lv_iload_n hx hb dX12_chairs_44 rfl (lv_at hl 3 rfl) ?_
            obtain ⟨w_116, ew_116⟩ : ∃ z : Int64, z = Int32.toInt64 x2 := ⟨_, rfl⟩
            have q_117 : w_116.toInt = x2.toInt := by rw [ew_116]; exact Int32.toInt_toInt64 _
            refine lv_i2l (v := w_116) hx hb dX12_chairs_45 ew_116.symm ?_
            obtain ⟨v_118, ev_118⟩ : ∃ z : Int32, z = f 0 6 := ⟨_, rfl⟩
            have q_119 : 0 ≤ v_118.toInt ∧ v_118.toInt ≤ 8 := by rw [ev_118]; exact hI 0 6
            have q_120 : (f 0 6).toInt = v_118.toInt := (congrArg Int32.toInt (show f 0 6 = v_118 from ev_118.symm))
            refine sg_calli (va_runV (As := [.long w_116]) (rest := []) ⟨hx, hb, hml, hown, hts⟩ (kX12_isSitter l D ca za h hh f L Q hI w_116 H.size) (sl_c12_isSitter_1_0_0_25_12 hts ⟨Nat.le_of_ble_eq_true rfl, Nat.le_of_ble_eq_true rfl⟩) (sl_vM_0 hA hK hP hS hZ) rfl rfl hl.1 rfl (lv_room (Nat.le_of_ble_eq_true rfl)) dX12_chairs_46 ⟨Nat.le_refl _, Nat.le_refl _⟩) hA hS (fun r_125 f_122 L_123 Q_124 H locs hq hP hS => ?_)
            obtain ⟨⟨ef9, eL9, eQ9⟩, hq, u_126⟩ := hq
            replace hs := hs.trans ((if_pos rfl).trans ((if_neg c_115).trans (spl_e ew_116 (spl_e ev_118 (spl_e u_126 rfl)))))
            rw [ef9, eL9, eQ9] at hP; clear ef9 eL9 eQ9
            rcases hq with ⟨rfl, hq⟩ | ⟨rfl, hq⟩
            · skip
              have hc_127 := hq
              refine lv_if_ne (tgt := 54) hx hb dX12_chairs_49 (by decide) (fun c => ?_) (fun c => absurd c (by decide))
              exact blk_54 f _ _ _ (hs.trans ((if_pos rfl).trans rfl)) ⟨by omega, by omega⟩ ⟨by omega, by omega⟩ ⟨by omega, by omega⟩ hI hF hP hS (lv_sub hl [0, 1, 2, 3] rfl)
            · skip
              have hc_127 := hq
              refine lv_if_ne (tgt := 54) hx hb dX12_chairs_49 (by decide) (fun c => absurd c (by decide)) (fun c => ?_)
              refine lv_iconst (v := (-1)) hx hb dX12_chairs_52 ic_m1 ?_
              have k99 : ((-1) : Int32).toInt = (-1) := ti_m1
              exact hret _ _ _ _ (-1) f L Q dX12_chairs_53 hP hS ⟨⟨hI, hF, rfl, rfl⟩, trivial, (Eq.trans (Eq.symm (hs.trans ((if_neg (by decide)).trans rfl))) hsp)⟩
        · skip
          have hc_113 := hq
          refine lv_if_eq (tgt := 52) hx hb dX12_chairs_35 (by decide) (fun c => ?_) (fun c => absurd c (by decide))
          refine lv_iconst (v := (-1)) hx hb dX12_chairs_52 ic_m1 ?_
          have k99 : ((-1) : Int32).toInt = (-1) := ti_m1
          exact hret _ _ _ _ (-1) f L Q dX12_chairs_53 hP hS ⟨⟨hI, hF, rfl, rfl⟩, trivial, (Eq.trans (Eq.symm (hs.trans ((if_neg (by decide)).trans rfl))) hsp)⟩
      · skip
        have hc_101 := hq
        refine lv_if_eq (tgt := 52) hx hb dX12_chairs_20 (by decide) (fun c => ?_) (fun c => absurd c (by decide))
        refine lv_iconst (v := (-1)) hx hb dX12_chairs_52 ic_m1 ?_
        have k99 : ((-1) : Int32).toInt = (-1) := ti_m1
        exact hret _ _ _ _ (-1) f L Q dX12_chairs_53 hP hS ⟨⟨hI, hF, rfl, rfl⟩, trivial, (Eq.trans (Eq.symm (hs.trans ((if_neg (by decide)).trans rfl))) hsp)⟩
  · skip
    have hc_91 := hq
    refine lv_iconst (v := (-1)) hx hb dX12_chairs_5 ic_m1 ?_
    refine lv_icmp_eq (tgt := 52) hx hb dX12_chairs_6 (by decide) (fun c => ?_) (fun c => ?_)
    · skip
      exfalso; have c_128 : r_89.toInt = (-1) := (by first | exact (cm_eq1 ti_m1 c) | (have z := Int32.toInt_inj.mpr c; have k1 : ((-1) : Int32).toInt = (-1) := ti_m1; omega)); first | exact absurd c_128 (by assumption) | omega
    · skip
      have c_129 : r_89.toInt ≠ (-1) := (by first | exact (cm_ne1 ti_m1 c) | (have z := bn_ne c; have k1 : ((-1) : Int32).toInt = (-1) := ti_m1; omega))
      refine lv_iload_n hx hb dX12_chairs_9 rfl (lv_at hl 2 rfl) ?_
      refine lv_if_lt (tgt := 52) hx hb dX12_chairs_10 (by decide) (fun c => ?_) (fun c => ?_)
      · skip
        have c_130 : x1.toInt < 0 := (by first | exact (cm_lt1 ti_0 c) | (have z := bn_lt c; have k1 : (0 : Int32).toInt = 0 := ti_0; omega))
        refine lv_iconst (v := (-1)) hx hb dX12_chairs_52 ic_m1 ?_
        have k99 : ((-1) : Int32).toInt = (-1) := ti_m1
        exact hret _ _ _ _ (-1) f L Q dX12_chairs_53 hP hS ⟨⟨hI, hF, rfl, rfl⟩, trivial, (Eq.trans (Eq.symm (hs.trans ((if_neg (fun z9 => by have k9 : (1 : Int32).toInt = 1 := ti_1; have h9 := hc_91; rw [z9] at h9; omega)).trans ((if_neg (fun z9 => by have k9 : ((-1) : Int32).toInt = (-1) := ti_m1; have h9 := hc_91; rw [z9] at h9; omega)).trans ((if_pos c_130).trans rfl))))) hsp)⟩
      · skip
        have c_131 : 0 ≤ x1.toInt := (by first | exact (cm_nlt1 ti_0 c) | (have z := bn_nlt c; have k1 : (0 : Int32).toInt = 0 := ti_0; omega))
        refine lv_iload_n hx hb dX12_chairs_13 rfl (lv_at hl 2 rfl) ?_
        refine lv_bipush (v := 10) hx hb dX12_chairs_14 bp_10 ?_
        refine lv_idiv hx hb dX12_chairs_16 (by decide) ?_
        refine lv_topi (fun v_132 ev_132 => ?_)
        have q_133 : v_132.toInt = x1.toInt / 10 := by rw [ev_132]; exact bn_divI (by omega) (by decide) (by decide)
        refine sg_calli (va_runS (As := [.int v_132]) (rest := []) ⟨hx, hb, hml, hown, hts⟩ (kX12_isPart l D ca za h hh f L Q hI v_132 H.size) (va_cwS 1 hts (gw_S (fun _ h => List.mem_cons_of_mem _ h) mw_636 mw_637 mw_619 mw_635) rfl rfl rfl hd_yX12_isPart.2 ⟨Nat.le_of_ble_eq_true rfl, Nat.le_of_ble_eq_true rfl⟩) (sg_preS hA hK hP hS hZ) rfl rfl hl.1 rfl (lv_room (Nat.le_of_ble_eq_true rfl)) dX12_chairs_17 ⟨Nat.le_refl _, Nat.le_refl _⟩) hA hS (fun r_137 f_134 L_135 Q_136 H locs hq hP hS => ?_)
        obtain ⟨⟨ef9, eL9, eQ9⟩, hq, u_138⟩ := hq
        rw [ef9, eL9, eQ9] at hP; clear ef9 eL9 eQ9
        rcases hq with ⟨rfl, hq⟩ | ⟨rfl, hq⟩
        · skip
          have hc_139 := hq
          refine lv_if_eq (tgt := 52) hx hb dX12_chairs_20 (by decide) (fun c => absurd c (by decide)) (fun c => ?_)
          refine lv_iload_n hx hb dX12_chairs_23 rfl (lv_at hl 2 rfl) ?_
          refine lv_bipush (v := 10) hx hb dX12_chairs_24 bp_10 ?_
          refine lv_irem hx hb dX12_chairs_26 (by decide) ?_
          refine lv_topi (fun v_140 ev_140 => ?_)
          have q_141 : v_140.toInt = x1.toInt % 10 := by rw [ev_140]; exact bn_remI (by omega) (by decide) (by decide)
          obtain ⟨w_142, ew_142⟩ : ∃ z : Int64, z = Int32.toInt64 v_140 := ⟨_, rfl⟩
          have q_143 : w_142.toInt = v_140.toInt := by rw [ew_142]; exact Int32.toInt_toInt64 _
          refine lv_i2l (v := w_142) hx hb dX12_chairs_27 ew_142.symm ?_
          refine lv_lconst (v := 1) hx hb dX12_chairs_28 (by decide) ?_
          refine lv_ldc2 (v := 3) hx hb hown (hts _ (List.mem_cons_of_mem _ mw_692)) dX12_chairs_29 ?_
          refine sg_calli (va_runS (As := [.long w_142, .long 1, .long 3]) (rest := []) ⟨hx, hb, hml, hown, hts⟩ (kX12_within l D ca za h hh f L Q hI w_142 1 3 H.size) (va_cwS 3 hts (gw_S (fun _ h => List.mem_cons_of_mem _ h) mw_631 mw_632 mw_619 mw_630) rfl rfl rfl hd_yX12_within.2 ⟨Nat.le_of_ble_eq_true rfl, Nat.le_of_ble_eq_true rfl⟩) (sg_preS hA hK hP hS hZ) rfl rfl hl.1 rfl (lv_room (Nat.le_of_ble_eq_true rfl)) dX12_chairs_32 ⟨Nat.le_refl _, Nat.le_refl _⟩) hA hS (fun r_147 f_144 L_145 Q_146 H locs hq hP hS => ?_)
          obtain ⟨⟨ef9, eL9, eQ9⟩, hq, u_148⟩ := hq
          rw [ef9, eL9, eQ9] at hP; clear ef9 eL9 eQ9
          have k_149 : (1 : Int64).toInt = 1 := by decide
          have k_150 : (3 : Int64).toInt = 3 := by decide
          rcases hq with ⟨rfl, hq⟩ | ⟨rfl, hq⟩
          · skip
            have hc_151 := hq
            refine lv_if_eq (tgt := 52) hx hb dX12_chairs_35 (by decide) (fun c => absurd c (by decide)) (fun c => ?_)
            refine lv_iload_n hx hb dX12_chairs_38 rfl (lv_at hl 3 rfl) ?_
            refine lv_iconst (v := (-1)) hx hb dX12_chairs_39 ic_m1 ?_
            refine lv_icmp_eq (tgt := 54) hx hb dX12_chairs_40 (by decide) (fun c => ?_) (fun c => ?_)
            · skip
              have c_152 : x2.toInt = (-1) := (by first | exact (cm_eq1 ti_m1 c) | (have z := Int32.toInt_inj.mpr c; have k1 : ((-1) : Int32).toInt = (-1) := ti_m1; omega))
              exact blk_54 f _ _ _ (hs.trans ((if_neg (fun z9 => by have k9 : (1 : Int32).toInt = 1 := ti_1; have h9 := hc_91; rw [z9] at h9; omega)).trans ((if_neg (fun z9 => by have k9 : ((-1) : Int32).toInt = (-1) := ti_m1; have h9 := hc_91; rw [z9] at h9; omega)).trans ((if_neg (Int.not_lt.mpr c_131)).trans (spl_e ev_132 (spl_e u_138 ((if_pos rfl).trans (spl_e ev_140 (spl_e ew_142 (spl_e u_148 ((if_pos rfl).trans ((if_pos c_152).trans rfl)))))))))))) ⟨by omega, by omega⟩ ⟨by omega, by omega⟩ ⟨by omega, by omega⟩ hI hF hP hS (lv_sub hl [0, 1, 2, 3] rfl)
            · skip
              have c_153 : x2.toInt ≠ (-1) := (by first | exact (cm_ne1 ti_m1 c) | (have z := bn_ne c; have k1 : ((-1) : Int32).toInt = (-1) := ti_m1; omega))
              refine lv_aload_n hx hb dX12_chairs_43 rfl (lv_at hl 0 rfl) ?_
              refine lv_iload_n hx hb dX12_chairs_44 rfl (lv_at hl 3 rfl) ?_
              obtain ⟨w_154, ew_154⟩ : ∃ z : Int64, z = Int32.toInt64 x2 := ⟨_, rfl⟩
              have q_155 : w_154.toInt = x2.toInt := by rw [ew_154]; exact Int32.toInt_toInt64 _
              refine lv_i2l (v := w_154) hx hb dX12_chairs_45 ew_154.symm ?_
              obtain ⟨v_156, ev_156⟩ : ∃ z : Int32, z = f 0 6 := ⟨_, rfl⟩
              have q_157 : 0 ≤ v_156.toInt ∧ v_156.toInt ≤ 8 := by rw [ev_156]; exact hI 0 6
              have q_158 : (f 0 6).toInt = v_156.toInt := (congrArg Int32.toInt (show f 0 6 = v_156 from ev_156.symm))
              refine sg_calli (va_runV (As := [.long w_154]) (rest := []) ⟨hx, hb, hml, hown, hts⟩ (kX12_isSitter l D ca za h hh f L Q hI w_154 H.size) (sl_c12_isSitter_1_0_0_25_12 hts ⟨Nat.le_of_ble_eq_true rfl, Nat.le_of_ble_eq_true rfl⟩) (sl_vM_0 hA hK hP hS hZ) rfl rfl hl.1 rfl (lv_room (Nat.le_of_ble_eq_true rfl)) dX12_chairs_46 ⟨Nat.le_refl _, Nat.le_refl _⟩) hA hS (fun r_163 f_160 L_161 Q_162 H locs hq hP hS => ?_)
              obtain ⟨⟨ef9, eL9, eQ9⟩, hq, u_164⟩ := hq
              rw [ef9, eL9, eQ9] at hP; clear ef9 eL9 eQ9
              rcases hq with ⟨rfl, hq⟩ | ⟨rfl, hq⟩
              · skip
                have hc_165 := hq
                refine lv_if_ne (tgt := 54) hx hb dX12_chairs_49 (by decide) (fun c => ?_) (fun c => absurd c (by decide))
                exact blk_54 f _ _ _ (hs.trans ((if_neg (fun z9 => by have k9 : (1 : Int32).toInt = 1 := ti_1; have h9 := hc_91; rw [z9] at h9; omega)).trans ((if_neg (fun z9 => by have k9 : ((-1) : Int32).toInt = (-1) := ti_m1; have h9 := hc_91; rw [z9] at h9; omega)).trans ((if_neg (Int.not_lt.mpr c_131)).trans (spl_e ev_132 (spl_e u_138 ((if_pos rfl).trans (spl_e ev_140 (spl_e ew_142 (spl_e u_148 ((if_pos rfl).trans ((if_neg c_153).trans (spl_e ew_154 (spl_e ev_156 (spl_e u_164 ((if_pos rfl).trans rfl)))))))))))))))) ⟨by omega, by omega⟩ ⟨by omega, by omega⟩ ⟨by omega, by omega⟩ hI hF hP hS (lv_sub hl [0, 1, 2, 3] rfl)
              · skip
                have hc_165 := hq
                refine lv_if_ne (tgt := 54) hx hb dX12_chairs_49 (by decide) (fun c => absurd c (by decide)) (fun c => ?_)
                refine lv_iconst (v := (-1)) hx hb dX12_chairs_52 ic_m1 ?_
                have k99 : ((-1) : Int32).toInt = (-1) := ti_m1
                exact hret _ _ _ _ (-1) f L Q dX12_chairs_53 hP hS ⟨⟨hI, hF, rfl, rfl⟩, trivial, (Eq.trans (Eq.symm (hs.trans ((if_neg (fun z9 => by have k9 : (1 : Int32).toInt = 1 := ti_1; have h9 := hc_91; rw [z9] at h9; omega)).trans ((if_neg (fun z9 => by have k9 : ((-1) : Int32).toInt = (-1) := ti_m1; have h9 := hc_91; rw [z9] at h9; omega)).trans ((if_neg (Int.not_lt.mpr c_131)).trans (spl_e ev_132 (spl_e u_138 ((if_pos rfl).trans (spl_e ev_140 (spl_e ew_142 (spl_e u_148 ((if_pos rfl).trans ((if_neg c_153).trans (spl_e ew_154 (spl_e ev_156 (spl_e u_164 ((if_neg (by decide)).trans rfl))))))))))))))))) hsp)⟩
          · skip
            have hc_151 := hq
            refine lv_if_eq (tgt := 52) hx hb dX12_chairs_35 (by decide) (fun c => ?_) (fun c => absurd c (by decide))
            refine lv_iconst (v := (-1)) hx hb dX12_chairs_52 ic_m1 ?_
            have k99 : ((-1) : Int32).toInt = (-1) := ti_m1
            exact hret _ _ _ _ (-1) f L Q dX12_chairs_53 hP hS ⟨⟨hI, hF, rfl, rfl⟩, trivial, (Eq.trans (Eq.symm (hs.trans ((if_neg (fun z9 => by have k9 : (1 : Int32).toInt = 1 := ti_1; have h9 := hc_91; rw [z9] at h9; omega)).trans ((if_neg (fun z9 => by have k9 : ((-1) : Int32).toInt = (-1) := ti_m1; have h9 := hc_91; rw [z9] at h9; omega)).trans ((if_neg (Int.not_lt.mpr c_131)).trans (spl_e ev_132 (spl_e u_138 ((if_pos rfl).trans (spl_e ev_140 (spl_e ew_142 (spl_e u_148 ((if_neg (by decide)).trans rfl)))))))))))) hsp)⟩
        · skip
          have hc_139 := hq
          refine lv_if_eq (tgt := 52) hx hb dX12_chairs_20 (by decide) (fun c => ?_) (fun c => absurd c (by decide))
          refine lv_iconst (v := (-1)) hx hb dX12_chairs_52 ic_m1 ?_
          have k99 : ((-1) : Int32).toInt = (-1) := ti_m1
          exact hret _ _ _ _ (-1) f L Q dX12_chairs_53 hP hS ⟨⟨hI, hF, rfl, rfl⟩, trivial, (Eq.trans (Eq.symm (hs.trans ((if_neg (fun z9 => by have k9 : (1 : Int32).toInt = 1 := ti_1; have h9 := hc_91; rw [z9] at h9; omega)).trans ((if_neg (fun z9 => by have k9 : ((-1) : Int32).toInt = (-1) := ti_m1; have h9 := hc_91; rw [z9] at h9; omega)).trans ((if_neg (Int.not_lt.mpr c_131)).trans (spl_e ev_132 (spl_e u_138 ((if_neg (by decide)).trans rfl)))))))) hsp)⟩
  · skip
    have hc_91 := hq
    refine lv_iconst (v := (-1)) hx hb dX12_chairs_5 ic_m1 ?_
    refine lv_icmp_eq (tgt := 52) hx hb dX12_chairs_6 (by decide) (fun c => ?_) (fun c => absurd c (by decide))
    refine lv_iconst (v := (-1)) hx hb dX12_chairs_52 ic_m1 ?_
    have k99 : ((-1) : Int32).toInt = (-1) := ti_m1
    exact hret _ _ _ _ (-1) f L Q dX12_chairs_53 hP hS ⟨⟨hI, hF, rfl, rfl⟩, trivial, (Eq.trans (Eq.symm (hs.trans ((if_neg (by decide)).trans ((if_pos rfl).trans rfl)))) hsp)⟩

set_option maxHeartbeats 4000000 in
set_option maxRecDepth 100000 in
theorem kX12_may1 (l : Launch) (D : va_G) (ca : Nat → ClassId) (za h : Nat → Nat) (hh : sgH 26 h) (f : sg_F) (L : sg_L) (Q : sg_Q) (hI : sgI loM hiM f) (x0 : Int32) (b0 : 0 ≤ x0.toInt ∧ x0.toInt ≤ 8) (sz : Nat) : Met l yX12_may1 gwX12_may1 { frames := 0, cells := 0, slots := 0, locals := 0 } (sgP D vwCl (tyX ca) 26 h (eM ca h) zcM za f L Q sz [.ref (h 0), .int x0]) (sgQi D vwCl 26 h (eM ca h) sz (fun r f1 L1 Q1 => ((f1 = f ∧ L1 = L ∧ Q1 = Q) ∧ (0 ≤ r.toInt ∧ r.toInt ≤ 1) ∧ (r) = sX12_may1 x0 f L))) 0 0 (sgA 26 h sz) := by
  refine sg_ofWz (cc := cX12_may1) (maxL := 2) RX12 (by decide) rfl rfl (Nat.le_of_ble_eq_true rfl) ?_
  intro p e s m below meth cd Qz ls hx hb hml hown hts hK hZ hP hS hl hret
  have hA := sgY.self (n := 26) (h := h) (sz := s.heap.size)
  have hl : lv_has ls 2 [(0, .ref (h 0)), (1, .int x0)] := hl
  obtain ⟨H, hH⟩ : ∃ z : Heap, z = s.heap := ⟨_, rfl⟩
  obtain ⟨locs, hlo⟩ : ∃ z : List Loc, z = [] := ⟨_, rfl⟩
  have hP : va_P D vwCl (sgw 26 h (eM ca h) f L Q) H := by rw [hH]; exact hP
  have hS : va_S (sgA 26 h s.heap.size) s.heap H locs := by rw [hH, hlo]; exact hS
  suffices hgo : W p l e ({ frames := 0, cells := 0, slots := 0, locals := 0 }) s m ([.ref (h 0), .int x0] : List Value).toArray below meth cd H locs 0 0 Qz (F0 m 0 ls []) by rw [hH, hlo] at hgo; exact hgo
  clear hH hlo
  obtain ⟨sp, hsp⟩ : ∃ z : Int32, z = sX12_may1 x0 f L := ⟨_, rfl⟩
  have hs : sp = sX12_may1 x0 f L := hsp
  refine lv_iload_n hx hb dX12_may1_0 rfl (lv_at hl 1 rfl) ?_
  refine lv_aload_n hx hb dX12_may1_1 rfl (lv_at hl 0 rfl) ?_
  refine sl_gM_0_6_12 (v := (f 0 6)) hx hb hts hown hK hP rfl dX12_may1_2 ?_
  refine lv_topi (fun v_1 ev_1 => ?_)
  replace hs := hs.trans (spl_e ev_1 rfl)
  have q_2 : 0 ≤ v_1.toInt ∧ v_1.toInt ≤ 8 := by rw [ev_1]; exact hI 0 6
  refine lv_icmp_lt (tgt := 14) hx hb dX12_may1_5 (by decide) (fun c => ?_) (fun c => ?_)
  · skip
    have c_3 : x0.toInt < v_1.toInt := (by first | exact (bn_lt c) | (have z := bn_lt c; omega))
    refine lv_iconst (v := 1) hx hb dX12_may1_14 ic_1 ?_
    refine lv_goto (tgt := 19) hx hb dX12_may1_15 (by decide) ?_
    have k99 : (1 : Int32).toInt = 1 := ti_1
    exact hret _ _ _ _ (1) f L Q dX12_may1_19 (by decide) hP hS ⟨⟨rfl, rfl, rfl⟩, (by decide), (Eq.trans (Eq.symm (hs.trans ((if_pos c_3).trans rfl))) hsp)⟩
  · skip
    have c_4 : v_1.toInt ≤ x0.toInt := (by first | exact (bn_nlt c) | (have z := bn_nlt c; omega))
    replace hs := hs.trans ((if_neg (Int.not_lt.mpr c_4)).trans rfl)
    refine lv_iload_n hx hb dX12_may1_8 rfl (lv_at hl 1 rfl) ?_
    refine lv_bipush (v := 8) hx hb dX12_may1_9 bp_8 ?_
    refine lv_icmp_ne (tgt := 18) hx hb dX12_may1_11 (by decide) (fun c => ?_) (fun c => ?_)
    · skip
      have c_5 : x0.toInt ≠ 8 := (by first | exact (cm_ne1 ti_8 c) | (have z := bn_ne c; have k1 : (8 : Int32).toInt = 8 := ti_8; omega))
      refine lv_iconst (v := 0) hx hb dX12_may1_18 ic_0 ?_
      have k99 : (0 : Int32).toInt = 0 := ti_0
      exact hret _ _ _ _ (0) f L Q dX12_may1_19 (by decide) hP hS ⟨⟨rfl, rfl, rfl⟩, (by decide), (Eq.trans (Eq.symm (hs.trans ((if_neg c_5).trans rfl))) hsp)⟩
    · skip
      have c_6 : x0.toInt = 8 := (by first | exact (cm_eq1 ti_8 c) | (have z := Int32.toInt_inj.mpr c; have k1 : (8 : Int32).toInt = 8 := ti_8; omega))
      refine lv_iconst (v := 1) hx hb dX12_may1_14 ic_1 ?_
      refine lv_goto (tgt := 19) hx hb dX12_may1_15 (by decide) ?_
      have k99 : (1 : Int32).toInt = 1 := ti_1
      exact hret _ _ _ _ (1) f L Q dX12_may1_19 (by decide) hP hS ⟨⟨rfl, rfl, rfl⟩, (by decide), (Eq.trans (Eq.symm (hs.trans ((if_pos c_6).trans rfl))) hsp)⟩

set_option maxHeartbeats 4000000 in
set_option maxRecDepth 100000 in
theorem kX12_standsBy (l : Launch) (D : va_G) (ca : Nat → ClassId) (za h : Nat → Nat) (hh : sgH 26 h) (f : sg_F) (L : sg_L) (Q : sg_Q) (hI : sgI loM hiM f) (x0 : Int32) (x1 : Int32) (x2 : Int32) (b0 : 0 ≤ x0.toInt ∧ x0.toInt ≤ 2) (b1 : 0 ≤ x1.toInt ∧ x1.toInt ≤ 60) (b2 : 0 ≤ x2.toInt ∧ x2.toInt ≤ 8) (sz : Nat) : Met l yX12_standsBy gwX12_standsBy { frames := 1, cells := 0, slots := 0, locals := 23 } (sgP D vwCl (tyX ca) 26 h (eM ca h) zcM za f L Q sz [.ref (h 0), .int x0, .int x1, .int x2]) (sgQi D vwCl 26 h (eM ca h) sz (fun r f1 L1 Q1 => ((f1 = f ∧ L1 = L ∧ Q1 = Q) ∧ (0 ≤ r.toInt ∧ r.toInt ≤ 60) ∧ (r) = sX12_standsBy x0 x1 x2 f L))) 0 0 (sgA 26 h sz) := by
  refine sg_ofWi (cc := cX12_standsBy) (maxL := 5) RX12 (by decide) rfl rfl (Nat.le_of_ble_eq_true rfl) ?_
  intro p e s m below meth cd Qz ls hx hb hml hown hts hK hZ hP hS hl hret
  have hA := sgY.self (n := 26) (h := h) (sz := s.heap.size)
  have hl : lv_has ls 5 [(0, .ref (h 0)), (1, .int x0), (2, .int x1), (3, .int x2)] := hl
  obtain ⟨H, hH⟩ : ∃ z : Heap, z = s.heap := ⟨_, rfl⟩
  obtain ⟨locs, hlo⟩ : ∃ z : List Loc, z = [] := ⟨_, rfl⟩
  have hP : va_P D vwCl (sgw 26 h (eM ca h) f L Q) H := by rw [hH]; exact hP
  have hS : va_S (sgA 26 h s.heap.size) s.heap H locs := by rw [hH, hlo]; exact hS
  suffices hgo : W p l e ({ frames := 1, cells := 0, slots := 0, locals := 23 }) s m ([.ref (h 0), .int x0, .int x1, .int x2] : List Value).toArray below meth cd H locs 0 0 Qz (F0 m 0 ls []) by rw [hH, hlo] at hgo; exact hgo
  clear hH hlo
  obtain ⟨sp, hsp⟩ : ∃ z : Int32, z = sX12_standsBy x0 x1 x2 f L := ⟨_, rfl⟩
  have hs : sp = sX12_standsBy x0 x1 x2 f L := hsp
  have blk_31 : ∀  (H : Heap) (locs : List Loc) (ls : Array Slot), sp = sX12_standsBy_b31 x0 x1 x2 f L → va_P D vwCl (sgw 26 h (eM ca h) f L Q) H → va_S (sgA 26 h s.heap.size) s.heap H locs → lv_has ls 5 [(0, .ref (h 0)), (1, .int x0), (2, .int x1), (3, .int x2)] → W p l e ({ frames := 1, cells := 0, slots := 0, locals := 23 }) s m ([.ref (h 0), .int x0, .int x1, .int x2] : List Value).toArray below meth cd H locs 0 0 Qz (F0 m 31 ls []) := by
    intro H locs ls hs hP hS hl
    refine lv_iconst (v := 0) hx hb dX12_standsBy_31 ic_0 ?_
    refine lv_istore (lv' := [(4, .int 0), (0, .ref (h 0)), (1, .int x0), (2, .int x1), (3, .int x2)]) hx hb dX12_standsBy_32 hl (by decide) rfl (fun ls hl => ?_)
    refine lv_aload_n hx hb dX12_standsBy_34 rfl (lv_at hl 1 rfl) ?_
    refine lv_iload_n hx hb dX12_standsBy_35 rfl (lv_at hl 2 rfl) ?_
    refine lv_iload hx hb dX12_standsBy_36 (lv_at hl 0 rfl) ?_
    refine lv_if_eq (tgt := 50) hx hb dX12_standsBy_38 (by decide) (fun c => ?_) (fun c => absurd c (by decide))
    refine lv_iload_n hx hb dX12_standsBy_50 rfl (lv_at hl 3 rfl) ?_
    refine sg_calli (va_runV (As := [.int x0, .int x1]) (rest := []) ⟨hx, hb, hml, hown, hts⟩ (kX12_slipped l D ca za h hh f L Q hI x0 x1 b0 ⟨by omega, by omega⟩ H.size) (sl_c12_slipped_0_0_0_0_12 hts ⟨Nat.le_of_ble_eq_true rfl, Nat.le_of_ble_eq_true rfl⟩) (sl_vM_0 hA hK hP hS hZ) rfl rfl hl.1 rfl (lv_room (Nat.le_of_ble_eq_true rfl)) dX12_standsBy_51 ⟨Nat.le_refl _, Nat.le_refl _⟩) hA hS (fun r_4 f_1 L_2 Q_3 H locs hq hP hS => ?_)
    obtain ⟨⟨ef9, eL9, eQ9⟩, hq, u_5⟩ := hq
    rw [ef9, eL9, eQ9] at hP; clear ef9 eL9 eQ9
    exact hret _ _ _ _ (r_4) f L Q dX12_standsBy_54 hP hS ⟨⟨rfl, rfl, rfl⟩, ⟨by omega, by omega⟩, (Eq.trans (Eq.symm (hs.trans ((spl_e u_5 rfl)))) hsp)⟩
  refine lv_iload_n hx hb dX12_standsBy_0 rfl (lv_at hl 3 rfl) ?_
  refine lv_bipush (v := 8) hx hb dX12_standsBy_1 bp_8 ?_
  refine lv_icmp_ge (tgt := 31) hx hb dX12_standsBy_3 (by decide) (fun c => ?_) (fun c => ?_)
  · skip
    have c_6 : 8 ≤ x2.toInt := (by first | exact (cm_le0 ti_8 c) | (have z := bn_le c; have k1 : (8 : Int32).toInt = 8 := ti_8; omega))
    exact blk_31  _ _ _ (hs.trans (((if_neg (Int.not_lt.mpr c_6)).trans rfl))) hP hS (lv_sub hl [0, 1, 2, 3] rfl)
  · skip
    have c_7 : x2.toInt < 8 := (by first | exact (cm_nle0 ti_8 c) | (have z := bn_nle c; have k1 : (8 : Int32).toInt = 8 := ti_8; omega))
    refine lv_aload_n hx hb dX12_standsBy_6 rfl (lv_at hl 0 rfl) ?_
    refine lv_iload_n hx hb dX12_standsBy_7 rfl (lv_at hl 3 rfl) ?_
    refine lv_iload_n hx hb dX12_standsBy_8 rfl (lv_at hl 1 rfl) ?_
    refine sg_calli (va_runV (As := [.int x2, .int x0]) (rest := []) ⟨hx, hb, hml, hown, hts⟩ (kX12_numberOf l D ca za h hh f L Q hI x2 x0 ⟨by omega, by omega⟩ ⟨by omega, by omega⟩ H.size) (sl_c12_numberOf_0_0_0_0_12 hts ⟨Nat.le_of_ble_eq_true rfl, Nat.le_of_ble_eq_true rfl⟩) (sl_vM_0 hA hK hP hS hZ) rfl rfl hl.1 rfl (lv_room (Nat.le_of_ble_eq_true rfl)) dX12_standsBy_9 ⟨Nat.le_refl _, Nat.le_refl _⟩) hA hS (fun r_11 f_8 L_9 Q_10 H locs hq hP hS => ?_)
    obtain ⟨⟨ef9, eL9, eQ9⟩, hq, u_12⟩ := hq
    rw [ef9, eL9, eQ9] at hP; clear ef9 eL9 eQ9
    refine lv_iload_n hx hb dX12_standsBy_12 rfl (lv_at hl 2 rfl) ?_
    refine lv_isub hx hb dX12_standsBy_13 ?_
    refine lv_topi (fun v_13 ev_13 => ?_)
    have q_14 : v_13.toInt = r_11.toInt - x1.toInt := by rw [ev_13]; first | exact bn_subI (by omega) (by omega) | exact (bn_subI (by omega) (by omega)).trans (by omega)
    refine sg_calli (va_runS (As := [.int v_13]) (rest := []) ⟨hx, hb, hml, hown, hts⟩ (kX12_sizeOf l D ca za h hh f L Q hI v_13 ⟨by omega, by omega⟩ H.size) (va_cwS 1 hts (gw_S (fun _ h => List.mem_cons_of_mem _ h) mw_682 mw_683 mw_619 mw_681) rfl rfl rfl hd_yX12_sizeOf.2 ⟨Nat.le_of_ble_eq_true rfl, Nat.le_of_ble_eq_true rfl⟩) (sg_preS hA hK hP hS hZ) rfl rfl hl.1 rfl (lv_room (Nat.le_of_ble_eq_true rfl)) dX12_standsBy_14 ⟨Nat.le_refl _, Nat.le_refl _⟩) hA hS (fun r_18 f_15 L_16 Q_17 H locs hq hP hS => ?_)
    obtain ⟨⟨ef9, eL9, eQ9⟩, hq, u_19⟩ := hq
    rw [ef9, eL9, eQ9] at hP; clear ef9 eL9 eQ9
    refine lv_aload_n hx hb dX12_standsBy_17 rfl (lv_at hl 0 rfl) ?_
    refine lv_iload_n hx hb dX12_standsBy_18 rfl (lv_at hl 3 rfl) ?_
    refine lv_bipush (v := 6) hx hb dX12_standsBy_19 bp_6 ?_
    refine sg_calli (va_runV (As := [.int x2, .int 6]) (rest := [.int r_18]) ⟨hx, hb, hml, hown, hts⟩ (kX12_numberOf l D ca za h hh f L Q hI x2 6 ⟨by omega, by omega⟩ (by decide) H.size) (sl_c12_numberOf_0_0_0_0_12 hts ⟨Nat.le_of_ble_eq_true rfl, Nat.le_of_ble_eq_true rfl⟩) (sl_vM_0 hA hK hP hS hZ) rfl rfl hl.1 rfl (lv_room (Nat.le_of_ble_eq_true rfl)) dX12_standsBy_21 ⟨Nat.le_refl _, Nat.le_refl _⟩) hA hS (fun r_23 f_20 L_21 Q_22 H locs hq hP hS => ?_)
    obtain ⟨⟨ef9, eL9, eQ9⟩, hq, u_24⟩ := hq
    replace hs := hs.trans ((if_pos c_7).trans (spl_e u_12 (spl_e ev_13 (spl_e u_19 (spl_e u_24 rfl)))))
    rw [ef9, eL9, eQ9] at hP; clear ef9 eL9 eQ9
    refine lv_icmp_le (tgt := 31) hx hb dX12_standsBy_24 (by decide) (fun c => ?_) (fun c => ?_)
    · skip
      have c_25 : r_18.toInt ≤ r_23.toInt := (by first | exact (bn_le c) | (have z := bn_le c; omega))
      exact blk_31  _ _ _ (hs.trans ((if_neg (Int.not_lt.mpr c_25)).trans rfl)) hP hS (lv_sub hl [0, 1, 2, 3] rfl)
    · skip
      have c_26 : r_23.toInt < r_18.toInt := (by first | exact (bn_nle c) | (have z := bn_nle c; omega))
      refine lv_iconst (v := 1) hx hb dX12_standsBy_27 ic_1 ?_
      refine lv_goto (tgt := 32) hx hb dX12_standsBy_28 (by decide) ?_
      refine lv_istore (lv' := [(4, .int 1), (0, .ref (h 0)), (1, .int x0), (2, .int x1), (3, .int x2)]) hx hb dX12_standsBy_32 hl (by decide) rfl (fun ls hl => ?_)
      refine lv_aload_n hx hb dX12_standsBy_34 rfl (lv_at hl 1 rfl) ?_
      refine lv_iload_n hx hb dX12_standsBy_35 rfl (lv_at hl 2 rfl) ?_
      refine lv_iload hx hb dX12_standsBy_36 (lv_at hl 0 rfl) ?_
      refine lv_if_eq (tgt := 50) hx hb dX12_standsBy_38 (by decide) (fun c => absurd c (by decide)) (fun c => ?_)
      refine lv_aload_n hx hb dX12_standsBy_41 rfl (lv_at hl 1 rfl) ?_
      refine lv_iload_n hx hb dX12_standsBy_42 rfl (lv_at hl 4 rfl) ?_
      refine lv_iload_n hx hb dX12_standsBy_43 rfl (lv_at hl 2 rfl) ?_
      refine sg_calli (va_runV (As := [.int x2, .int x0]) (rest := [.int x0, .ref (h 0)]) ⟨hx, hb, hml, hown, hts⟩ (kX12_numberOf l D ca za h hh f L Q hI x2 x0 ⟨by omega, by omega⟩ ⟨by omega, by omega⟩ H.size) (sl_c12_numberOf_0_0_0_0_12 hts ⟨Nat.le_of_ble_eq_true rfl, Nat.le_of_ble_eq_true rfl⟩) (sl_vM_0 hA hK hP hS hZ) rfl rfl hl.1 rfl (lv_room (Nat.le_of_ble_eq_true rfl)) dX12_standsBy_44 ⟨Nat.le_refl _, Nat.le_refl _⟩) hA hS (fun r_30 f_27 L_28 Q_29 H locs hq hP hS => ?_)
      obtain ⟨⟨ef9, eL9, eQ9⟩, hq, u_31⟩ := hq
      rw [ef9, eL9, eQ9] at hP; clear ef9 eL9 eQ9
      rw [show r_30 = r_11 from u_31.trans u_12.symm]
      refine lv_goto (tgt := 51) hx hb dX12_standsBy_47 (by decide) ?_
      refine sg_calli (va_runV (As := [.int x0, .int r_11]) (rest := []) ⟨hx, hb, hml, hown, hts⟩ (kX12_slipped l D ca za h hh f L Q hI x0 r_11 b0 ⟨by omega, by omega⟩ H.size) (sl_c12_slipped_0_0_0_0_12 hts ⟨Nat.le_of_ble_eq_true rfl, Nat.le_of_ble_eq_true rfl⟩) (sl_vM_0 hA hK hP hS hZ) rfl rfl hl.1 rfl (lv_room (Nat.le_of_ble_eq_true rfl)) dX12_standsBy_51 ⟨Nat.le_refl _, Nat.le_refl _⟩) hA hS (fun r_35 f_32 L_33 Q_34 H locs hq hP hS => ?_)
      obtain ⟨⟨ef9, eL9, eQ9⟩, hq, u_36⟩ := hq
      rw [ef9, eL9, eQ9] at hP; clear ef9 eL9 eQ9
      exact hret _ _ _ _ (r_35) f L Q dX12_standsBy_54 hP hS ⟨⟨rfl, rfl, rfl⟩, ⟨by omega, by omega⟩, (Eq.trans (Eq.symm (hs.trans ((if_pos c_26).trans (spl_e u_36 rfl)))) hsp)⟩

set_option maxHeartbeats 4000000 in
set_option maxRecDepth 100000 in
theorem kX12_isSeen (l : Launch) (D : va_G) (ca : Nat → ClassId) (za h : Nat → Nat) (hh : sgH 26 h) (f : sg_F) (L : sg_L) (Q : sg_Q) (hI : sgI loM hiM f) (x0 : Int32) (x1 : Int32) (x2 : Int32) (b0 : 0 ≤ x0.toInt ∧ x0.toInt ≤ 5) (b1 : 0 ≤ x1.toInt ∧ x1.toInt ≤ 20) (b2 : 0 ≤ x2.toInt ∧ x2.toInt ≤ 60) (sz : Nat) : Met l yX12_isSeen gwX12_isSeen { frames := 0, cells := 0, slots := 0, locals := 0 } (sgP D vwCl (tyX ca) 26 h (eM ca h) zcM za f L Q sz [.ref (h 0), .int x0, .int x1, .int x2]) (sgQi D vwCl 26 h (eM ca h) sz (fun r f1 L1 Q1 => ((f1 = f ∧ L1 = L ∧ Q1 = Q) ∧ (0 ≤ r.toInt ∧ r.toInt ≤ 1) ∧ (r) = sX12_isSeen x0 x1 x2 f L))) 0 0 (sgA 26 h sz) := by
  refine sg_ofWz (cc := cX12_isSeen) (maxL := 6) RX12 (by decide) rfl rfl (Nat.le_of_ble_eq_true rfl) ?_
  intro p e s m below meth cd Qz ls hx hb hml hown hts hK hZ hP hS hl hret
  have hA := sgY.self (n := 26) (h := h) (sz := s.heap.size)
  have hl : lv_has ls 6 [(0, .ref (h 0)), (1, .int x0), (2, .int x1), (3, .int x2)] := hl
  obtain ⟨H, hH⟩ : ∃ z : Heap, z = s.heap := ⟨_, rfl⟩
  obtain ⟨locs, hlo⟩ : ∃ z : List Loc, z = [] := ⟨_, rfl⟩
  have hP : va_P D vwCl (sgw 26 h (eM ca h) f L Q) H := by rw [hH]; exact hP
  have hS : va_S (sgA 26 h s.heap.size) s.heap H locs := by rw [hH, hlo]; exact hS
  suffices hgo : W p l e ({ frames := 0, cells := 0, slots := 0, locals := 0 }) s m ([.ref (h 0), .int x0, .int x1, .int x2] : List Value).toArray below meth cd H locs 0 0 Qz (F0 m 0 ls []) by rw [hH, hlo] at hgo; exact hgo
  clear hH hlo
  obtain ⟨sp, hsp⟩ : ∃ z : Int32, z = sX12_isSeen x0 x1 x2 f L := ⟨_, rfl⟩
  have hs : sp = sX12_isSeen x0 x1 x2 f L := hsp
  refine lv_aload_n hx hb dX12_isSeen_0 rfl (lv_at hl 0 rfl) ?_
  refine sl_gM_0_53_12 hx hb hts hown hK hP dX12_isSeen_1 ?_
  refine lv_bipush (v := 60) hx hb dX12_isSeen_4 bp_60 ?_
  refine lv_iload_n hx hb dX12_isSeen_6 rfl (lv_at hl 1 rfl) ?_
  refine lv_imul hx hb dX12_isSeen_7 ?_
  refine lv_topi (fun v_1 ev_1 => ?_)
  have q_2 : v_1.toInt = 60 * x0.toInt := by rw [ev_1]; exact bn_mulJ (by decide) (by omega) (by omega)
  refine lv_iload_n hx hb dX12_isSeen_8 rfl (lv_at hl 2 rfl) ?_
  refine lv_iadd hx hb dX12_isSeen_9 ?_
  refine lv_topi (fun v_3 ev_3 => ?_)
  have q_4 : v_3.toInt = v_1.toInt + x1.toInt := by rw [ev_3]; first | exact bn_addI (by omega) (by omega) | exact (bn_addI (by omega) (by omega)).trans (by omega)
  refine sg_lald hx hb hK hP 24 (by decide) 1 rfl rfl (i := v_3) (vp_in_iff.mpr ⟨by omega, by omega⟩) dX12_isSeen_10 ?_
  obtain ⟨w_5, ew_5⟩ : ∃ z : Int64, z = L 24 (Int32.toNatClampNeg v_3) := ⟨_, rfl⟩
  rw [← ew_5]
  refine lv_lstore (lv' := [(4, .long w_5), (0, .ref (h 0)), (1, .int x0), (2, .int x1), (3, .int x2)]) hx hb dX12_isSeen_11 hl (by decide) rfl (fun ls hl => ?_)
  refine lv_lload hx hb dX12_isSeen_13 (lv_at hl 0 rfl) ?_
  refine lv_ldc2 (v := (-1)) hx hb hown (hts _ (List.mem_cons_of_mem _ mw_782)) dX12_isSeen_15 ?_
  refine W.lcmp hx hb dX12_isSeen_18 ?_
  refine lv_topi (fun v_6 ev_6 => ?_)
  replace hs := hs.trans (spl_e ev_1 (spl_e ev_3 (spl_e ew_5 (spl_e ev_6 rfl))))
  have q_7 : (v_6.toInt = -1 ∧ w_5.toInt < (-1)) ∨ (v_6.toInt = 0 ∧ w_5.toInt = (-1)) ∨ (v_6.toInt = 1 ∧ (-1) < w_5.toInt) := by rw [ev_6]; have k1 : ((-1) : Int64).toInt = (-1) := (by decide); have z := bn_lcmpI (w_5 : Int64) ((-1) : Int64); omega
  refine lv_if_eq (tgt := 30) hx hb dX12_isSeen_19 (by decide) (fun c => ?_) (fun c => ?_)
  · skip
    have c_8 : v_6.toInt = 0 := (by first | exact (cm_eq1 ti_0 c) | (have z := Int32.toInt_inj.mpr c; have k1 : (0 : Int32).toInt = 0 := ti_0; omega))
    refine lv_iconst (v := 1) hx hb dX12_isSeen_30 ic_1 ?_
    refine lv_goto (tgt := 35) hx hb dX12_isSeen_31 (by decide) ?_
    have k99 : (1 : Int32).toInt = 1 := ti_1
    exact hret _ _ _ _ (1) f L Q dX12_isSeen_35 (by decide) hP hS ⟨⟨rfl, rfl, rfl⟩, (by decide), (Eq.trans (Eq.symm (hs.trans ((if_pos c_8).trans rfl))) hsp)⟩
  · skip
    have c_9 : v_6.toInt ≠ 0 := (by first | exact (cm_ne1 ti_0 c) | (have z := bn_ne c; have k1 : (0 : Int32).toInt = 0 := ti_0; omega))
    refine lv_lload hx hb dX12_isSeen_22 (lv_at hl 0 rfl) ?_
    refine lv_iload_n hx hb dX12_isSeen_24 rfl (lv_at hl 4 rfl) ?_
    obtain ⟨w_10, ew_10⟩ : ∃ z : Int64, z = Int32.toInt64 x2 := ⟨_, rfl⟩
    have q_11 : w_10.toInt = x2.toInt := by rw [ew_10]; exact Int32.toInt_toInt64 _
    refine lv_i2l (v := w_10) hx hb dX12_isSeen_25 ew_10.symm ?_
    refine W.lcmp hx hb dX12_isSeen_26 ?_
    refine lv_topi (fun v_12 ev_12 => ?_)
    replace hs := hs.trans ((if_neg c_9).trans (spl_e ew_10 (spl_e ev_12 rfl)))
    have q_13 : (v_12.toInt = -1 ∧ w_5.toInt < w_10.toInt) ∨ (v_12.toInt = 0 ∧ w_5.toInt = w_10.toInt) ∨ (v_12.toInt = 1 ∧ w_10.toInt < w_5.toInt) := by rw [ev_12]; exact bn_lcmpI (w_5 : Int64) (w_10 : Int64)
    refine lv_if_ne (tgt := 34) hx hb dX12_isSeen_27 (by decide) (fun c => ?_) (fun c => ?_)
    · skip
      have c_14 : v_12.toInt ≠ 0 := (by first | exact (cm_ne1 ti_0 c) | (have z := bn_ne c; have k1 : (0 : Int32).toInt = 0 := ti_0; omega))
      refine lv_iconst (v := 0) hx hb dX12_isSeen_34 ic_0 ?_
      have k99 : (0 : Int32).toInt = 0 := ti_0
      exact hret _ _ _ _ (0) f L Q dX12_isSeen_35 (by decide) hP hS ⟨⟨rfl, rfl, rfl⟩, (by decide), (Eq.trans (Eq.symm (hs.trans ((if_neg c_14).trans rfl))) hsp)⟩
    · skip
      have c_15 : v_12.toInt = 0 := (by first | exact (cm_eq1 ti_0 c) | (have z := Int32.toInt_inj.mpr c; have k1 : (0 : Int32).toInt = 0 := ti_0; omega))
      refine lv_iconst (v := 1) hx hb dX12_isSeen_30 ic_1 ?_
      refine lv_goto (tgt := 35) hx hb dX12_isSeen_31 (by decide) ?_
      have k99 : (1 : Int32).toInt = 1 := ti_1
      exact hret _ _ _ _ (1) f L Q dX12_isSeen_35 (by decide) hP hS ⟨⟨rfl, rfl, rfl⟩, (by decide), (Eq.trans (Eq.symm (hs.trans ((if_pos c_15).trans rfl))) hsp)⟩

abbrev WkX12_who : List (Nat × Nat × Option Nat) := [(17, 17, none), (18, 18, none)]
set_option maxHeartbeats 4000000 in
set_option maxRecDepth 100000 in
theorem kX12_who (l : Launch) (D : va_G) (ca : Nat → ClassId) (za h : Nat → Nat) (hh : sgH 26 h) (f : sg_F) (L : sg_L) (Q : sg_Q) (hI : sgI loM hiM f) (x0 : Int32) (x1 : Int32) (x2 : Int32) (sz : Nat) : Met l yX12_who gwX12_who { frames := 3, cells := 0, slots := 0, locals := 66 } (sgP D vwCl (tyX ca) 26 h (eM ca h) zcM za f L Q sz [.ref (h 0), .int x0, .int x1, .int x2]) (sgQi D vwCl 26 h (eM ca h) sz (fun r f1 L1 Q1 => ((sgI loM hiM f1 ∧ sgK WkX12_who f f1 ∧ L1 = L ∧ Q1 = Q) ∧ True ∧ (r, f1) = sX12_who x0 x1 x2 f L))) 0 0 (sgA 26 h sz) := by
  refine sg_ofWi (cc := cX12_who) (maxL := 10) RX12 (by decide) rfl rfl (Nat.le_of_ble_eq_true rfl) ?_
  intro p e s m below meth cd Qz ls hx hb hml hown hts hK hZ hP hS hl hret
  have hA := sgY.self (n := 26) (h := h) (sz := s.heap.size)
  have hl : lv_has ls 10 [(0, .ref (h 0)), (1, .int x0), (2, .int x1), (3, .int x2)] := hl
  obtain ⟨H, hH⟩ : ∃ z : Heap, z = s.heap := ⟨_, rfl⟩
  obtain ⟨locs, hlo⟩ : ∃ z : List Loc, z = [] := ⟨_, rfl⟩
  have hP : va_P D vwCl (sgw 26 h (eM ca h) f L Q) H := by rw [hH]; exact hP
  have hS : va_S (sgA 26 h s.heap.size) s.heap H locs := by rw [hH, hlo]; exact hS
  suffices hgo : W p l e ({ frames := 3, cells := 0, slots := 0, locals := 66 }) s m ([.ref (h 0), .int x0, .int x1, .int x2] : List Value).toArray below meth cd H locs 0 0 Qz (F0 m 0 ls []) by rw [hH, hlo] at hgo; exact hgo
  clear hH hlo
  obtain ⟨sp, hsp⟩ : ∃ z : Int32 × sg_F, z = sX12_who x0 x1 x2 f L := ⟨_, rfl⟩
  have hs : sp = sX12_who x0 x1 x2 f L := hsp
  have hF : sgK WkX12_who f f := sgK.rf
  have loop_409 : ∀ (n_409 : Nat) (y5_409 : Int32) (y6_409 : Int32) (fp_409 : sg_F) (H : Heap) (locs : List Loc) (ls : Array Slot), sp = sX12_who_l409 x0 x1 x2 n_409 y5_409 y6_409 fp_409 L → 61 - y6_409.toInt < (n_409 : Int) → 0 ≤ x0.toInt ∧ x0.toInt ≤ 5 → 0 ≤ x1.toInt ∧ x1.toInt ≤ 2 → 0 ≤ x2.toInt ∧ x2.toInt ≤ 11 → 0 ≤ y6_409.toInt ∧ y6_409.toInt ≤ 61 → sgI loM hiM fp_409 → sgK WkX12_who f fp_409 → va_P D vwCl (sgw 26 h (eM ca h) fp_409 L Q) H → va_S (sgA 26 h s.heap.size) s.heap H locs → lv_has ls 10 [(0, .ref (h 0)), (1, .int x0), (2, .int x1), (3, .int x2), (5, .int y5_409), (6, .int y6_409)] → W p l e ({ frames := 3, cells := 0, slots := 0, locals := 66 }) s m ([.ref (h 0), .int x0, .int x1, .int x2] : List Value).toArray below meth cd H locs 0 0 Qz (F0 m 409 ls []) := by
    intro n_409
    induction n_409 with
    | zero => intro y5_409 y6_409 fp_409 H locs ls hs hm_409 hy0_409 hy1_409 hy2_409 hy3_409 hI hF hP hS hl; exact absurd hm_409 (by omega)
    | succ n_409 ih_409 =>
      have loop_419 : ∀ (n_419 : Nat) (y5_419 : Int32) (y6_419 : Int32) (y7_419 : Int32) (fp_419 : sg_F) (H : Heap) (locs : List Loc) (ls : Array Slot), sp = sX12_who_l419 (sX12_who_l409 x0 x1 x2 n_409) x0 x1 x2 n_419 y5_419 y6_419 y7_419 fp_419 L → 9 - y7_419.toInt < (n_419 : Int) → 61 - y6_419.toInt < ((n_409 + 1 : Nat) : Int) → 0 ≤ x0.toInt ∧ x0.toInt ≤ 5 → 0 ≤ x1.toInt ∧ x1.toInt ≤ 2 → 0 ≤ x2.toInt ∧ x2.toInt ≤ 11 → 0 ≤ y6_419.toInt ∧ y6_419.toInt ≤ 60 → 0 ≤ y7_419.toInt ∧ y7_419.toInt ≤ 9 → sgI loM hiM fp_419 → sgK WkX12_who f fp_419 → va_P D vwCl (sgw 26 h (eM ca h) fp_419 L Q) H → va_S (sgA 26 h s.heap.size) s.heap H locs → lv_has ls 10 [(0, .ref (h 0)), (1, .int x0), (2, .int x1), (3, .int x2), (5, .int y5_419), (6, .int y6_419), (7, .int y7_419)] → W p l e ({ frames := 3, cells := 0, slots := 0, locals := 66 }) s m ([.ref (h 0), .int x0, .int x1, .int x2] : List Value).toArray below meth cd H locs 0 0 Qz (F0 m 419 ls []) := by
        intro n_419
        induction n_419 with
        | zero => intro y5_419 y6_419 y7_419 fp_419 H locs ls hs hm_419 hm_409 hy0_419 hy1_419 hy2_419 hy3_419 hy4_419 hI hF hP hS hl; exact absurd hm_419 (by omega)
        | succ n_419 ih_419 =>
          have blk_506 : ∀ (y5_506 : Int32) (y6_506 : Int32) (y7_506 : Int32) (fp_506 : sg_F) (H : Heap) (locs : List Loc) (ls : Array Slot), sp = sX12_who_b506 (sX12_who_l409 x0 x1 x2 n_409) (sX12_who_l419 (sX12_who_l409 x0 x1 x2 n_409) x0 x1 x2 n_419) x0 x1 x2 y5_506 y6_506 y7_506 fp_506 L → 61 - y6_506.toInt < ((n_409 + 1 : Nat) : Int) → 9 - y7_506.toInt < ((n_419 + 1 : Nat) : Int) → 0 ≤ x0.toInt ∧ x0.toInt ≤ 5 → 0 ≤ x1.toInt ∧ x1.toInt ≤ 2 → 0 ≤ x2.toInt ∧ x2.toInt ≤ 11 → 0 ≤ y6_506.toInt ∧ y6_506.toInt ≤ 60 → 0 ≤ y7_506.toInt ∧ y7_506.toInt ≤ 8 → sgI loM hiM fp_506 → sgK WkX12_who f fp_506 → va_P D vwCl (sgw 26 h (eM ca h) fp_506 L Q) H → va_S (sgA 26 h s.heap.size) s.heap H locs → lv_has ls 10 [(0, .ref (h 0)), (1, .int x0), (2, .int x1), (3, .int x2), (5, .int y5_506), (6, .int y6_506), (7, .int y7_506)] → W p l e ({ frames := 3, cells := 0, slots := 0, locals := 66 }) s m ([.ref (h 0), .int x0, .int x1, .int x2] : List Value).toArray below meth cd H locs 0 0 Qz (F0 m 506 ls []) := by
            intro y5_506 y6_506 y7_506 fp_506 H locs ls hs hm_409 hm_419 hy0_506 hy1_506 hy2_506 hy3_506 hy4_506 hI hF hP hS hl
            refine lv_iconst (v := 0) hx hb dX12_who_506 ic_0 ?_
            refine lv_istore (lv' := [(9, .int 0), (0, .ref (h 0)), (1, .int x0), (2, .int x1), (3, .int x2), (5, .int y5_506), (6, .int y6_506), (7, .int y7_506)]) hx hb dX12_who_507 hl (by decide) rfl (fun ls hl => ?_)
            refine lv_iload hx hb dX12_who_509 (lv_at hl 5 rfl) ?_
            refine lv_iload hx hb dX12_who_511 (lv_at hl 0 rfl) ?_
            refine lv_if_eq (tgt := 523) hx hb dX12_who_513 (by decide) (fun c => ?_) (fun c => absurd c (by decide))
            refine lv_iconst (v := 0) hx hb dX12_who_523 ic_0 ?_
            refine lv_ior hx hb dX12_who_524 ?_
            refine lv_topi (fun v_1 ev_1 => ?_)
            refine lv_istore (lv' := [(5, .int v_1), (9, .int 0), (0, .ref (h 0)), (1, .int x0), (2, .int x1), (3, .int x2), (6, .int y6_506), (7, .int y7_506)]) hx hb dX12_who_525 hl (by decide) rfl (fun ls hl => ?_)
            obtain ⟨v_2, ev_2⟩ : ∃ z : Int32, z = y7_506 + 1 := ⟨_, rfl⟩
            have q_3 : v_2.toInt = y7_506.toInt + 1 := by rw [ev_2]; exact (bn_addc y7_506 1 (by decide) (by omega) (by omega))
            refine lv_iinc (v := v_2) (lv' := [(7, .int v_2), (5, .int v_1), (9, .int 0), (0, .ref (h 0)), (1, .int x0), (2, .int x1), (3, .int x2), (6, .int y6_506)]) hx hb dX12_who_527 hl (k := 7) rfl (by rw [ev_2]; rfl) (by decide) rfl (fun ls hl => ?_)
            refine lv_goto (tgt := 419) hx hb dX12_who_530 (by decide) ?_
            exact ih_419 v_1 y6_506 v_2 fp_506 _ _ _ (hs.trans ((spl_e ev_1 (spl_e ev_2 rfl)))) (by omega) hm_409 hy0_506 hy1_506 hy2_506 hy3_506 ⟨by omega, by omega⟩ hI hF hP hS (lv_sub hl [3, 4, 5, 6, 1, 7, 0] rfl)
          intro y5_419 y6_419 y7_419 fp_419 H locs ls hs hm_419 hm_409 hy0_419 hy1_419 hy2_419 hy3_419 hy4_419 hI hF hP hS hl
          have hs : sp = sX12_who_h419 (sX12_who_l409 x0 x1 x2 n_409) x0 x1 x2 (sX12_who_l419 (sX12_who_l409 x0 x1 x2 n_409) x0 x1 x2 n_419) y5_419 y6_419 y7_419 fp_419 L := hs
          refine lv_iload hx hb dX12_who_419 (lv_at hl 6 rfl) ?_
          refine lv_bipush (v := 8) hx hb dX12_who_421 bp_8 ?_
          refine lv_icmp_gt (tgt := 533) hx hb dX12_who_423 (by decide) (fun c => ?_) (fun c => ?_)
          · skip
            have c_4 : 8 < y7_419.toInt := (by first | exact (cm_lt0 ti_8 c) | (have z := bn_lt c; have k1 : (8 : Int32).toInt = 8 := ti_8; omega))
            obtain ⟨v_6, ev_6⟩ : ∃ z : Int32, z = y6_419 + 1 := ⟨_, rfl⟩
            have q_7 : v_6.toInt = y6_419.toInt + 1 := by rw [ev_6]; exact (bn_addc y6_419 1 (by decide) (by omega) (by omega))
            refine lv_iinc (v := v_6) (lv' := [(6, .int v_6), (0, .ref (h 0)), (1, .int x0), (2, .int x1), (3, .int x2), (5, .int y5_419), (7, .int y7_419)]) hx hb dX12_who_533 hl (k := 5) rfl (by rw [ev_6]; rfl) (by decide) rfl (fun ls hl => ?_)
            refine lv_goto (tgt := 409) hx hb dX12_who_536 (by decide) ?_
            exact ih_409 y5_419 v_6 fp_419 _ _ _ (hs.trans (((if_pos c_4).trans (spl_e ev_6 rfl)))) (by omega) hy0_419 hy1_419 hy2_419 ⟨by omega, by omega⟩ hI hF hP hS (lv_sub hl [1, 2, 3, 4, 5, 0] rfl)
          · skip
            have c_5 : y7_419.toInt ≤ 8 := (by first | exact (cm_nlt0 ti_8 c) | (have z := bn_nlt c; have k1 : (8 : Int32).toInt = 8 := ti_8; omega))
            refine lv_aload_n hx hb dX12_who_426 rfl (lv_at hl 0 rfl) ?_
            refine lv_iload hx hb dX12_who_427 (lv_at hl 6 rfl) ?_
            refine sg_calli (va_runV (As := [.int y7_419]) (rest := []) ⟨hx, hb, hml, hown, hts⟩ (kX12_may1 l D ca za h hh fp_419 L Q hI y7_419 ⟨by omega, by omega⟩ H.size) (sl_c12_may1_0_0_0_0_12 hts ⟨Nat.le_of_ble_eq_true rfl, Nat.le_of_ble_eq_true rfl⟩) (sl_vM_0 hA hK hP hS hZ) rfl rfl hl.1 rfl (lv_room (Nat.le_of_ble_eq_true rfl)) dX12_who_429 ⟨Nat.le_refl _, Nat.le_refl _⟩) hA hS (fun r_11 f_8 L_9 Q_10 H locs hq hP hS => ?_)
            obtain ⟨⟨ef9, eL9, eQ9⟩, hq, u_12⟩ := hq
            replace hs := hs.trans ((if_neg (Int.not_lt.mpr c_5)).trans (spl_e u_12 rfl))
            rw [ef9, eL9, eQ9] at hP; clear ef9 eL9 eQ9
            refine lv_if_eq (tgt := 447) hx hb dX12_who_432 (by decide) (fun c => ?_) (fun c => ?_)
            · skip
              have c_13 : r_11.toInt = 0 := (by first | exact (cm_eq1 ti_0 c) | (have z := Int32.toInt_inj.mpr c; have k1 : (0 : Int32).toInt = 0 := ti_0; omega))
              refine lv_iconst (v := 0) hx hb dX12_who_447 ic_0 ?_
              refine lv_istore (lv' := [(8, .int 0), (0, .ref (h 0)), (1, .int x0), (2, .int x1), (3, .int x2), (5, .int y5_419), (6, .int y6_419), (7, .int y7_419)]) hx hb dX12_who_448 hl (by decide) rfl (fun ls hl => ?_)
              refine lv_aload_n hx hb dX12_who_450 rfl (lv_at hl 1 rfl) ?_
              refine lv_iload hx hb dX12_who_451 (lv_at hl 7 rfl) ?_
              refine sg_calli (va_runV (As := [.int y7_419]) (rest := []) ⟨hx, hb, hml, hown, hts⟩ (kX12_may1 l D ca za h hh fp_419 L Q hI y7_419 ⟨by omega, by omega⟩ H.size) (sl_c12_may1_0_0_0_0_12 hts ⟨Nat.le_of_ble_eq_true rfl, Nat.le_of_ble_eq_true rfl⟩) (sl_vM_0 hA hK hP hS hZ) rfl rfl hl.1 rfl (lv_room (Nat.le_of_ble_eq_true rfl)) dX12_who_453 ⟨Nat.le_refl _, Nat.le_refl _⟩) hA hS (fun r_18 f_15 L_16 Q_17 H locs hq hP hS => ?_)
              obtain ⟨⟨ef9, eL9, eQ9⟩, hq, u_19⟩ := hq
              rw [ef9, eL9, eQ9] at hP; clear ef9 eL9 eQ9
              rw [show r_18 = r_11 from u_19.trans u_12.symm]
              refine lv_if_eq (tgt := 506) hx hb dX12_who_456 (by decide) (fun c => ?_) (fun c => ?_)
              · skip
                have c_20 : r_11.toInt = 0 := (by first | exact (cm_eq1 ti_0 c) | (have z := Int32.toInt_inj.mpr c; have k1 : (0 : Int32).toInt = 0 := ti_0; omega))
                exact blk_506 y5_419 y6_419 y7_419 fp_419 _ _ _ (hs.trans ((if_pos c_13).trans rfl)) hm_409 (by omega) hy0_419 hy1_419 hy2_419 hy3_419 ⟨by omega, by omega⟩ hI hF hP hS (lv_sub hl [1, 2, 3, 4, 5, 6, 7] rfl)
              · skip
                exfalso; have c_21 : r_11.toInt ≠ 0 := (by first | exact (cm_ne1 ti_0 c) | (have z := bn_ne c; have k1 : (0 : Int32).toInt = 0 := ti_0; omega)); first | exact absurd (by assumption) c_21 | omega
            · skip
              have c_14 : r_11.toInt ≠ 0 := (by first | exact (cm_ne1 ti_0 c) | (have z := bn_ne c; have k1 : (0 : Int32).toInt = 0 := ti_0; omega))
              refine lv_aload_n hx hb dX12_who_435 rfl (lv_at hl 0 rfl) ?_
              refine lv_iload_n hx hb dX12_who_436 rfl (lv_at hl 2 rfl) ?_
              refine lv_iload hx hb dX12_who_437 (lv_at hl 5 rfl) ?_
              refine lv_iload hx hb dX12_who_439 (lv_at hl 6 rfl) ?_
              refine sg_calli (va_runV (As := [.int x1, .int y6_419, .int y7_419]) (rest := []) ⟨hx, hb, hml, hown, hts⟩ (kX12_standsBy l D ca za h hh fp_419 L Q hI x1 y6_419 y7_419 hy1_419 hy3_419 ⟨by omega, by omega⟩ H.size) (sl_c12_standsBy_1_0_0_23_12 hts ⟨Nat.le_of_ble_eq_true rfl, Nat.le_of_ble_eq_true rfl⟩) (sl_vM_0 hA hK hP hS hZ) rfl rfl hl.1 rfl (lv_room (Nat.le_of_ble_eq_true rfl)) dX12_who_441 ⟨Nat.le_refl _, Nat.le_refl _⟩) hA hS (fun r_25 f_22 L_23 Q_24 H locs hq hP hS => ?_)
              obtain ⟨⟨ef9, eL9, eQ9⟩, hq, u_26⟩ := hq
              rw [ef9, eL9, eQ9] at hP; clear ef9 eL9 eQ9
              refine lv_goto (tgt := 448) hx hb dX12_who_444 (by decide) ?_
              refine lv_istore (lv' := [(8, .int r_25), (0, .ref (h 0)), (1, .int x0), (2, .int x1), (3, .int x2), (5, .int y5_419), (6, .int y6_419), (7, .int y7_419)]) hx hb dX12_who_448 hl (by decide) rfl (fun ls hl => ?_)
              refine lv_aload_n hx hb dX12_who_450 rfl (lv_at hl 1 rfl) ?_
              refine lv_iload hx hb dX12_who_451 (lv_at hl 7 rfl) ?_
              refine sg_calli (va_runV (As := [.int y7_419]) (rest := []) ⟨hx, hb, hml, hown, hts⟩ (kX12_may1 l D ca za h hh fp_419 L Q hI y7_419 ⟨by omega, by omega⟩ H.size) (sl_c12_may1_0_0_0_0_12 hts ⟨Nat.le_of_ble_eq_true rfl, Nat.le_of_ble_eq_true rfl⟩) (sl_vM_0 hA hK hP hS hZ) rfl rfl hl.1 rfl (lv_room (Nat.le_of_ble_eq_true rfl)) dX12_who_453 ⟨Nat.le_refl _, Nat.le_refl _⟩) hA hS (fun r_30 f_27 L_28 Q_29 H locs hq hP hS => ?_)
              obtain ⟨⟨ef9, eL9, eQ9⟩, hq, u_31⟩ := hq
              rw [ef9, eL9, eQ9] at hP; clear ef9 eL9 eQ9
              rw [show r_30 = r_11 from u_31.trans u_12.symm]
              refine lv_if_eq (tgt := 506) hx hb dX12_who_456 (by decide) (fun c => ?_) (fun c => ?_)
              · skip
                exfalso; have c_32 : r_11.toInt = 0 := (by first | exact (cm_eq1 ti_0 c) | (have z := Int32.toInt_inj.mpr c; have k1 : (0 : Int32).toInt = 0 := ti_0; omega)); first | exact absurd c_32 (by assumption) | omega
              · skip
                have c_33 : r_11.toInt ≠ 0 := (by first | exact (cm_ne1 ti_0 c) | (have z := bn_ne c; have k1 : (0 : Int32).toInt = 0 := ti_0; omega))
                refine lv_aload_n hx hb dX12_who_459 rfl (lv_at hl 1 rfl) ?_
                refine sl_gM_0_36_12 hx hb hts hown hK hP dX12_who_460 ?_
                refine lv_bipush (v := 61) hx hb dX12_who_463 bp_61 ?_
                refine lv_iload_n hx hb dX12_who_465 rfl (lv_at hl 4 rfl) ?_
                refine lv_imul hx hb dX12_who_466 ?_
                refine lv_topi (fun v_34 ev_34 => ?_)
                have q_35 : v_34.toInt = 61 * x2.toInt := by rw [ev_34]; exact bn_mulJ (by decide) (by omega) (by omega)
                refine lv_iload hx hb dX12_who_467 (lv_at hl 6 rfl) ?_
                refine lv_iadd hx hb dX12_who_469 ?_
                refine lv_topi (fun v_36 ev_36 => ?_)
                have q_37 : v_36.toInt = v_34.toInt + y6_419.toInt := by rw [ev_36]; first | exact bn_addI (by omega) (by omega) | exact (bn_addI (by omega) (by omega)).trans (by omega)
                refine sg_zald hx hb hK hP 17 (by decide) 2 rfl rfl (i := v_36) (vp_in_iff.mpr ⟨by omega, by omega⟩) dX12_who_470 ?_
                refine lv_topi (fun v_38 ev_38 => ?_)
                replace hs := hs.trans ((if_neg c_14).trans (spl_e u_26 (spl_e ev_34 (spl_e ev_36 (spl_e ev_38 rfl)))))
                have q_39 : 0 ≤ v_38.toInt ∧ v_38.toInt ≤ 1 := by rw [ev_38]; exact hI 17 _
                refine lv_if_eq (tgt := 506) hx hb dX12_who_471 (by decide) (fun c => ?_) (fun c => ?_)
                · skip
                  have c_40 : v_38.toInt = 0 := (by first | exact (cm_eq1 ti_0 c) | (have z := Int32.toInt_inj.mpr c; have k1 : (0 : Int32).toInt = 0 := ti_0; omega))
                  exact blk_506 y5_419 y6_419 y7_419 fp_419 _ _ _ (hs.trans ((if_pos c_40).trans rfl)) hm_409 (by omega) hy0_419 hy1_419 hy2_419 hy3_419 ⟨by omega, by omega⟩ hI hF hP hS (lv_sub hl [1, 2, 3, 4, 5, 6, 7] rfl)
                · skip
                  have c_41 : v_38.toInt ≠ 0 := (by first | exact (cm_ne1 ti_0 c) | (have z := bn_ne c; have k1 : (0 : Int32).toInt = 0 := ti_0; omega))
                  refine lv_aload_n hx hb dX12_who_474 rfl (lv_at hl 1 rfl) ?_
                  refine lv_iload_n hx hb dX12_who_475 rfl (lv_at hl 2 rfl) ?_
                  refine lv_iload_n hx hb dX12_who_476 rfl (lv_at hl 4 rfl) ?_
                  refine lv_iload hx hb dX12_who_477 (lv_at hl 0 rfl) ?_
                  refine sg_calli (va_runV (As := [.int x0, .int x2, .int r_25]) (rest := []) ⟨hx, hb, hml, hown, hts⟩ (kX12_isSeen l D ca za h hh fp_419 L Q hI x0 x2 r_25 hy0_419 ⟨by omega, by omega⟩ ⟨by omega, by omega⟩ H.size) (sl_c12_isSeen_0_0_0_0_12 hts ⟨Nat.le_of_ble_eq_true rfl, Nat.le_of_ble_eq_true rfl⟩) (sl_vM_0 hA hK hP hS hZ) rfl rfl hl.1 rfl (lv_room (Nat.le_of_ble_eq_true rfl)) dX12_who_479 ⟨Nat.le_refl _, Nat.le_refl _⟩) hA hS (fun r_45 f_42 L_43 Q_44 H locs hq hP hS => ?_)
                  obtain ⟨⟨ef9, eL9, eQ9⟩, hq, u_46⟩ := hq
                  replace hs := hs.trans ((if_neg c_41).trans (spl_e u_46 rfl))
                  rw [ef9, eL9, eQ9] at hP; clear ef9 eL9 eQ9
                  refine lv_if_eq (tgt := 506) hx hb dX12_who_482 (by decide) (fun c => ?_) (fun c => ?_)
                  · skip
                    have c_47 : r_45.toInt = 0 := (by first | exact (cm_eq1 ti_0 c) | (have z := Int32.toInt_inj.mpr c; have k1 : (0 : Int32).toInt = 0 := ti_0; omega))
                    exact blk_506 y5_419 y6_419 y7_419 fp_419 _ _ _ (hs.trans ((if_pos c_47).trans rfl)) hm_409 (by omega) hy0_419 hy1_419 hy2_419 hy3_419 ⟨by omega, by omega⟩ hI hF hP hS (lv_sub hl [1, 2, 3, 4, 5, 6, 7] rfl)
                  · skip
                    have c_48 : r_45.toInt ≠ 0 := (by first | exact (cm_ne1 ti_0 c) | (have z := bn_ne c; have k1 : (0 : Int32).toInt = 0 := ti_0; omega))
                    refine lv_aload_n hx hb dX12_who_485 rfl (lv_at hl 1 rfl) ?_
                    refine sl_gM_0_37_12 hx hb hts hown hK hP dX12_who_486 ?_
                    refine lv_bipush (v := 61) hx hb dX12_who_489 bp_61 ?_
                    refine lv_iload_n hx hb dX12_who_491 rfl (lv_at hl 4 rfl) ?_
                    refine lv_iconst (v := 1) hx hb dX12_who_492 ic_1 ?_
                    refine lv_iadd hx hb dX12_who_493 ?_
                    refine lv_topi (fun v_49 ev_49 => ?_)
                    have q_50 : v_49.toInt = x2.toInt + 1 := by rw [ev_49]; first | exact cm_add ti_1 (by omega) (by omega) | (have k1 : (1 : Int32).toInt = 1 := ti_1; exact (bn_addI (by omega) (by omega)).trans (by omega))
                    refine lv_imul hx hb dX12_who_494 ?_
                    refine lv_topi (fun v_51 ev_51 => ?_)
                    have q_52 : v_51.toInt = 61 * v_49.toInt := by rw [ev_51]; exact bn_mulJ (by decide) (by omega) (by omega)
                    refine lv_iload hx hb dX12_who_495 (lv_at hl 0 rfl) ?_
                    refine lv_iadd hx hb dX12_who_497 ?_
                    refine lv_topi (fun v_53 ev_53 => ?_)
                    have q_54 : v_53.toInt = v_51.toInt + r_25.toInt := by rw [ev_53]; first | exact bn_addI (by omega) (by omega) | exact (bn_addI (by omega) (by omega)).trans (by omega)
                    refine sg_zald hx hb hK hP 18 (by decide) 2 rfl rfl (i := v_53) (vp_in_iff.mpr ⟨by omega, by omega⟩) dX12_who_498 ?_
                    refine lv_topi (fun v_55 ev_55 => ?_)
                    replace hs := hs.trans ((if_neg c_48).trans (spl_e ev_49 (spl_e ev_51 (spl_e ev_53 (spl_e ev_55 rfl)))))
                    have q_56 : 0 ≤ v_55.toInt ∧ v_55.toInt ≤ 1 := by rw [ev_55]; exact hI 18 _
                    refine lv_if_eq (tgt := 506) hx hb dX12_who_499 (by decide) (fun c => ?_) (fun c => ?_)
                    · skip
                      have c_57 : v_55.toInt = 0 := (by first | exact (cm_eq1 ti_0 c) | (have z := Int32.toInt_inj.mpr c; have k1 : (0 : Int32).toInt = 0 := ti_0; omega))
                      exact blk_506 y5_419 y6_419 y7_419 fp_419 _ _ _ (hs.trans ((if_pos c_57).trans rfl)) hm_409 (by omega) hy0_419 hy1_419 hy2_419 hy3_419 ⟨by omega, by omega⟩ hI hF hP hS (lv_sub hl [1, 2, 3, 4, 5, 6, 7] rfl)
                    · skip
                      have c_58 : v_55.toInt ≠ 0 := (by first | exact (cm_ne1 ti_0 c) | (have z := bn_ne c; have k1 : (0 : Int32).toInt = 0 := ti_0; omega))
                      refine lv_iconst (v := 1) hx hb dX12_who_502 ic_1 ?_
                      refine lv_goto (tgt := 507) hx hb dX12_who_503 (by decide) ?_
                      refine lv_istore (lv' := [(9, .int 1), (8, .int r_25), (0, .ref (h 0)), (1, .int x0), (2, .int x1), (3, .int x2), (5, .int y5_419), (6, .int y6_419), (7, .int y7_419)]) hx hb dX12_who_507 hl (by decide) rfl (fun ls hl => ?_)
                      refine lv_iload hx hb dX12_who_509 (lv_at hl 6 rfl) ?_
                      refine lv_iload hx hb dX12_who_511 (lv_at hl 0 rfl) ?_
                      refine lv_if_eq (tgt := 523) hx hb dX12_who_513 (by decide) (fun c => absurd c (by decide)) (fun c => ?_)
                      refine lv_iconst (v := 1) hx hb dX12_who_516 ic_1 ?_
                      refine lv_iload hx hb dX12_who_517 (lv_at hl 8 rfl) ?_
                      refine lv_ishl hx hb dX12_who_519 ?_
                      refine lv_topi (fun v_59 ev_59 => ?_)
                      have q_60 : 1 ≤ v_59.toInt ∧ v_59.toInt ≤ 256 := by rw [ev_59]; have z := bn_shl1 (y := y7_419) (by omega) (by omega); omega
                      refine lv_goto (tgt := 524) hx hb dX12_who_520 (by decide) ?_
                      refine lv_ior hx hb dX12_who_524 ?_
                      refine lv_topi (fun v_61 ev_61 => ?_)
                      refine lv_istore (lv' := [(5, .int v_61), (9, .int 1), (8, .int r_25), (0, .ref (h 0)), (1, .int x0), (2, .int x1), (3, .int x2), (6, .int y6_419), (7, .int y7_419)]) hx hb dX12_who_525 hl (by decide) rfl (fun ls hl => ?_)
                      obtain ⟨v_62, ev_62⟩ : ∃ z : Int32, z = y7_419 + 1 := ⟨_, rfl⟩
                      have q_63 : v_62.toInt = y7_419.toInt + 1 := by rw [ev_62]; exact (bn_addc y7_419 1 (by decide) (by omega) (by omega))
                      refine lv_iinc (v := v_62) (lv' := [(7, .int v_62), (5, .int v_61), (9, .int 1), (8, .int r_25), (0, .ref (h 0)), (1, .int x0), (2, .int x1), (3, .int x2), (6, .int y6_419)]) hx hb dX12_who_527 hl (k := 8) rfl (by rw [ev_62]; rfl) (by decide) rfl (fun ls hl => ?_)
                      refine lv_goto (tgt := 419) hx hb dX12_who_530 (by decide) ?_
                      exact ih_419 v_61 y6_419 v_62 fp_419 _ _ _ (hs.trans ((if_neg c_58).trans (spl_e ev_59 (spl_e ev_61 (spl_e ev_62 rfl))))) (by omega) hm_409 hy0_419 hy1_419 hy2_419 hy3_419 ⟨by omega, by omega⟩ hI hF hP hS (lv_sub hl [4, 5, 6, 7, 1, 8, 0] rfl)
      intro y5_409 y6_409 fp_409 H locs ls hs hm_409 hy0_409 hy1_409 hy2_409 hy3_409 hI hF hP hS hl
      have hs : sp = sX12_who_h409 x0 x1 x2 (sX12_who_l409 x0 x1 x2 n_409) y5_409 y6_409 fp_409 L := hs
      refine lv_iload hx hb dX12_who_409 (lv_at hl 5 rfl) ?_
      refine lv_bipush (v := 61) hx hb dX12_who_411 bp_61 ?_
      refine lv_icmp_ge (tgt := 539) hx hb dX12_who_413 (by decide) (fun c => ?_) (fun c => ?_)
      · skip
        have c_64 : 61 ≤ y6_409.toInt := (by first | exact (cm_le0 ti_61 c) | (have z := bn_le c; have k1 : (61 : Int32).toInt = 61 := ti_61; omega))
        refine lv_iload hx hb dX12_who_539 (lv_at hl 4 rfl) ?_
        exact hret _ _ _ _ (y5_409) fp_409 L Q dX12_who_541 hP hS ⟨⟨hI, hF, rfl, rfl⟩, trivial, (Eq.trans (Eq.symm (hs.trans (((if_neg (Int.not_lt.mpr c_64)).trans rfl)))) hsp)⟩
      · skip
        have c_65 : y6_409.toInt < 61 := (by first | exact (cm_nle0 ti_61 c) | (have z := bn_nle c; have k1 : (61 : Int32).toInt = 61 := ti_61; omega))
        refine lv_iconst (v := 0) hx hb dX12_who_416 ic_0 ?_
        refine lv_istore (lv' := [(7, .int 0), (0, .ref (h 0)), (1, .int x0), (2, .int x1), (3, .int x2), (5, .int y5_409), (6, .int y6_409)]) hx hb dX12_who_417 hl (by decide) rfl (fun ls hl => ?_)
        exact loop_419 10 y5_409 y6_409 0 fp_409 _ _ _ (hs.trans (((if_pos c_65).trans rfl))) (by have kc2 : (0 : Int32).toInt = 0 := ti_0; omega) (by have kc2 : (0 : Int32).toInt = 0 := ti_0; omega) hy0_409 hy1_409 hy2_409 ⟨by omega, by omega⟩ (by decide) hI hF hP hS (lv_sub hl [1, 2, 3, 4, 5, 6, 0] rfl)
  have loop_276 : ∀ (n_276 : Nat) (y5_276 : Int32) (fp_276 : sg_F) (H : Heap) (locs : List Loc) (ls : Array Slot), sp = sX12_who_l276 x0 x1 x2 n_276 y5_276 fp_276 L → y5_276.toInt - (-1) < (n_276 : Int) → 0 ≤ x0.toInt ∧ x0.toInt ≤ 5 → 0 ≤ x1.toInt ∧ x1.toInt ≤ 2 → 0 ≤ x2.toInt ∧ x2.toInt ≤ 11 → (-1) ≤ y5_276.toInt ∧ y5_276.toInt ≤ 11 → sgI loM hiM fp_276 → sgK WkX12_who f fp_276 → va_P D vwCl (sgw 26 h (eM ca h) fp_276 L Q) H → va_S (sgA 26 h s.heap.size) s.heap H locs → lv_has ls 10 [(0, .ref (h 0)), (1, .int x0), (2, .int x1), (3, .int x2), (5, .int y5_276)] → W p l e ({ frames := 3, cells := 0, slots := 0, locals := 66 }) s m ([.ref (h 0), .int x0, .int x1, .int x2] : List Value).toArray below meth cd H locs 0 0 Qz (F0 m 276 ls []) := by
    intro n_276
    induction n_276 with
    | zero => intro y5_276 fp_276 H locs ls hs hm_276 hy0_276 hy1_276 hy2_276 hy3_276 hI hF hP hS hl; exact absurd hm_276 (by omega)
    | succ n_276 ih_276 =>
      have loop_284 : ∀ (n_284 : Nat) (y5_284 : Int32) (y6_284 : Int32) (fp_284 : sg_F) (H : Heap) (locs : List Loc) (ls : Array Slot), sp = sX12_who_l284 (sX12_who_l276 x0 x1 x2 n_276) x0 x1 x2 n_284 y5_284 y6_284 fp_284 L → 61 - y6_284.toInt < (n_284 : Int) → y5_284.toInt - (-1) < ((n_276 + 1 : Nat) : Int) → 0 ≤ x0.toInt ∧ x0.toInt ≤ 5 → 0 ≤ x1.toInt ∧ x1.toInt ≤ 2 → 0 ≤ x2.toInt ∧ x2.toInt ≤ 11 → 0 ≤ y5_284.toInt ∧ y5_284.toInt ≤ 11 → 0 ≤ y6_284.toInt ∧ y6_284.toInt ≤ 61 → sgI loM hiM fp_284 → sgK WkX12_who f fp_284 → va_P D vwCl (sgw 26 h (eM ca h) fp_284 L Q) H → va_S (sgA 26 h s.heap.size) s.heap H locs → lv_has ls 10 [(0, .ref (h 0)), (1, .int x0), (2, .int x1), (3, .int x2), (5, .int y5_284), (6, .int y6_284)] → W p l e ({ frames := 3, cells := 0, slots := 0, locals := 66 }) s m ([.ref (h 0), .int x0, .int x1, .int x2] : List Value).toArray below meth cd H locs 0 0 Qz (F0 m 284 ls []) := by
        intro n_284
        induction n_284 with
        | zero => intro y5_284 y6_284 fp_284 H locs ls hs hm_284 hm_276 hy0_284 hy1_284 hy2_284 hy3_284 hy4_284 hI hF hP hS hl; exact absurd hm_284 (by omega)
        | succ n_284 ih_284 =>
          have loop_294 : ∀ (n_294 : Nat) (y5_294 : Int32) (y6_294 : Int32) (y7_294 : Int32) (fp_294 : sg_F) (H : Heap) (locs : List Loc) (ls : Array Slot), sp = sX12_who_l294 (sX12_who_l276 x0 x1 x2 n_276) (sX12_who_l284 (sX12_who_l276 x0 x1 x2 n_276) x0 x1 x2 n_284) x0 x1 x2 n_294 y5_294 y6_294 y7_294 fp_294 L → 9 - y7_294.toInt < (n_294 : Int) → y5_294.toInt - (-1) < ((n_276 + 1 : Nat) : Int) → 61 - y6_294.toInt < ((n_284 + 1 : Nat) : Int) → 0 ≤ x0.toInt ∧ x0.toInt ≤ 5 → 0 ≤ x1.toInt ∧ x1.toInt ≤ 2 → 0 ≤ x2.toInt ∧ x2.toInt ≤ 11 → 0 ≤ y5_294.toInt ∧ y5_294.toInt ≤ 11 → 0 ≤ y6_294.toInt ∧ y6_294.toInt ≤ 60 → 0 ≤ y7_294.toInt ∧ y7_294.toInt ≤ 9 → sgI loM hiM fp_294 → sgK WkX12_who f fp_294 → va_P D vwCl (sgw 26 h (eM ca h) fp_294 L Q) H → va_S (sgA 26 h s.heap.size) s.heap H locs → lv_has ls 10 [(0, .ref (h 0)), (1, .int x0), (2, .int x1), (3, .int x2), (5, .int y5_294), (6, .int y6_294), (7, .int y7_294)] → W p l e ({ frames := 3, cells := 0, slots := 0, locals := 66 }) s m ([.ref (h 0), .int x0, .int x1, .int x2] : List Value).toArray below meth cd H locs 0 0 Qz (F0 m 294 ls []) := by
            intro n_294
            induction n_294 with
            | zero => intro y5_294 y6_294 y7_294 fp_294 H locs ls hs hm_294 hm_276 hm_284 hy0_294 hy1_294 hy2_294 hy3_294 hy4_294 hy5_294 hI hF hP hS hl; exact absurd hm_294 (by omega)
            | succ n_294 ih_294 =>
              intro y5_294 y6_294 y7_294 fp_294 H locs ls hs hm_294 hm_276 hm_284 hy0_294 hy1_294 hy2_294 hy3_294 hy4_294 hy5_294 hI hF hP hS hl
              have hs : sp = sX12_who_h294 (sX12_who_l276 x0 x1 x2 n_276) (sX12_who_l284 (sX12_who_l276 x0 x1 x2 n_276) x0 x1 x2 n_284) x0 x1 x2 (sX12_who_l294 (sX12_who_l276 x0 x1 x2 n_276) (sX12_who_l284 (sX12_who_l276 x0 x1 x2 n_276) x0 x1 x2 n_284) x0 x1 x2 n_294) y5_294 y6_294 y7_294 fp_294 L := hs
              refine lv_iload hx hb dX12_who_294 (lv_at hl 6 rfl) ?_
              refine lv_bipush (v := 8) hx hb dX12_who_296 bp_8 ?_
              refine lv_icmp_gt (tgt := 391) hx hb dX12_who_298 (by decide) (fun c => ?_) (fun c => ?_)
              · skip
                have c_66 : 8 < y7_294.toInt := (by first | exact (cm_lt0 ti_8 c) | (have z := bn_lt c; have k1 : (8 : Int32).toInt = 8 := ti_8; omega))
                obtain ⟨v_68, ev_68⟩ : ∃ z : Int32, z = y6_294 + 1 := ⟨_, rfl⟩
                have q_69 : v_68.toInt = y6_294.toInt + 1 := by rw [ev_68]; exact (bn_addc y6_294 1 (by decide) (by omega) (by omega))
                refine lv_iinc (v := v_68) (lv' := [(6, .int v_68), (0, .ref (h 0)), (1, .int x0), (2, .int x1), (3, .int x2), (5, .int y5_294), (7, .int y7_294)]) hx hb dX12_who_391 hl (k := 5) rfl (by rw [ev_68]; rfl) (by decide) rfl (fun ls hl => ?_)
                refine lv_goto (tgt := 284) hx hb dX12_who_394 (by decide) ?_
                exact ih_284 y5_294 v_68 fp_294 _ _ _ (hs.trans (((if_pos c_66).trans (spl_e ev_68 rfl)))) (by omega) hm_276 hy0_294 hy1_294 hy2_294 hy3_294 ⟨by omega, by omega⟩ hI hF hP hS (lv_sub hl [1, 2, 3, 4, 5, 0] rfl)
              · skip
                have c_67 : y7_294.toInt ≤ 8 := (by first | exact (cm_nlt0 ti_8 c) | (have z := bn_nlt c; have k1 : (8 : Int32).toInt = 8 := ti_8; omega))
                refine lv_aload_n hx hb dX12_who_301 rfl (lv_at hl 0 rfl) ?_
                refine lv_iload hx hb dX12_who_302 (lv_at hl 6 rfl) ?_
                refine sg_calli (va_runV (As := [.int y7_294]) (rest := []) ⟨hx, hb, hml, hown, hts⟩ (kX12_may1 l D ca za h hh fp_294 L Q hI y7_294 ⟨by omega, by omega⟩ H.size) (sl_c12_may1_0_0_0_0_12 hts ⟨Nat.le_of_ble_eq_true rfl, Nat.le_of_ble_eq_true rfl⟩) (sl_vM_0 hA hK hP hS hZ) rfl rfl hl.1 rfl (lv_room (Nat.le_of_ble_eq_true rfl)) dX12_who_304 ⟨Nat.le_refl _, Nat.le_refl _⟩) hA hS (fun r_73 f_70 L_71 Q_72 H locs hq hP hS => ?_)
                obtain ⟨⟨ef9, eL9, eQ9⟩, hq, u_74⟩ := hq
                replace hs := hs.trans ((if_neg (Int.not_lt.mpr c_67)).trans (spl_e u_74 rfl))
                rw [ef9, eL9, eQ9] at hP; clear ef9 eL9 eQ9
                refine lv_if_eq (tgt := 322) hx hb dX12_who_307 (by decide) (fun c => ?_) (fun c => ?_)
                · skip
                  have c_75 : r_73.toInt = 0 := (by first | exact (cm_eq1 ti_0 c) | (have z := Int32.toInt_inj.mpr c; have k1 : (0 : Int32).toInt = 0 := ti_0; omega))
                  refine lv_iconst (v := 0) hx hb dX12_who_322 ic_0 ?_
                  refine lv_istore (lv' := [(8, .int 0), (0, .ref (h 0)), (1, .int x0), (2, .int x1), (3, .int x2), (5, .int y5_294), (6, .int y6_294), (7, .int y7_294)]) hx hb dX12_who_323 hl (by decide) rfl (fun ls hl => ?_)
                  refine lv_aload_n hx hb dX12_who_325 rfl (lv_at hl 1 rfl) ?_
                  refine sl_gM_0_37_12 hx hb hts hown hK hP dX12_who_326 ?_
                  refine lv_bipush (v := 61) hx hb dX12_who_329 bp_61 ?_
                  refine lv_iload hx hb dX12_who_331 (lv_at hl 5 rfl) ?_
                  refine lv_imul hx hb dX12_who_333 ?_
                  refine lv_topi (fun v_77 ev_77 => ?_)
                  have q_78 : v_77.toInt = 61 * y5_294.toInt := by rw [ev_77]; exact bn_mulJ (by decide) (by omega) (by omega)
                  refine lv_iload hx hb dX12_who_334 (lv_at hl 6 rfl) ?_
                  refine lv_iadd hx hb dX12_who_336 ?_
                  refine lv_topi (fun v_79 ev_79 => ?_)
                  have q_80 : v_79.toInt = v_77.toInt + y6_294.toInt := by rw [ev_79]; first | exact bn_addI (by omega) (by omega) | exact (bn_addI (by omega) (by omega)).trans (by omega)
                  refine lv_dup2_11 hx hb dX12_who_337 rfl rfl ?_
                  refine sg_zald hx hb hK hP 18 (by decide) 2 rfl rfl (i := v_79) (vp_in_iff.mpr ⟨by omega, by omega⟩) dX12_who_338 ?_
                  refine lv_topi (fun v_81 ev_81 => ?_)
                  have q_82 : 0 ≤ v_81.toInt ∧ v_81.toInt ≤ 1 := by rw [ev_81]; exact hI 18 _
                  refine lv_aload_n hx hb dX12_who_339 rfl (lv_at hl 1 rfl) ?_
                  refine lv_iload hx hb dX12_who_340 (lv_at hl 7 rfl) ?_
                  refine sg_calli (va_runV (As := [.int y7_294]) (rest := [.int v_81, .int v_79, .ref (h 18)]) ⟨hx, hb, hml, hown, hts⟩ (kX12_may1 l D ca za h hh fp_294 L Q hI y7_294 ⟨by omega, by omega⟩ H.size) (sl_c12_may1_0_0_0_0_12 hts ⟨Nat.le_of_ble_eq_true rfl, Nat.le_of_ble_eq_true rfl⟩) (sl_vM_0 hA hK hP hS hZ) rfl rfl hl.1 rfl (lv_room (Nat.le_of_ble_eq_true rfl)) dX12_who_342 ⟨Nat.le_refl _, Nat.le_refl _⟩) hA hS (fun r_86 f_83 L_84 Q_85 H locs hq hP hS => ?_)
                  obtain ⟨⟨ef9, eL9, eQ9⟩, hq, u_87⟩ := hq
                  rw [ef9, eL9, eQ9] at hP; clear ef9 eL9 eQ9
                  rw [show r_86 = r_73 from u_87.trans u_74.symm]
                  refine lv_if_eq (tgt := 382) hx hb dX12_who_345 (by decide) (fun c => ?_) (fun c => ?_)
                  · skip
                    have c_88 : r_73.toInt = 0 := (by first | exact (cm_eq1 ti_0 c) | (have z := Int32.toInt_inj.mpr c; have k1 : (0 : Int32).toInt = 0 := ti_0; omega))
                    refine lv_iconst (v := 0) hx hb dX12_who_382 ic_0 ?_
                    refine lv_ior hx hb dX12_who_383 ?_
                    refine lv_topi (fun v_90 ev_90 => ?_)
                    have q_91 : 0 ≤ v_90.toInt ∧ v_90.toInt ≤ 1 := by rw [ev_90]; have k1 : (0 : Int32).toInt = 0 := ti_0; exact bn_or1 (x := v_81) (y := 0) (by omega) (by omega) (by omega) (by omega)
                    refine sg_zast hx hb hh hA hK hP hS 18 (by decide) 2 (fun _ => rfl) rfl (i := v_79) (x := v_90) (vp_in_iff.mpr ⟨by omega, by omega⟩) (bn_nar (by omega) (by omega)) dX12_who_384 (fun f_92 H locs ef_92 hP hS => ?_)
                    have hI : sgI loM hiM f_92 := by rw [ef_92]; exact sgI.put hI 18 v_79.toNatClampNeg (show 0 ≤ (v_90 : Int32).toInt ∧ (v_90 : Int32).toInt ≤ 1 from q_91)
                    have hF : sgK WkX12_who f f_92 := sgK.put hF ef_92 (by rfl)
                    obtain ⟨v_93, ev_93⟩ : ∃ z : Int32, z = y7_294 + 1 := ⟨_, rfl⟩
                    have q_94 : v_93.toInt = y7_294.toInt + 1 := by rw [ev_93]; exact (bn_addc y7_294 1 (by decide) (by omega) (by omega))
                    refine lv_iinc (v := v_93) (lv' := [(7, .int v_93), (8, .int 0), (0, .ref (h 0)), (1, .int x0), (2, .int x1), (3, .int x2), (5, .int y5_294), (6, .int y6_294)]) hx hb dX12_who_385 hl (k := 7) rfl (by rw [ev_93]; rfl) (by decide) rfl (fun ls hl => ?_)
                    refine lv_goto (tgt := 294) hx hb dX12_who_388 (by decide) ?_
                    exact ih_294 y5_294 y6_294 v_93 f_92 _ _ _ (hs.trans ((if_pos c_75).trans (spl_e ev_77 (spl_e ev_79 (spl_e ev_81 (spl_e ev_90 (spl_e ef_92 (spl_e ev_93 rfl)))))))) (by omega) hm_276 hm_284 hy0_294 hy1_294 hy2_294 hy3_294 hy4_294 ⟨by omega, by omega⟩ hI hF hP hS (lv_sub hl [2, 3, 4, 5, 6, 7, 0] rfl)
                  · skip
                    exfalso; have c_89 : r_73.toInt ≠ 0 := (by first | exact (cm_ne1 ti_0 c) | (have z := bn_ne c; have k1 : (0 : Int32).toInt = 0 := ti_0; omega)); first | exact absurd (by assumption) c_89 | omega
                · skip
                  have c_76 : r_73.toInt ≠ 0 := (by first | exact (cm_ne1 ti_0 c) | (have z := bn_ne c; have k1 : (0 : Int32).toInt = 0 := ti_0; omega))
                  refine lv_aload_n hx hb dX12_who_310 rfl (lv_at hl 0 rfl) ?_
                  refine lv_iload_n hx hb dX12_who_311 rfl (lv_at hl 2 rfl) ?_
                  refine lv_iload hx hb dX12_who_312 (lv_at hl 5 rfl) ?_
                  refine lv_iload hx hb dX12_who_314 (lv_at hl 6 rfl) ?_
                  refine sg_calli (va_runV (As := [.int x1, .int y6_294, .int y7_294]) (rest := []) ⟨hx, hb, hml, hown, hts⟩ (kX12_standsBy l D ca za h hh fp_294 L Q hI x1 y6_294 y7_294 hy1_294 hy4_294 ⟨by omega, by omega⟩ H.size) (sl_c12_standsBy_1_0_0_23_12 hts ⟨Nat.le_of_ble_eq_true rfl, Nat.le_of_ble_eq_true rfl⟩) (sl_vM_0 hA hK hP hS hZ) rfl rfl hl.1 rfl (lv_room (Nat.le_of_ble_eq_true rfl)) dX12_who_316 ⟨Nat.le_refl _, Nat.le_refl _⟩) hA hS (fun r_98 f_95 L_96 Q_97 H locs hq hP hS => ?_)
                  obtain ⟨⟨ef9, eL9, eQ9⟩, hq, u_99⟩ := hq
                  rw [ef9, eL9, eQ9] at hP; clear ef9 eL9 eQ9
                  refine lv_goto (tgt := 323) hx hb dX12_who_319 (by decide) ?_
                  refine lv_istore (lv' := [(8, .int r_98), (0, .ref (h 0)), (1, .int x0), (2, .int x1), (3, .int x2), (5, .int y5_294), (6, .int y6_294), (7, .int y7_294)]) hx hb dX12_who_323 hl (by decide) rfl (fun ls hl => ?_)
                  refine lv_aload_n hx hb dX12_who_325 rfl (lv_at hl 1 rfl) ?_
                  refine sl_gM_0_37_12 hx hb hts hown hK hP dX12_who_326 ?_
                  refine lv_bipush (v := 61) hx hb dX12_who_329 bp_61 ?_
                  refine lv_iload hx hb dX12_who_331 (lv_at hl 5 rfl) ?_
                  refine lv_imul hx hb dX12_who_333 ?_
                  refine lv_topi (fun v_100 ev_100 => ?_)
                  have q_101 : v_100.toInt = 61 * y5_294.toInt := by rw [ev_100]; exact bn_mulJ (by decide) (by omega) (by omega)
                  refine lv_iload hx hb dX12_who_334 (lv_at hl 6 rfl) ?_
                  refine lv_iadd hx hb dX12_who_336 ?_
                  refine lv_topi (fun v_102 ev_102 => ?_)
                  have q_103 : v_102.toInt = v_100.toInt + y6_294.toInt := by rw [ev_102]; first | exact bn_addI (by omega) (by omega) | exact (bn_addI (by omega) (by omega)).trans (by omega)
                  refine lv_dup2_11 hx hb dX12_who_337 rfl rfl ?_
                  refine sg_zald hx hb hK hP 18 (by decide) 2 rfl rfl (i := v_102) (vp_in_iff.mpr ⟨by omega, by omega⟩) dX12_who_338 ?_
                  refine lv_topi (fun v_104 ev_104 => ?_)
                  have q_105 : 0 ≤ v_104.toInt ∧ v_104.toInt ≤ 1 := by rw [ev_104]; exact hI 18 _
                  refine lv_aload_n hx hb dX12_who_339 rfl (lv_at hl 1 rfl) ?_
                  refine lv_iload hx hb dX12_who_340 (lv_at hl 7 rfl) ?_
                  refine sg_calli (va_runV (As := [.int y7_294]) (rest := [.int v_104, .int v_102, .ref (h 18)]) ⟨hx, hb, hml, hown, hts⟩ (kX12_may1 l D ca za h hh fp_294 L Q hI y7_294 ⟨by omega, by omega⟩ H.size) (sl_c12_may1_0_0_0_0_12 hts ⟨Nat.le_of_ble_eq_true rfl, Nat.le_of_ble_eq_true rfl⟩) (sl_vM_0 hA hK hP hS hZ) rfl rfl hl.1 rfl (lv_room (Nat.le_of_ble_eq_true rfl)) dX12_who_342 ⟨Nat.le_refl _, Nat.le_refl _⟩) hA hS (fun r_109 f_106 L_107 Q_108 H locs hq hP hS => ?_)
                  obtain ⟨⟨ef9, eL9, eQ9⟩, hq, u_110⟩ := hq
                  rw [ef9, eL9, eQ9] at hP; clear ef9 eL9 eQ9
                  rw [show r_109 = r_73 from u_110.trans u_74.symm]
                  refine lv_if_eq (tgt := 382) hx hb dX12_who_345 (by decide) (fun c => ?_) (fun c => ?_)
                  · skip
                    exfalso; have c_111 : r_73.toInt = 0 := (by first | exact (cm_eq1 ti_0 c) | (have z := Int32.toInt_inj.mpr c; have k1 : (0 : Int32).toInt = 0 := ti_0; omega)); first | exact absurd c_111 (by assumption) | omega
                  · skip
                    have c_112 : r_73.toInt ≠ 0 := (by first | exact (cm_ne1 ti_0 c) | (have z := bn_ne c; have k1 : (0 : Int32).toInt = 0 := ti_0; omega))
                    refine lv_aload_n hx hb dX12_who_348 rfl (lv_at hl 1 rfl) ?_
                    refine lv_iload_n hx hb dX12_who_349 rfl (lv_at hl 2 rfl) ?_
                    refine lv_iload hx hb dX12_who_350 (lv_at hl 5 rfl) ?_
                    refine lv_iload hx hb dX12_who_352 (lv_at hl 0 rfl) ?_
                    refine sg_calli (va_runV (As := [.int x0, .int y5_294, .int r_98]) (rest := [.int v_104, .int v_102, .ref (h 18)]) ⟨hx, hb, hml, hown, hts⟩ (kX12_isSeen l D ca za h hh fp_294 L Q hI x0 y5_294 r_98 hy0_294 ⟨by omega, by omega⟩ ⟨by omega, by omega⟩ H.size) (sl_c12_isSeen_0_0_0_0_12 hts ⟨Nat.le_of_ble_eq_true rfl, Nat.le_of_ble_eq_true rfl⟩) (sl_vM_0 hA hK hP hS hZ) rfl rfl hl.1 rfl (lv_room (Nat.le_of_ble_eq_true rfl)) dX12_who_354 ⟨Nat.le_refl _, Nat.le_refl _⟩) hA hS (fun r_116 f_113 L_114 Q_115 H locs hq hP hS => ?_)
                    obtain ⟨⟨ef9, eL9, eQ9⟩, hq, u_117⟩ := hq
                    replace hs := hs.trans ((if_neg c_76).trans (spl_e u_99 (spl_e ev_100 (spl_e ev_102 (spl_e ev_104 (spl_e u_117 rfl))))))
                    rw [ef9, eL9, eQ9] at hP; clear ef9 eL9 eQ9
                    refine lv_if_eq (tgt := 382) hx hb dX12_who_357 (by decide) (fun c => ?_) (fun c => ?_)
                    · skip
                      have c_118 : r_116.toInt = 0 := (by first | exact (cm_eq1 ti_0 c) | (have z := Int32.toInt_inj.mpr c; have k1 : (0 : Int32).toInt = 0 := ti_0; omega))
                      refine lv_iconst (v := 0) hx hb dX12_who_382 ic_0 ?_
                      refine lv_ior hx hb dX12_who_383 ?_
                      refine lv_topi (fun v_120 ev_120 => ?_)
                      have q_121 : 0 ≤ v_120.toInt ∧ v_120.toInt ≤ 1 := by rw [ev_120]; have k1 : (0 : Int32).toInt = 0 := ti_0; exact bn_or1 (x := v_104) (y := 0) (by omega) (by omega) (by omega) (by omega)
                      refine sg_zast hx hb hh hA hK hP hS 18 (by decide) 2 (fun _ => rfl) rfl (i := v_102) (x := v_120) (vp_in_iff.mpr ⟨by omega, by omega⟩) (bn_nar (by omega) (by omega)) dX12_who_384 (fun f_122 H locs ef_122 hP hS => ?_)
                      have hI : sgI loM hiM f_122 := by rw [ef_122]; exact sgI.put hI 18 v_102.toNatClampNeg (show 0 ≤ (v_120 : Int32).toInt ∧ (v_120 : Int32).toInt ≤ 1 from q_121)
                      have hF : sgK WkX12_who f f_122 := sgK.put hF ef_122 (by rfl)
                      obtain ⟨v_123, ev_123⟩ : ∃ z : Int32, z = y7_294 + 1 := ⟨_, rfl⟩
                      have q_124 : v_123.toInt = y7_294.toInt + 1 := by rw [ev_123]; exact (bn_addc y7_294 1 (by decide) (by omega) (by omega))
                      refine lv_iinc (v := v_123) (lv' := [(7, .int v_123), (8, .int r_98), (0, .ref (h 0)), (1, .int x0), (2, .int x1), (3, .int x2), (5, .int y5_294), (6, .int y6_294)]) hx hb dX12_who_385 hl (k := 7) rfl (by rw [ev_123]; rfl) (by decide) rfl (fun ls hl => ?_)
                      refine lv_goto (tgt := 294) hx hb dX12_who_388 (by decide) ?_
                      exact ih_294 y5_294 y6_294 v_123 f_122 _ _ _ (hs.trans ((if_pos c_118).trans (spl_e ev_120 (spl_e ef_122 (spl_e ev_123 rfl))))) (by omega) hm_276 hm_284 hy0_294 hy1_294 hy2_294 hy3_294 hy4_294 ⟨by omega, by omega⟩ hI hF hP hS (lv_sub hl [2, 3, 4, 5, 6, 7, 0] rfl)
                    · skip
                      have c_119 : r_116.toInt ≠ 0 := (by first | exact (cm_ne1 ti_0 c) | (have z := bn_ne c; have k1 : (0 : Int32).toInt = 0 := ti_0; omega))
                      refine lv_aload_n hx hb dX12_who_360 rfl (lv_at hl 1 rfl) ?_
                      refine sl_gM_0_37_12 hx hb hts hown hK hP dX12_who_361 ?_
                      refine lv_bipush (v := 61) hx hb dX12_who_364 bp_61 ?_
                      refine lv_iload hx hb dX12_who_366 (lv_at hl 5 rfl) ?_
                      refine lv_iconst (v := 1) hx hb dX12_who_368 ic_1 ?_
                      refine lv_iadd hx hb dX12_who_369 ?_
                      refine lv_topi (fun v_125 ev_125 => ?_)
                      have q_126 : v_125.toInt = y5_294.toInt + 1 := by rw [ev_125]; first | exact cm_add ti_1 (by omega) (by omega) | (have k1 : (1 : Int32).toInt = 1 := ti_1; exact (bn_addI (by omega) (by omega)).trans (by omega))
                      refine lv_imul hx hb dX12_who_370 ?_
                      refine lv_topi (fun v_127 ev_127 => ?_)
                      have q_128 : v_127.toInt = 61 * v_125.toInt := by rw [ev_127]; exact bn_mulJ (by decide) (by omega) (by omega)
                      refine lv_iload hx hb dX12_who_371 (lv_at hl 0 rfl) ?_
                      refine lv_iadd hx hb dX12_who_373 ?_
                      refine lv_topi (fun v_129 ev_129 => ?_)
                      have q_130 : v_129.toInt = v_127.toInt + r_98.toInt := by rw [ev_129]; first | exact bn_addI (by omega) (by omega) | exact (bn_addI (by omega) (by omega)).trans (by omega)
                      refine sg_zald hx hb hK hP 18 (by decide) 2 rfl rfl (i := v_129) (vp_in_iff.mpr ⟨by omega, by omega⟩) dX12_who_374 ?_
                      refine lv_topi (fun v_131 ev_131 => ?_)
                      replace hs := hs.trans ((if_neg c_119).trans (spl_e ev_125 (spl_e ev_127 (spl_e ev_129 (spl_e ev_131 rfl)))))
                      have q_132 : 0 ≤ v_131.toInt ∧ v_131.toInt ≤ 1 := by rw [ev_131]; exact hI 18 _
                      refine lv_if_eq (tgt := 382) hx hb dX12_who_375 (by decide) (fun c => ?_) (fun c => ?_)
                      · skip
                        have c_133 : v_131.toInt = 0 := (by first | exact (cm_eq1 ti_0 c) | (have z := Int32.toInt_inj.mpr c; have k1 : (0 : Int32).toInt = 0 := ti_0; omega))
                        refine lv_iconst (v := 0) hx hb dX12_who_382 ic_0 ?_
                        refine lv_ior hx hb dX12_who_383 ?_
                        refine lv_topi (fun v_135 ev_135 => ?_)
                        have q_136 : 0 ≤ v_135.toInt ∧ v_135.toInt ≤ 1 := by rw [ev_135]; have k1 : (0 : Int32).toInt = 0 := ti_0; exact bn_or1 (x := v_104) (y := 0) (by omega) (by omega) (by omega) (by omega)
                        refine sg_zast hx hb hh hA hK hP hS 18 (by decide) 2 (fun _ => rfl) rfl (i := v_102) (x := v_135) (vp_in_iff.mpr ⟨by omega, by omega⟩) (bn_nar (by omega) (by omega)) dX12_who_384 (fun f_137 H locs ef_137 hP hS => ?_)
                        have hI : sgI loM hiM f_137 := by rw [ef_137]; exact sgI.put hI 18 v_102.toNatClampNeg (show 0 ≤ (v_135 : Int32).toInt ∧ (v_135 : Int32).toInt ≤ 1 from q_136)
                        have hF : sgK WkX12_who f f_137 := sgK.put hF ef_137 (by rfl)
                        obtain ⟨v_138, ev_138⟩ : ∃ z : Int32, z = y7_294 + 1 := ⟨_, rfl⟩
                        have q_139 : v_138.toInt = y7_294.toInt + 1 := by rw [ev_138]; exact (bn_addc y7_294 1 (by decide) (by omega) (by omega))
                        refine lv_iinc (v := v_138) (lv' := [(7, .int v_138), (8, .int r_98), (0, .ref (h 0)), (1, .int x0), (2, .int x1), (3, .int x2), (5, .int y5_294), (6, .int y6_294)]) hx hb dX12_who_385 hl (k := 7) rfl (by rw [ev_138]; rfl) (by decide) rfl (fun ls hl => ?_)
                        refine lv_goto (tgt := 294) hx hb dX12_who_388 (by decide) ?_
                        exact ih_294 y5_294 y6_294 v_138 f_137 _ _ _ (hs.trans ((if_pos c_133).trans (spl_e ev_135 (spl_e ef_137 (spl_e ev_138 rfl))))) (by omega) hm_276 hm_284 hy0_294 hy1_294 hy2_294 hy3_294 hy4_294 ⟨by omega, by omega⟩ hI hF hP hS (lv_sub hl [2, 3, 4, 5, 6, 7, 0] rfl)
                      · skip
                        have c_134 : v_131.toInt ≠ 0 := (by first | exact (cm_ne1 ti_0 c) | (have z := bn_ne c; have k1 : (0 : Int32).toInt = 0 := ti_0; omega))
                        refine lv_iconst (v := 1) hx hb dX12_who_378 ic_1 ?_
                        refine lv_goto (tgt := 383) hx hb dX12_who_379 (by decide) ?_
                        refine lv_ior hx hb dX12_who_383 ?_
                        refine lv_topi (fun v_140 ev_140 => ?_)
                        have q_141 : 0 ≤ v_140.toInt ∧ v_140.toInt ≤ 1 := by rw [ev_140]; have k1 : (1 : Int32).toInt = 1 := ti_1; exact bn_or1 (x := v_104) (y := 1) (by omega) (by omega) (by omega) (by omega)
                        refine sg_zast hx hb hh hA hK hP hS 18 (by decide) 2 (fun _ => rfl) rfl (i := v_102) (x := v_140) (vp_in_iff.mpr ⟨by omega, by omega⟩) (bn_nar (by omega) (by omega)) dX12_who_384 (fun f_142 H locs ef_142 hP hS => ?_)
                        have hI : sgI loM hiM f_142 := by rw [ef_142]; exact sgI.put hI 18 v_102.toNatClampNeg (show 0 ≤ (v_140 : Int32).toInt ∧ (v_140 : Int32).toInt ≤ 1 from q_141)
                        have hF : sgK WkX12_who f f_142 := sgK.put hF ef_142 (by rfl)
                        obtain ⟨v_143, ev_143⟩ : ∃ z : Int32, z = y7_294 + 1 := ⟨_, rfl⟩
                        have q_144 : v_143.toInt = y7_294.toInt + 1 := by rw [ev_143]; exact (bn_addc y7_294 1 (by decide) (by omega) (by omega))
                        refine lv_iinc (v := v_143) (lv' := [(7, .int v_143), (8, .int r_98), (0, .ref (h 0)), (1, .int x0), (2, .int x1), (3, .int x2), (5, .int y5_294), (6, .int y6_294)]) hx hb dX12_who_385 hl (k := 7) rfl (by rw [ev_143]; rfl) (by decide) rfl (fun ls hl => ?_)
                        refine lv_goto (tgt := 294) hx hb dX12_who_388 (by decide) ?_
                        exact ih_294 y5_294 y6_294 v_143 f_142 _ _ _ (hs.trans ((if_neg c_134).trans (spl_e ev_140 (spl_e ef_142 (spl_e ev_143 rfl))))) (by omega) hm_276 hm_284 hy0_294 hy1_294 hy2_294 hy3_294 hy4_294 ⟨by omega, by omega⟩ hI hF hP hS (lv_sub hl [2, 3, 4, 5, 6, 7, 0] rfl)
          intro y5_284 y6_284 fp_284 H locs ls hs hm_284 hm_276 hy0_284 hy1_284 hy2_284 hy3_284 hy4_284 hI hF hP hS hl
          have hs : sp = sX12_who_h284 (sX12_who_l276 x0 x1 x2 n_276) x0 x1 x2 (sX12_who_l284 (sX12_who_l276 x0 x1 x2 n_276) x0 x1 x2 n_284) y5_284 y6_284 fp_284 L := hs
          refine lv_iload hx hb dX12_who_284 (lv_at hl 5 rfl) ?_
          refine lv_bipush (v := 61) hx hb dX12_who_286 bp_61 ?_
          refine lv_icmp_ge (tgt := 397) hx hb dX12_who_288 (by decide) (fun c => ?_) (fun c => ?_)
          · skip
            have c_145 : 61 ≤ y6_284.toInt := (by first | exact (cm_le0 ti_61 c) | (have z := bn_le c; have k1 : (61 : Int32).toInt = 61 := ti_61; omega))
            obtain ⟨v_147, ev_147⟩ : ∃ z : Int32, z = y5_284 + (-1) := ⟨_, rfl⟩
            have q_148 : v_147.toInt = y5_284.toInt + (-1) := by rw [ev_147]; exact (bn_addc y5_284 (-1) (by decide) (by omega) (by omega))
            refine lv_iinc (v := v_147) (lv' := [(5, .int v_147), (0, .ref (h 0)), (1, .int x0), (2, .int x1), (3, .int x2), (6, .int y6_284)]) hx hb dX12_who_397 hl (k := 4) rfl (by rw [ev_147]; rfl) (by decide) rfl (fun ls hl => ?_)
            refine lv_goto (tgt := 276) hx hb dX12_who_400 (by decide) ?_
            exact ih_276 v_147 fp_284 _ _ _ (hs.trans (((if_neg (Int.not_lt.mpr c_145)).trans (spl_e ev_147 rfl)))) (by omega) hy0_284 hy1_284 hy2_284 ⟨by omega, by omega⟩ hI hF hP hS (lv_sub hl [1, 2, 3, 4, 0] rfl)
          · skip
            have c_146 : y6_284.toInt < 61 := (by first | exact (cm_nle0 ti_61 c) | (have z := bn_nle c; have k1 : (61 : Int32).toInt = 61 := ti_61; omega))
            refine lv_iconst (v := 0) hx hb dX12_who_291 ic_0 ?_
            refine lv_istore (lv' := [(7, .int 0), (0, .ref (h 0)), (1, .int x0), (2, .int x1), (3, .int x2), (5, .int y5_284), (6, .int y6_284)]) hx hb dX12_who_292 hl (by decide) rfl (fun ls hl => ?_)
            exact loop_294 10 y5_284 y6_284 0 fp_284 _ _ _ (hs.trans (((if_pos c_146).trans rfl))) (by have kc2 : (0 : Int32).toInt = 0 := ti_0; omega) (by have kc2 : (0 : Int32).toInt = 0 := ti_0; omega) (by have kc2 : (0 : Int32).toInt = 0 := ti_0; omega) hy0_284 hy1_284 hy2_284 hy3_284 ⟨by omega, by omega⟩ (by decide) hI hF hP hS (lv_sub hl [1, 2, 3, 4, 5, 6, 0] rfl)
      intro y5_276 fp_276 H locs ls hs hm_276 hy0_276 hy1_276 hy2_276 hy3_276 hI hF hP hS hl
      have hs : sp = sX12_who_h276 x0 x1 x2 (sX12_who_l276 x0 x1 x2 n_276) y5_276 fp_276 L := hs
      refine lv_iload hx hb dX12_who_276 (lv_at hl 4 rfl) ?_
      refine lv_if_lt (tgt := 403) hx hb dX12_who_278 (by decide) (fun c => ?_) (fun c => ?_)
      · skip
        have c_149 : y5_276.toInt < 0 := (by first | exact (cm_lt1 ti_0 c) | (have z := bn_lt c; have k1 : (0 : Int32).toInt = 0 := ti_0; omega))
        refine lv_iconst (v := 0) hx hb dX12_who_403 ic_0 ?_
        refine lv_istore (lv' := [(5, .int 0), (0, .ref (h 0)), (1, .int x0), (2, .int x1), (3, .int x2)]) hx hb dX12_who_404 hl (by decide) rfl (fun ls hl => ?_)
        refine lv_iconst (v := 0) hx hb dX12_who_406 ic_0 ?_
        refine lv_istore (lv' := [(6, .int 0), (5, .int 0), (0, .ref (h 0)), (1, .int x0), (2, .int x1), (3, .int x2)]) hx hb dX12_who_407 hl (by decide) rfl (fun ls hl => ?_)
        exact loop_409 62 0 0 fp_276 _ _ _ (hs.trans (((if_pos c_149).trans rfl))) (by have kc0 : (0 : Int32).toInt = 0 := ti_0; have kc1 : (0 : Int32).toInt = 0 := ti_0; omega) hy0_276 hy1_276 hy2_276 (by decide) hI hF hP hS (lv_sub hl [2, 3, 4, 5, 1, 0] rfl)
      · skip
        have c_150 : 0 ≤ y5_276.toInt := (by first | exact (cm_nlt1 ti_0 c) | (have z := bn_nlt c; have k1 : (0 : Int32).toInt = 0 := ti_0; omega))
        refine lv_iconst (v := 0) hx hb dX12_who_281 ic_0 ?_
        refine lv_istore (lv' := [(6, .int 0), (0, .ref (h 0)), (1, .int x0), (2, .int x1), (3, .int x2), (5, .int y5_276)]) hx hb dX12_who_282 hl (by decide) rfl (fun ls hl => ?_)
        exact loop_284 62 y5_276 0 fp_276 _ _ _ (hs.trans (((if_neg (Int.not_lt.mpr c_150)).trans rfl))) (by have kc1 : (0 : Int32).toInt = 0 := ti_0; omega) (by have kc1 : (0 : Int32).toInt = 0 := ti_0; omega) hy0_276 hy1_276 hy2_276 ⟨by omega, by omega⟩ (by decide) hI hF hP hS (lv_sub hl [1, 2, 3, 4, 5, 0] rfl)
  have loop_141 : ∀ (n_141 : Nat) (y4_141 : Int32) (y5_141 : Int32) (fp_141 : sg_F) (H : Heap) (locs : List Loc) (ls : Array Slot), sp = sX12_who_l141 x0 x1 x2 n_141 y4_141 y5_141 fp_141 L → 12 - y5_141.toInt < (n_141 : Int) → 0 ≤ x0.toInt ∧ x0.toInt ≤ 5 → 0 ≤ x1.toInt ∧ x1.toInt ≤ 2 → 0 ≤ x2.toInt ∧ x2.toInt ≤ 11 → 1 ≤ y4_141.toInt ∧ y4_141.toInt ≤ 12 → 0 ≤ y5_141.toInt ∧ y5_141.toInt ≤ 12 → sgI loM hiM fp_141 → sgK WkX12_who f fp_141 → va_P D vwCl (sgw 26 h (eM ca h) fp_141 L Q) H → va_S (sgA 26 h s.heap.size) s.heap H locs → lv_has ls 10 [(0, .ref (h 0)), (1, .int x0), (2, .int x1), (3, .int x2), (4, .int y4_141), (5, .int y5_141)] → W p l e ({ frames := 3, cells := 0, slots := 0, locals := 66 }) s m ([.ref (h 0), .int x0, .int x1, .int x2] : List Value).toArray below meth cd H locs 0 0 Qz (F0 m 141 ls []) := by
    intro n_141
    induction n_141 with
    | zero => intro y4_141 y5_141 fp_141 H locs ls hs hm_141 hy0_141 hy1_141 hy2_141 hy3_141 hy4_141 hI hF hP hS hl; exact absurd hm_141 (by omega)
    | succ n_141 ih_141 =>
      have loop_151 : ∀ (n_151 : Nat) (y4_151 : Int32) (y5_151 : Int32) (y6_151 : Int32) (fp_151 : sg_F) (H : Heap) (locs : List Loc) (ls : Array Slot), sp = sX12_who_l151 (sX12_who_l141 x0 x1 x2 n_141) x0 x1 x2 n_151 y4_151 y5_151 y6_151 fp_151 L → 61 - y6_151.toInt < (n_151 : Int) → 12 - y5_151.toInt < ((n_141 + 1 : Nat) : Int) → 0 ≤ x0.toInt ∧ x0.toInt ≤ 5 → 0 ≤ x1.toInt ∧ x1.toInt ≤ 2 → 0 ≤ x2.toInt ∧ x2.toInt ≤ 11 → 1 ≤ y4_151.toInt ∧ y4_151.toInt ≤ 12 → 0 ≤ y5_151.toInt ∧ y5_151.toInt ≤ 11 → 0 ≤ y6_151.toInt ∧ y6_151.toInt ≤ 61 → sgI loM hiM fp_151 → sgK WkX12_who f fp_151 → va_P D vwCl (sgw 26 h (eM ca h) fp_151 L Q) H → va_S (sgA 26 h s.heap.size) s.heap H locs → lv_has ls 10 [(0, .ref (h 0)), (1, .int x0), (2, .int x1), (3, .int x2), (4, .int y4_151), (5, .int y5_151), (6, .int y6_151)] → W p l e ({ frames := 3, cells := 0, slots := 0, locals := 66 }) s m ([.ref (h 0), .int x0, .int x1, .int x2] : List Value).toArray below meth cd H locs 0 0 Qz (F0 m 151 ls []) := by
        intro n_151
        induction n_151 with
        | zero => intro y4_151 y5_151 y6_151 fp_151 H locs ls hs hm_151 hm_141 hy0_151 hy1_151 hy2_151 hy3_151 hy4_151 hy5_151 hI hF hP hS hl; exact absurd hm_151 (by omega)
        | succ n_151 ih_151 =>
          have blk_258 : ∀ (y4_258 : Int32) (y5_258 : Int32) (y6_258 : Int32) (fp_258 : sg_F) (H : Heap) (locs : List Loc) (ls : Array Slot), sp = sX12_who_b258 (sX12_who_l141 x0 x1 x2 n_141) (sX12_who_l151 (sX12_who_l141 x0 x1 x2 n_141) x0 x1 x2 n_151) x0 x1 x2 y4_258 y5_258 y6_258 fp_258 L → 12 - y5_258.toInt < ((n_141 + 1 : Nat) : Int) → 61 - y6_258.toInt < ((n_151 + 1 : Nat) : Int) → 0 ≤ x0.toInt ∧ x0.toInt ≤ 5 → 0 ≤ x1.toInt ∧ x1.toInt ≤ 2 → 0 ≤ x2.toInt ∧ x2.toInt ≤ 11 → 1 ≤ y4_258.toInt ∧ y4_258.toInt ≤ 12 → 0 ≤ y5_258.toInt ∧ y5_258.toInt ≤ 11 → 0 ≤ y6_258.toInt ∧ y6_258.toInt ≤ 60 → sgI loM hiM fp_258 → sgK WkX12_who f fp_258 → va_P D vwCl (sgw 26 h (eM ca h) fp_258 L Q) H → va_S (sgA 26 h s.heap.size) s.heap H locs → lv_has ls 10 [(0, .ref (h 0)), (1, .int x0), (2, .int x1), (3, .int x2), (4, .int y4_258), (5, .int y5_258), (6, .int y6_258)] → W p l e ({ frames := 3, cells := 0, slots := 0, locals := 66 }) s m ([.ref (h 0), .int x0, .int x1, .int x2] : List Value).toArray below meth cd H locs 0 0 Qz (F0 m 258 ls []) := by
            intro y4_258 y5_258 y6_258 fp_258 H locs ls hs hm_141 hm_151 hy0_258 hy1_258 hy2_258 hy3_258 hy4_258 hy5_258 hI hF hP hS hl
            obtain ⟨v_151, ev_151⟩ : ∃ z : Int32, z = y6_258 + 1 := ⟨_, rfl⟩
            have q_152 : v_151.toInt = y6_258.toInt + 1 := by rw [ev_151]; exact (bn_addc y6_258 1 (by decide) (by omega) (by omega))
            refine lv_iinc (v := v_151) (lv' := [(6, .int v_151), (0, .ref (h 0)), (1, .int x0), (2, .int x1), (3, .int x2), (4, .int y4_258), (5, .int y5_258)]) hx hb dX12_who_258 hl (k := 6) rfl (by rw [ev_151]; rfl) (by decide) rfl (fun ls hl => ?_)
            refine lv_goto (tgt := 151) hx hb dX12_who_261 (by decide) ?_
            exact ih_151 y4_258 y5_258 v_151 fp_258 _ _ _ (hs.trans ((spl_e ev_151 rfl))) (by omega) hm_141 hy0_258 hy1_258 hy2_258 hy3_258 hy4_258 ⟨by omega, by omega⟩ hI hF hP hS (lv_sub hl [1, 2, 3, 4, 5, 6, 0] rfl)
          have loop_161 : ∀ (n_161 : Nat) (y4_161 : Int32) (y5_161 : Int32) (y6_161 : Int32) (y7_161 : Int32) (fp_161 : sg_F) (H : Heap) (locs : List Loc) (ls : Array Slot), sp = sX12_who_l161 (sX12_who_l141 x0 x1 x2 n_141) (sX12_who_l151 (sX12_who_l141 x0 x1 x2 n_141) x0 x1 x2 n_151) x0 x1 x2 n_161 y4_161 y5_161 y6_161 y7_161 fp_161 L → 9 - y7_161.toInt < (n_161 : Int) → 12 - y5_161.toInt < ((n_141 + 1 : Nat) : Int) → 61 - y6_161.toInt < ((n_151 + 1 : Nat) : Int) → 0 ≤ x0.toInt ∧ x0.toInt ≤ 5 → 0 ≤ x1.toInt ∧ x1.toInt ≤ 2 → 0 ≤ x2.toInt ∧ x2.toInt ≤ 11 → 1 ≤ y4_161.toInt ∧ y4_161.toInt ≤ 12 → 0 ≤ y5_161.toInt ∧ y5_161.toInt ≤ 11 → 0 ≤ y6_161.toInt ∧ y6_161.toInt ≤ 60 → 0 ≤ y7_161.toInt ∧ y7_161.toInt ≤ 9 → sgI loM hiM fp_161 → sgK WkX12_who f fp_161 → va_P D vwCl (sgw 26 h (eM ca h) fp_161 L Q) H → va_S (sgA 26 h s.heap.size) s.heap H locs → lv_has ls 10 [(0, .ref (h 0)), (1, .int x0), (2, .int x1), (3, .int x2), (4, .int y4_161), (5, .int y5_161), (6, .int y6_161), (7, .int y7_161)] → W p l e ({ frames := 3, cells := 0, slots := 0, locals := 66 }) s m ([.ref (h 0), .int x0, .int x1, .int x2] : List Value).toArray below meth cd H locs 0 0 Qz (F0 m 161 ls []) := by
            intro n_161
            induction n_161 with
            | zero => intro y4_161 y5_161 y6_161 y7_161 fp_161 H locs ls hs hm_161 hm_141 hm_151 hy0_161 hy1_161 hy2_161 hy3_161 hy4_161 hy5_161 hy6_161 hI hF hP hS hl; exact absurd hm_161 (by omega)
            | succ n_161 ih_161 =>
              intro y4_161 y5_161 y6_161 y7_161 fp_161 H locs ls hs hm_161 hm_141 hm_151 hy0_161 hy1_161 hy2_161 hy3_161 hy4_161 hy5_161 hy6_161 hI hF hP hS hl
              have hs : sp = sX12_who_h161 (sX12_who_l141 x0 x1 x2 n_141) (sX12_who_l151 (sX12_who_l141 x0 x1 x2 n_141) x0 x1 x2 n_151) x0 x1 x2 (sX12_who_l161 (sX12_who_l141 x0 x1 x2 n_141) (sX12_who_l151 (sX12_who_l141 x0 x1 x2 n_141) x0 x1 x2 n_151) x0 x1 x2 n_161) y4_161 y5_161 y6_161 y7_161 fp_161 L := hs
              refine lv_iload hx hb dX12_who_161 (lv_at hl 7 rfl) ?_
              refine lv_bipush (v := 8) hx hb dX12_who_163 bp_8 ?_
              refine lv_icmp_gt (tgt := 258) hx hb dX12_who_165 (by decide) (fun c => ?_) (fun c => ?_)
              · skip
                have c_153 : 8 < y7_161.toInt := (by first | exact (cm_lt0 ti_8 c) | (have z := bn_lt c; have k1 : (8 : Int32).toInt = 8 := ti_8; omega))
                exact blk_258 y4_161 y5_161 y6_161 fp_161 _ _ _ (hs.trans (((if_pos c_153).trans rfl))) hm_141 hm_151 hy0_161 hy1_161 hy2_161 hy3_161 hy4_161 hy5_161 hI hF hP hS (lv_sub hl [0, 1, 2, 3, 4, 5, 6] rfl)
              · skip
                have c_154 : y7_161.toInt ≤ 8 := (by first | exact (cm_nlt0 ti_8 c) | (have z := bn_nlt c; have k1 : (8 : Int32).toInt = 8 := ti_8; omega))
                refine lv_aload_n hx hb dX12_who_168 rfl (lv_at hl 0 rfl) ?_
                refine sl_gM_0_36_12 hx hb hts hown hK hP dX12_who_169 ?_
                refine lv_bipush (v := 61) hx hb dX12_who_172 bp_61 ?_
                refine lv_iload hx hb dX12_who_174 (lv_at hl 5 rfl) ?_
                refine lv_imul hx hb dX12_who_176 ?_
                refine lv_topi (fun v_155 ev_155 => ?_)
                have q_156 : v_155.toInt = 61 * y5_161.toInt := by rw [ev_155]; exact bn_mulJ (by decide) (by omega) (by omega)
                refine lv_iload hx hb dX12_who_177 (lv_at hl 6 rfl) ?_
                refine lv_iadd hx hb dX12_who_179 ?_
                refine lv_topi (fun v_157 ev_157 => ?_)
                have q_158 : v_157.toInt = v_155.toInt + y6_161.toInt := by rw [ev_157]; first | exact bn_addI (by omega) (by omega) | exact (bn_addI (by omega) (by omega)).trans (by omega)
                refine sg_zald hx hb hK hP 17 (by decide) 2 rfl rfl (i := v_157) (vp_in_iff.mpr ⟨by omega, by omega⟩) dX12_who_180 ?_
                refine lv_topi (fun v_159 ev_159 => ?_)
                replace hs := hs.trans ((if_neg (Int.not_lt.mpr c_154)).trans (spl_e ev_155 (spl_e ev_157 (spl_e ev_159 rfl))))
                have q_160 : 0 ≤ v_159.toInt ∧ v_159.toInt ≤ 1 := by rw [ev_159]; exact hI 17 _
                refine lv_if_eq (tgt := 258) hx hb dX12_who_181 (by decide) (fun c => ?_) (fun c => ?_)
                · skip
                  have c_161 : v_159.toInt = 0 := (by first | exact (cm_eq1 ti_0 c) | (have z := Int32.toInt_inj.mpr c; have k1 : (0 : Int32).toInt = 0 := ti_0; omega))
                  exact blk_258 y4_161 y5_161 y6_161 fp_161 _ _ _ (hs.trans ((if_pos c_161).trans rfl)) hm_141 hm_151 hy0_161 hy1_161 hy2_161 hy3_161 hy4_161 hy5_161 hI hF hP hS (lv_sub hl [0, 1, 2, 3, 4, 5, 6] rfl)
                · skip
                  have c_162 : v_159.toInt ≠ 0 := (by first | exact (cm_ne1 ti_0 c) | (have z := bn_ne c; have k1 : (0 : Int32).toInt = 0 := ti_0; omega))
                  refine lv_aload_n hx hb dX12_who_184 rfl (lv_at hl 0 rfl) ?_
                  refine lv_iload hx hb dX12_who_185 (lv_at hl 7 rfl) ?_
                  refine sg_calli (va_runV (As := [.int y7_161]) (rest := []) ⟨hx, hb, hml, hown, hts⟩ (kX12_may1 l D ca za h hh fp_161 L Q hI y7_161 ⟨by omega, by omega⟩ H.size) (sl_c12_may1_0_0_0_0_12 hts ⟨Nat.le_of_ble_eq_true rfl, Nat.le_of_ble_eq_true rfl⟩) (sl_vM_0 hA hK hP hS hZ) rfl rfl hl.1 rfl (lv_room (Nat.le_of_ble_eq_true rfl)) dX12_who_187 ⟨Nat.le_refl _, Nat.le_refl _⟩) hA hS (fun r_166 f_163 L_164 Q_165 H locs hq hP hS => ?_)
                  obtain ⟨⟨ef9, eL9, eQ9⟩, hq, u_167⟩ := hq
                  replace hs := hs.trans ((if_neg c_162).trans (spl_e u_167 rfl))
                  rw [ef9, eL9, eQ9] at hP; clear ef9 eL9 eQ9
                  refine lv_if_eq (tgt := 205) hx hb dX12_who_190 (by decide) (fun c => ?_) (fun c => ?_)
                  · skip
                    have c_168 : r_166.toInt = 0 := (by first | exact (cm_eq1 ti_0 c) | (have z := Int32.toInt_inj.mpr c; have k1 : (0 : Int32).toInt = 0 := ti_0; omega))
                    refine lv_iconst (v := 0) hx hb dX12_who_205 ic_0 ?_
                    refine lv_istore (lv' := [(8, .int 0), (0, .ref (h 0)), (1, .int x0), (2, .int x1), (3, .int x2), (4, .int y4_161), (5, .int y5_161), (6, .int y6_161), (7, .int y7_161)]) hx hb dX12_who_206 hl (by decide) rfl (fun ls hl => ?_)
                    refine lv_aload_n hx hb dX12_who_208 rfl (lv_at hl 1 rfl) ?_
                    refine sl_gM_0_36_12 hx hb hts hown hK hP dX12_who_209 ?_
                    refine lv_bipush (v := 61) hx hb dX12_who_212 bp_61 ?_
                    refine lv_iload hx hb dX12_who_214 (lv_at hl 6 rfl) ?_
                    refine lv_iconst (v := 1) hx hb dX12_who_216 ic_1 ?_
                    refine lv_iadd hx hb dX12_who_217 ?_
                    refine lv_topi (fun v_170 ev_170 => ?_)
                    have q_171 : v_170.toInt = y5_161.toInt + 1 := by rw [ev_170]; first | exact cm_add ti_1 (by omega) (by omega) | (have k1 : (1 : Int32).toInt = 1 := ti_1; exact (bn_addI (by omega) (by omega)).trans (by omega))
                    refine lv_imul hx hb dX12_who_218 ?_
                    refine lv_topi (fun v_172 ev_172 => ?_)
                    have q_173 : v_172.toInt = 61 * v_170.toInt := by rw [ev_172]; exact bn_mulJ (by decide) (by omega) (by omega)
                    refine lv_iload hx hb dX12_who_219 (lv_at hl 0 rfl) ?_
                    refine lv_iadd hx hb dX12_who_221 ?_
                    refine W.eq (g2 := F0 m 222 ls [.int v_172, .ref (h 17)]) (by rw [Int32.add_zero]) ?_
                    refine lv_dup2_11 hx hb dX12_who_222 rfl rfl ?_
                    refine sg_zald hx hb hK hP 17 (by decide) 2 rfl rfl (i := v_172) (vp_in_iff.mpr ⟨by omega, by omega⟩) dX12_who_223 ?_
                    refine lv_topi (fun v_174 ev_174 => ?_)
                    have q_175 : 0 ≤ v_174.toInt ∧ v_174.toInt ≤ 1 := by rw [ev_174]; exact hI 17 _
                    refine lv_aload_n hx hb dX12_who_224 rfl (lv_at hl 1 rfl) ?_
                    refine lv_iload hx hb dX12_who_225 (lv_at hl 8 rfl) ?_
                    refine sg_calli (va_runV (As := [.int y7_161]) (rest := [.int v_174, .int v_172, .ref (h 17)]) ⟨hx, hb, hml, hown, hts⟩ (kX12_may1 l D ca za h hh fp_161 L Q hI y7_161 ⟨by omega, by omega⟩ H.size) (sl_c12_may1_0_0_0_0_12 hts ⟨Nat.le_of_ble_eq_true rfl, Nat.le_of_ble_eq_true rfl⟩) (sl_vM_0 hA hK hP hS hZ) rfl rfl hl.1 rfl (lv_room (Nat.le_of_ble_eq_true rfl)) dX12_who_227 ⟨Nat.le_refl _, Nat.le_refl _⟩) hA hS (fun r_179 f_176 L_177 Q_178 H locs hq hP hS => ?_)
                    obtain ⟨⟨ef9, eL9, eQ9⟩, hq, u_180⟩ := hq
                    rw [ef9, eL9, eQ9] at hP; clear ef9 eL9 eQ9
                    rw [show r_179 = r_166 from u_180.trans u_167.symm]
                    refine lv_if_eq (tgt := 249) hx hb dX12_who_230 (by decide) (fun c => ?_) (fun c => ?_)
                    · skip
                      have c_181 : r_166.toInt = 0 := (by first | exact (cm_eq1 ti_0 c) | (have z := Int32.toInt_inj.mpr c; have k1 : (0 : Int32).toInt = 0 := ti_0; omega))
                      refine lv_iconst (v := 0) hx hb dX12_who_249 ic_0 ?_
                      refine lv_ior hx hb dX12_who_250 ?_
                      refine lv_topi (fun v_183 ev_183 => ?_)
                      have q_184 : 0 ≤ v_183.toInt ∧ v_183.toInt ≤ 1 := by rw [ev_183]; have k1 : (0 : Int32).toInt = 0 := ti_0; exact bn_or1 (x := v_174) (y := 0) (by omega) (by omega) (by omega) (by omega)
                      refine sg_zast hx hb hh hA hK hP hS 17 (by decide) 2 (fun _ => rfl) rfl (i := v_172) (x := v_183) (vp_in_iff.mpr ⟨by omega, by omega⟩) (bn_nar (by omega) (by omega)) dX12_who_251 (fun f_185 H locs ef_185 hP hS => ?_)
                      have hI : sgI loM hiM f_185 := by rw [ef_185]; exact sgI.put hI 17 v_172.toNatClampNeg (show 0 ≤ (v_183 : Int32).toInt ∧ (v_183 : Int32).toInt ≤ 1 from q_184)
                      have hF : sgK WkX12_who f f_185 := sgK.put hF ef_185 (by rfl)
                      obtain ⟨v_186, ev_186⟩ : ∃ z : Int32, z = y7_161 + 1 := ⟨_, rfl⟩
                      have q_187 : v_186.toInt = y7_161.toInt + 1 := by rw [ev_186]; exact (bn_addc y7_161 1 (by decide) (by omega) (by omega))
                      refine lv_iinc (v := v_186) (lv' := [(7, .int v_186), (8, .int 0), (0, .ref (h 0)), (1, .int x0), (2, .int x1), (3, .int x2), (4, .int y4_161), (5, .int y5_161), (6, .int y6_161)]) hx hb dX12_who_252 hl (k := 8) rfl (by rw [ev_186]; rfl) (by decide) rfl (fun ls hl => ?_)
                      refine lv_goto (tgt := 161) hx hb dX12_who_255 (by decide) ?_
                      exact ih_161 y4_161 y5_161 y6_161 v_186 f_185 _ _ _ (hs.trans ((if_pos c_168).trans (spl_e ev_170 (spl_e ev_172 (spl_e ev_174 (spl_e ev_183 (spl_e ef_185 (spl_e ev_186 rfl)))))))) (by omega) hm_141 hm_151 hy0_161 hy1_161 hy2_161 hy3_161 hy4_161 hy5_161 ⟨by omega, by omega⟩ hI hF hP hS (lv_sub hl [2, 3, 4, 5, 6, 7, 8, 0] rfl)
                    · skip
                      exfalso; have c_182 : r_166.toInt ≠ 0 := (by first | exact (cm_ne1 ti_0 c) | (have z := bn_ne c; have k1 : (0 : Int32).toInt = 0 := ti_0; omega)); first | exact absurd (by assumption) c_182 | omega
                  · skip
                    have c_169 : r_166.toInt ≠ 0 := (by first | exact (cm_ne1 ti_0 c) | (have z := bn_ne c; have k1 : (0 : Int32).toInt = 0 := ti_0; omega))
                    refine lv_aload_n hx hb dX12_who_193 rfl (lv_at hl 0 rfl) ?_
                    refine lv_iload_n hx hb dX12_who_194 rfl (lv_at hl 2 rfl) ?_
                    refine lv_iload hx hb dX12_who_195 (lv_at hl 6 rfl) ?_
                    refine lv_iload hx hb dX12_who_197 (lv_at hl 7 rfl) ?_
                    refine sg_calli (va_runV (As := [.int x1, .int y6_161, .int y7_161]) (rest := []) ⟨hx, hb, hml, hown, hts⟩ (kX12_standsBy l D ca za h hh fp_161 L Q hI x1 y6_161 y7_161 hy1_161 hy5_161 ⟨by omega, by omega⟩ H.size) (sl_c12_standsBy_1_0_0_23_12 hts ⟨Nat.le_of_ble_eq_true rfl, Nat.le_of_ble_eq_true rfl⟩) (sl_vM_0 hA hK hP hS hZ) rfl rfl hl.1 rfl (lv_room (Nat.le_of_ble_eq_true rfl)) dX12_who_199 ⟨Nat.le_refl _, Nat.le_refl _⟩) hA hS (fun r_191 f_188 L_189 Q_190 H locs hq hP hS => ?_)
                    obtain ⟨⟨ef9, eL9, eQ9⟩, hq, u_192⟩ := hq
                    rw [ef9, eL9, eQ9] at hP; clear ef9 eL9 eQ9
                    refine lv_goto (tgt := 206) hx hb dX12_who_202 (by decide) ?_
                    refine lv_istore (lv' := [(8, .int r_191), (0, .ref (h 0)), (1, .int x0), (2, .int x1), (3, .int x2), (4, .int y4_161), (5, .int y5_161), (6, .int y6_161), (7, .int y7_161)]) hx hb dX12_who_206 hl (by decide) rfl (fun ls hl => ?_)
                    refine lv_aload_n hx hb dX12_who_208 rfl (lv_at hl 1 rfl) ?_
                    refine sl_gM_0_36_12 hx hb hts hown hK hP dX12_who_209 ?_
                    refine lv_bipush (v := 61) hx hb dX12_who_212 bp_61 ?_
                    refine lv_iload hx hb dX12_who_214 (lv_at hl 6 rfl) ?_
                    refine lv_iconst (v := 1) hx hb dX12_who_216 ic_1 ?_
                    refine lv_iadd hx hb dX12_who_217 ?_
                    refine lv_topi (fun v_193 ev_193 => ?_)
                    have q_194 : v_193.toInt = y5_161.toInt + 1 := by rw [ev_193]; first | exact cm_add ti_1 (by omega) (by omega) | (have k1 : (1 : Int32).toInt = 1 := ti_1; exact (bn_addI (by omega) (by omega)).trans (by omega))
                    refine lv_imul hx hb dX12_who_218 ?_
                    refine lv_topi (fun v_195 ev_195 => ?_)
                    have q_196 : v_195.toInt = 61 * v_193.toInt := by rw [ev_195]; exact bn_mulJ (by decide) (by omega) (by omega)
                    refine lv_iload hx hb dX12_who_219 (lv_at hl 0 rfl) ?_
                    refine lv_iadd hx hb dX12_who_221 ?_
                    refine lv_topi (fun v_197 ev_197 => ?_)
                    have q_198 : v_197.toInt = v_195.toInt + r_191.toInt := by rw [ev_197]; first | exact bn_addI (by omega) (by omega) | exact (bn_addI (by omega) (by omega)).trans (by omega)
                    refine lv_dup2_11 hx hb dX12_who_222 rfl rfl ?_
                    refine sg_zald hx hb hK hP 17 (by decide) 2 rfl rfl (i := v_197) (vp_in_iff.mpr ⟨by omega, by omega⟩) dX12_who_223 ?_
                    refine lv_topi (fun v_199 ev_199 => ?_)
                    have q_200 : 0 ≤ v_199.toInt ∧ v_199.toInt ≤ 1 := by rw [ev_199]; exact hI 17 _
                    refine lv_aload_n hx hb dX12_who_224 rfl (lv_at hl 1 rfl) ?_
                    refine lv_iload hx hb dX12_who_225 (lv_at hl 8 rfl) ?_
                    refine sg_calli (va_runV (As := [.int y7_161]) (rest := [.int v_199, .int v_197, .ref (h 17)]) ⟨hx, hb, hml, hown, hts⟩ (kX12_may1 l D ca za h hh fp_161 L Q hI y7_161 ⟨by omega, by omega⟩ H.size) (sl_c12_may1_0_0_0_0_12 hts ⟨Nat.le_of_ble_eq_true rfl, Nat.le_of_ble_eq_true rfl⟩) (sl_vM_0 hA hK hP hS hZ) rfl rfl hl.1 rfl (lv_room (Nat.le_of_ble_eq_true rfl)) dX12_who_227 ⟨Nat.le_refl _, Nat.le_refl _⟩) hA hS (fun r_204 f_201 L_202 Q_203 H locs hq hP hS => ?_)
                    obtain ⟨⟨ef9, eL9, eQ9⟩, hq, u_205⟩ := hq
                    rw [ef9, eL9, eQ9] at hP; clear ef9 eL9 eQ9
                    rw [show r_204 = r_166 from u_205.trans u_167.symm]
                    refine lv_if_eq (tgt := 249) hx hb dX12_who_230 (by decide) (fun c => ?_) (fun c => ?_)
                    · skip
                      exfalso; have c_206 : r_166.toInt = 0 := (by first | exact (cm_eq1 ti_0 c) | (have z := Int32.toInt_inj.mpr c; have k1 : (0 : Int32).toInt = 0 := ti_0; omega)); first | exact absurd c_206 (by assumption) | omega
                    · skip
                      have c_207 : r_166.toInt ≠ 0 := (by first | exact (cm_ne1 ti_0 c) | (have z := bn_ne c; have k1 : (0 : Int32).toInt = 0 := ti_0; omega))
                      refine lv_aload_n hx hb dX12_who_233 rfl (lv_at hl 1 rfl) ?_
                      refine lv_iload_n hx hb dX12_who_234 rfl (lv_at hl 2 rfl) ?_
                      refine lv_iload hx hb dX12_who_235 (lv_at hl 6 rfl) ?_
                      refine lv_iload hx hb dX12_who_237 (lv_at hl 0 rfl) ?_
                      refine sg_calli (va_runV (As := [.int x0, .int y5_161, .int r_191]) (rest := [.int v_199, .int v_197, .ref (h 17)]) ⟨hx, hb, hml, hown, hts⟩ (kX12_isSeen l D ca za h hh fp_161 L Q hI x0 y5_161 r_191 hy0_161 ⟨by omega, by omega⟩ ⟨by omega, by omega⟩ H.size) (sl_c12_isSeen_0_0_0_0_12 hts ⟨Nat.le_of_ble_eq_true rfl, Nat.le_of_ble_eq_true rfl⟩) (sl_vM_0 hA hK hP hS hZ) rfl rfl hl.1 rfl (lv_room (Nat.le_of_ble_eq_true rfl)) dX12_who_239 ⟨Nat.le_refl _, Nat.le_refl _⟩) hA hS (fun r_211 f_208 L_209 Q_210 H locs hq hP hS => ?_)
                      obtain ⟨⟨ef9, eL9, eQ9⟩, hq, u_212⟩ := hq
                      replace hs := hs.trans ((if_neg c_169).trans (spl_e u_192 (spl_e ev_193 (spl_e ev_195 (spl_e ev_197 (spl_e ev_199 (spl_e u_212 rfl)))))))
                      rw [ef9, eL9, eQ9] at hP; clear ef9 eL9 eQ9
                      refine lv_if_eq (tgt := 249) hx hb dX12_who_242 (by decide) (fun c => ?_) (fun c => ?_)
                      · skip
                        have c_213 : r_211.toInt = 0 := (by first | exact (cm_eq1 ti_0 c) | (have z := Int32.toInt_inj.mpr c; have k1 : (0 : Int32).toInt = 0 := ti_0; omega))
                        refine lv_iconst (v := 0) hx hb dX12_who_249 ic_0 ?_
                        refine lv_ior hx hb dX12_who_250 ?_
                        refine lv_topi (fun v_215 ev_215 => ?_)
                        have q_216 : 0 ≤ v_215.toInt ∧ v_215.toInt ≤ 1 := by rw [ev_215]; have k1 : (0 : Int32).toInt = 0 := ti_0; exact bn_or1 (x := v_199) (y := 0) (by omega) (by omega) (by omega) (by omega)
                        refine sg_zast hx hb hh hA hK hP hS 17 (by decide) 2 (fun _ => rfl) rfl (i := v_197) (x := v_215) (vp_in_iff.mpr ⟨by omega, by omega⟩) (bn_nar (by omega) (by omega)) dX12_who_251 (fun f_217 H locs ef_217 hP hS => ?_)
                        have hI : sgI loM hiM f_217 := by rw [ef_217]; exact sgI.put hI 17 v_197.toNatClampNeg (show 0 ≤ (v_215 : Int32).toInt ∧ (v_215 : Int32).toInt ≤ 1 from q_216)
                        have hF : sgK WkX12_who f f_217 := sgK.put hF ef_217 (by rfl)
                        obtain ⟨v_218, ev_218⟩ : ∃ z : Int32, z = y7_161 + 1 := ⟨_, rfl⟩
                        have q_219 : v_218.toInt = y7_161.toInt + 1 := by rw [ev_218]; exact (bn_addc y7_161 1 (by decide) (by omega) (by omega))
                        refine lv_iinc (v := v_218) (lv' := [(7, .int v_218), (8, .int r_191), (0, .ref (h 0)), (1, .int x0), (2, .int x1), (3, .int x2), (4, .int y4_161), (5, .int y5_161), (6, .int y6_161)]) hx hb dX12_who_252 hl (k := 8) rfl (by rw [ev_218]; rfl) (by decide) rfl (fun ls hl => ?_)
                        refine lv_goto (tgt := 161) hx hb dX12_who_255 (by decide) ?_
                        exact ih_161 y4_161 y5_161 y6_161 v_218 f_217 _ _ _ (hs.trans ((if_pos c_213).trans (spl_e ev_215 (spl_e ef_217 (spl_e ev_218 rfl))))) (by omega) hm_141 hm_151 hy0_161 hy1_161 hy2_161 hy3_161 hy4_161 hy5_161 ⟨by omega, by omega⟩ hI hF hP hS (lv_sub hl [2, 3, 4, 5, 6, 7, 8, 0] rfl)
                      · skip
                        have c_214 : r_211.toInt ≠ 0 := (by first | exact (cm_ne1 ti_0 c) | (have z := bn_ne c; have k1 : (0 : Int32).toInt = 0 := ti_0; omega))
                        refine lv_iconst (v := 1) hx hb dX12_who_245 ic_1 ?_
                        refine lv_goto (tgt := 250) hx hb dX12_who_246 (by decide) ?_
                        refine lv_ior hx hb dX12_who_250 ?_
                        refine lv_topi (fun v_220 ev_220 => ?_)
                        have q_221 : 0 ≤ v_220.toInt ∧ v_220.toInt ≤ 1 := by rw [ev_220]; have k1 : (1 : Int32).toInt = 1 := ti_1; exact bn_or1 (x := v_199) (y := 1) (by omega) (by omega) (by omega) (by omega)
                        refine sg_zast hx hb hh hA hK hP hS 17 (by decide) 2 (fun _ => rfl) rfl (i := v_197) (x := v_220) (vp_in_iff.mpr ⟨by omega, by omega⟩) (bn_nar (by omega) (by omega)) dX12_who_251 (fun f_222 H locs ef_222 hP hS => ?_)
                        have hI : sgI loM hiM f_222 := by rw [ef_222]; exact sgI.put hI 17 v_197.toNatClampNeg (show 0 ≤ (v_220 : Int32).toInt ∧ (v_220 : Int32).toInt ≤ 1 from q_221)
                        have hF : sgK WkX12_who f f_222 := sgK.put hF ef_222 (by rfl)
                        obtain ⟨v_223, ev_223⟩ : ∃ z : Int32, z = y7_161 + 1 := ⟨_, rfl⟩
                        have q_224 : v_223.toInt = y7_161.toInt + 1 := by rw [ev_223]; exact (bn_addc y7_161 1 (by decide) (by omega) (by omega))
                        refine lv_iinc (v := v_223) (lv' := [(7, .int v_223), (8, .int r_191), (0, .ref (h 0)), (1, .int x0), (2, .int x1), (3, .int x2), (4, .int y4_161), (5, .int y5_161), (6, .int y6_161)]) hx hb dX12_who_252 hl (k := 8) rfl (by rw [ev_223]; rfl) (by decide) rfl (fun ls hl => ?_)
                        refine lv_goto (tgt := 161) hx hb dX12_who_255 (by decide) ?_
                        exact ih_161 y4_161 y5_161 y6_161 v_223 f_222 _ _ _ (hs.trans ((if_neg c_214).trans (spl_e ev_220 (spl_e ef_222 (spl_e ev_223 rfl))))) (by omega) hm_141 hm_151 hy0_161 hy1_161 hy2_161 hy3_161 hy4_161 hy5_161 ⟨by omega, by omega⟩ hI hF hP hS (lv_sub hl [2, 3, 4, 5, 6, 7, 8, 0] rfl)
          intro y4_151 y5_151 y6_151 fp_151 H locs ls hs hm_151 hm_141 hy0_151 hy1_151 hy2_151 hy3_151 hy4_151 hy5_151 hI hF hP hS hl
          have hs : sp = sX12_who_h151 (sX12_who_l141 x0 x1 x2 n_141) x0 x1 x2 (sX12_who_l151 (sX12_who_l141 x0 x1 x2 n_141) x0 x1 x2 n_151) y4_151 y5_151 y6_151 fp_151 L := hs
          refine lv_iload hx hb dX12_who_151 (lv_at hl 6 rfl) ?_
          refine lv_bipush (v := 61) hx hb dX12_who_153 bp_61 ?_
          refine lv_icmp_ge (tgt := 264) hx hb dX12_who_155 (by decide) (fun c => ?_) (fun c => ?_)
          · skip
            have c_225 : 61 ≤ y6_151.toInt := (by first | exact (cm_le0 ti_61 c) | (have z := bn_le c; have k1 : (61 : Int32).toInt = 61 := ti_61; omega))
            obtain ⟨v_227, ev_227⟩ : ∃ z : Int32, z = y5_151 + 1 := ⟨_, rfl⟩
            have q_228 : v_227.toInt = y5_151.toInt + 1 := by rw [ev_227]; exact (bn_addc y5_151 1 (by decide) (by omega) (by omega))
            refine lv_iinc (v := v_227) (lv' := [(5, .int v_227), (0, .ref (h 0)), (1, .int x0), (2, .int x1), (3, .int x2), (4, .int y4_151), (6, .int y6_151)]) hx hb dX12_who_264 hl (k := 5) rfl (by rw [ev_227]; rfl) (by decide) rfl (fun ls hl => ?_)
            refine lv_goto (tgt := 141) hx hb dX12_who_267 (by decide) ?_
            exact ih_141 y4_151 v_227 fp_151 _ _ _ (hs.trans (((if_neg (Int.not_lt.mpr c_225)).trans (spl_e ev_227 rfl)))) (by omega) hy0_151 hy1_151 hy2_151 hy3_151 ⟨by omega, by omega⟩ hI hF hP hS (lv_sub hl [1, 2, 3, 4, 5, 0] rfl)
          · skip
            have c_226 : y6_151.toInt < 61 := (by first | exact (cm_nle0 ti_61 c) | (have z := bn_nle c; have k1 : (61 : Int32).toInt = 61 := ti_61; omega))
            refine lv_iconst (v := 0) hx hb dX12_who_158 ic_0 ?_
            refine lv_istore (lv' := [(7, .int 0), (0, .ref (h 0)), (1, .int x0), (2, .int x1), (3, .int x2), (4, .int y4_151), (5, .int y5_151), (6, .int y6_151)]) hx hb dX12_who_159 hl (by decide) rfl (fun ls hl => ?_)
            exact loop_161 10 y4_151 y5_151 y6_151 0 fp_151 _ _ _ (hs.trans (((if_pos c_226).trans rfl))) (by have kc3 : (0 : Int32).toInt = 0 := ti_0; omega) (by have kc3 : (0 : Int32).toInt = 0 := ti_0; omega) (by have kc3 : (0 : Int32).toInt = 0 := ti_0; omega) hy0_151 hy1_151 hy2_151 hy3_151 hy4_151 ⟨by omega, by omega⟩ (by decide) hI hF hP hS (lv_sub hl [1, 2, 3, 4, 5, 6, 7, 0] rfl)
      intro y4_141 y5_141 fp_141 H locs ls hs hm_141 hy0_141 hy1_141 hy2_141 hy3_141 hy4_141 hI hF hP hS hl
      have hs : sp = sX12_who_h141 x0 x1 x2 (sX12_who_l141 x0 x1 x2 n_141) y4_141 y5_141 fp_141 L := hs
      refine lv_iload hx hb dX12_who_141 (lv_at hl 5 rfl) ?_
      refine lv_iload hx hb dX12_who_143 (lv_at hl 4 rfl) ?_
      refine lv_icmp_ge (tgt := 270) hx hb dX12_who_145 (by decide) (fun c => ?_) (fun c => ?_)
      · skip
        have c_229 : y4_141.toInt ≤ y5_141.toInt := (by first | exact (bn_le c) | (have z := bn_le c; omega))
        refine lv_iload hx hb dX12_who_270 (lv_at hl 4 rfl) ?_
        refine lv_iconst (v := 1) hx hb dX12_who_272 ic_1 ?_
        refine lv_isub hx hb dX12_who_273 ?_
        refine lv_topi (fun v_231 ev_231 => ?_)
        have q_232 : v_231.toInt = y4_141.toInt - 1 := by rw [ev_231]; first | exact cm_sub ti_1 (by omega) (by omega) | (have k1 : (1 : Int32).toInt = 1 := ti_1; exact (bn_subI (by omega) (by omega)).trans (by omega))
        refine lv_istore (lv' := [(5, .int v_231), (0, .ref (h 0)), (1, .int x0), (2, .int x1), (3, .int x2), (4, .int y4_141)]) hx hb dX12_who_274 hl (by decide) rfl (fun ls hl => ?_)
        exact loop_276 13 v_231 fp_141 _ _ _ (hs.trans (((if_neg (Int.not_lt.mpr c_229)).trans (spl_e ev_231 rfl)))) (by omega) hy0_141 hy1_141 hy2_141 ⟨by omega, by omega⟩ hI hF hP hS (lv_sub hl [1, 2, 3, 4, 0] rfl)
      · skip
        have c_230 : y5_141.toInt < y4_141.toInt := (by first | exact (bn_nle c) | (have z := bn_nle c; omega))
        refine lv_iconst (v := 0) hx hb dX12_who_148 ic_0 ?_
        refine lv_istore (lv' := [(6, .int 0), (0, .ref (h 0)), (1, .int x0), (2, .int x1), (3, .int x2), (4, .int y4_141), (5, .int y5_141)]) hx hb dX12_who_149 hl (by decide) rfl (fun ls hl => ?_)
        exact loop_151 62 y4_141 y5_141 0 fp_141 _ _ _ (hs.trans (((if_pos c_230).trans rfl))) (by have kc2 : (0 : Int32).toInt = 0 := ti_0; omega) (by have kc2 : (0 : Int32).toInt = 0 := ti_0; omega) hy0_141 hy1_141 hy2_141 hy3_141 ⟨by omega, by omega⟩ (by decide) hI hF hP hS (lv_sub hl [1, 2, 3, 4, 5, 6, 0] rfl)
  have loop_79 : ∀ (n_79 : Nat) (y4_79 : Int32) (y5_79 : Int32) (fp_79 : sg_F) (H : Heap) (locs : List Loc) (ls : Array Slot), sp = sX12_who_l79 x0 x1 x2 n_79 y4_79 y5_79 fp_79 L → 793 - y5_79.toInt < (n_79 : Int) → 0 ≤ x0.toInt ∧ x0.toInt ≤ 5 → 0 ≤ x1.toInt ∧ x1.toInt ≤ 2 → 0 ≤ x2.toInt ∧ x2.toInt ≤ 11 → 1 ≤ y4_79.toInt ∧ y4_79.toInt ≤ 12 → 0 ≤ y5_79.toInt ∧ y5_79.toInt ≤ 793 → sgI loM hiM fp_79 → sgK WkX12_who f fp_79 → va_P D vwCl (sgw 26 h (eM ca h) fp_79 L Q) H → va_S (sgA 26 h s.heap.size) s.heap H locs → lv_has ls 10 [(0, .ref (h 0)), (1, .int x0), (2, .int x1), (3, .int x2), (4, .int y4_79), (5, .int y5_79)] → W p l e ({ frames := 3, cells := 0, slots := 0, locals := 66 }) s m ([.ref (h 0), .int x0, .int x1, .int x2] : List Value).toArray below meth cd H locs 0 0 Qz (F0 m 79 ls []) := by
    intro n_79
    induction n_79 with
    | zero => intro y4_79 y5_79 fp_79 H locs ls hs hm_79 hy0_79 hy1_79 hy2_79 hy3_79 hy4_79 hI hF hP hS hl; exact absurd hm_79 (by omega)
    | succ n_79 ih_79 =>
      intro y4_79 y5_79 fp_79 H locs ls hs hm_79 hy0_79 hy1_79 hy2_79 hy3_79 hy4_79 hI hF hP hS hl
      have hs : sp = sX12_who_h79 x0 x1 x2 (sX12_who_l79 x0 x1 x2 n_79) y4_79 y5_79 fp_79 L := hs
      refine lv_iload hx hb dX12_who_79 (lv_at hl 5 rfl) ?_
      refine lv_sipush (v := 793) hx hb dX12_who_81 (by decide) ?_
      refine lv_icmp_ge (tgt := 138) hx hb dX12_who_84 (by decide) (fun c => ?_) (fun c => ?_)
      · skip
        have c_233 : 793 ≤ y5_79.toInt := (by first | exact (cm_le0 ti_793 c) | (have z := bn_le c; have k1 : (793 : Int32).toInt = 793 := ti_793; omega))
        refine lv_iconst (v := 0) hx hb dX12_who_138 ic_0 ?_
        refine lv_istore (lv' := [(5, .int 0), (0, .ref (h 0)), (1, .int x0), (2, .int x1), (3, .int x2), (4, .int y4_79)]) hx hb dX12_who_139 hl (by decide) rfl (fun ls hl => ?_)
        exact loop_141 13 y4_79 0 fp_79 _ _ _ (hs.trans (((if_neg (Int.not_lt.mpr c_233)).trans rfl))) (by have kc1 : (0 : Int32).toInt = 0 := ti_0; omega) hy0_79 hy1_79 hy2_79 hy3_79 (by decide) hI hF hP hS (lv_sub hl [1, 2, 3, 4, 5, 0] rfl)
      · skip
        have c_234 : y5_79.toInt < 793 := (by first | exact (cm_nle0 ti_793 c) | (have z := bn_nle c; have k1 : (793 : Int32).toInt = 793 := ti_793; omega))
        refine lv_aload_n hx hb dX12_who_87 rfl (lv_at hl 0 rfl) ?_
        refine sl_gM_0_36_12 hx hb hts hown hK hP dX12_who_88 ?_
        refine lv_iload hx hb dX12_who_91 (lv_at hl 5 rfl) ?_
        refine lv_iload hx hb dX12_who_93 (lv_at hl 5 rfl) ?_
        refine lv_aload_n hx hb dX12_who_95 rfl (lv_at hl 0 rfl) ?_
        refine sl_gM_0_7_12 hx hb hts hown hK hP dX12_who_96 ?_
        refine lv_iload_n hx hb dX12_who_99 rfl (lv_at hl 2 rfl) ?_
        refine sg_iald hx hb hK hP 5 (by decide) 0 rfl rfl (i := x1) (vp_in_iff.mpr ⟨by omega, by omega⟩) dX12_who_100 ?_
        refine lv_topi (fun v_235 ev_235 => ?_)
        replace hs := hs.trans ((if_pos c_234).trans (spl_e ev_235 rfl))
        have q_236 : 0 ≤ v_235.toInt ∧ v_235.toInt ≤ 60 := by rw [ev_235]; exact hI 5 _
        refine lv_icmp_ne (tgt := 108) hx hb dX12_who_101 (by decide) (fun c => ?_) (fun c => ?_)
        · skip
          have c_237 : y5_79.toInt ≠ v_235.toInt := (by first | exact (bn_ne c) | (have z := bn_ne c; omega))
          refine lv_iconst (v := 0) hx hb dX12_who_108 ic_0 ?_
          refine sg_zast hx hb hh hA hK hP hS 17 (by decide) 2 (fun _ => rfl) rfl (i := y5_79) (x := 0) (vp_in_iff.mpr ⟨by omega, by omega⟩) (by decide) dX12_who_109 (fun f_239 H locs ef_239 hP hS => ?_)
          have hI : sgI loM hiM f_239 := by rw [ef_239]; exact sgI.put hI 17 y5_79.toNatClampNeg (show 0 ≤ (0 : Int32).toInt ∧ (0 : Int32).toInt ≤ 1 from by decide)
          have hF : sgK WkX12_who f f_239 := sgK.put hF ef_239 (by rfl)
          refine lv_aload_n hx hb dX12_who_110 rfl (lv_at hl 0 rfl) ?_
          refine sl_gM_0_37_12 hx hb hts hown hK hP dX12_who_111 ?_
          refine lv_iload hx hb dX12_who_114 (lv_at hl 5 rfl) ?_
          refine lv_iload hx hb dX12_who_116 (lv_at hl 5 rfl) ?_
          refine lv_bipush (v := 61) hx hb dX12_who_118 bp_61 ?_
          refine lv_idiv hx hb dX12_who_120 (by decide) ?_
          refine lv_topi (fun v_240 ev_240 => ?_)
          replace hs := hs.trans ((if_neg c_237).trans (spl_e ef_239 (spl_e ev_240 rfl)))
          have q_241 : v_240.toInt = y5_79.toInt / 61 := by rw [ev_240]; exact bn_divI (by omega) (by decide) (by decide)
          refine lv_iload hx hb dX12_who_121 (lv_at hl 4 rfl) ?_
          refine lv_icmp_ne (tgt := 130) hx hb dX12_who_123 (by decide) (fun c => ?_) (fun c => ?_)
          · skip
            have c_242 : v_240.toInt ≠ y4_79.toInt := (by first | exact (bn_ne c) | (have z := bn_ne c; omega))
            refine lv_iconst (v := 0) hx hb dX12_who_130 ic_0 ?_
            refine sg_zast hx hb hh hA hK hP hS 18 (by decide) 2 (fun _ => rfl) rfl (i := y5_79) (x := 0) (vp_in_iff.mpr ⟨by omega, by omega⟩) (by decide) dX12_who_131 (fun f_244 H locs ef_244 hP hS => ?_)
            have hI : sgI loM hiM f_244 := by rw [ef_244]; exact sgI.put hI 18 y5_79.toNatClampNeg (show 0 ≤ (0 : Int32).toInt ∧ (0 : Int32).toInt ≤ 1 from by decide)
            have hF : sgK WkX12_who f f_244 := sgK.put hF ef_244 (by rfl)
            obtain ⟨v_245, ev_245⟩ : ∃ z : Int32, z = y5_79 + 1 := ⟨_, rfl⟩
            have q_246 : v_245.toInt = y5_79.toInt + 1 := by rw [ev_245]; exact (bn_addc y5_79 1 (by decide) (by omega) (by omega))
            refine lv_iinc (v := v_245) (lv' := [(5, .int v_245), (0, .ref (h 0)), (1, .int x0), (2, .int x1), (3, .int x2), (4, .int y4_79)]) hx hb dX12_who_132 hl (k := 5) rfl (by rw [ev_245]; rfl) (by decide) rfl (fun ls hl => ?_)
            refine lv_goto (tgt := 79) hx hb dX12_who_135 (by decide) ?_
            exact ih_79 y4_79 v_245 f_244 _ _ _ (hs.trans ((if_neg c_242).trans (spl_e ef_244 (spl_e ev_245 rfl)))) (by omega) hy0_79 hy1_79 hy2_79 hy3_79 ⟨by omega, by omega⟩ hI hF hP hS (lv_sub hl [1, 2, 3, 4, 5, 0] rfl)
          · skip
            have c_243 : v_240.toInt = y4_79.toInt := (by first | exact (Int32.toInt_inj.mpr c) | (have z := Int32.toInt_inj.mpr c; omega))
            refine lv_iconst (v := 1) hx hb dX12_who_126 ic_1 ?_
            refine lv_goto (tgt := 131) hx hb dX12_who_127 (by decide) ?_
            refine sg_zast hx hb hh hA hK hP hS 18 (by decide) 2 (fun _ => rfl) rfl (i := y5_79) (x := 1) (vp_in_iff.mpr ⟨by omega, by omega⟩) (by decide) dX12_who_131 (fun f_247 H locs ef_247 hP hS => ?_)
            have hI : sgI loM hiM f_247 := by rw [ef_247]; exact sgI.put hI 18 y5_79.toNatClampNeg (show 0 ≤ (1 : Int32).toInt ∧ (1 : Int32).toInt ≤ 1 from by decide)
            have hF : sgK WkX12_who f f_247 := sgK.put hF ef_247 (by rfl)
            obtain ⟨v_248, ev_248⟩ : ∃ z : Int32, z = y5_79 + 1 := ⟨_, rfl⟩
            have q_249 : v_248.toInt = y5_79.toInt + 1 := by rw [ev_248]; exact (bn_addc y5_79 1 (by decide) (by omega) (by omega))
            refine lv_iinc (v := v_248) (lv' := [(5, .int v_248), (0, .ref (h 0)), (1, .int x0), (2, .int x1), (3, .int x2), (4, .int y4_79)]) hx hb dX12_who_132 hl (k := 5) rfl (by rw [ev_248]; rfl) (by decide) rfl (fun ls hl => ?_)
            refine lv_goto (tgt := 79) hx hb dX12_who_135 (by decide) ?_
            exact ih_79 y4_79 v_248 f_247 _ _ _ (hs.trans ((if_pos c_243).trans (spl_e ef_247 (spl_e ev_248 rfl)))) (by omega) hy0_79 hy1_79 hy2_79 hy3_79 ⟨by omega, by omega⟩ hI hF hP hS (lv_sub hl [1, 2, 3, 4, 5, 0] rfl)
        · skip
          have c_238 : y5_79.toInt = v_235.toInt := (by first | exact (Int32.toInt_inj.mpr c) | (have z := Int32.toInt_inj.mpr c; omega))
          refine lv_iconst (v := 1) hx hb dX12_who_104 ic_1 ?_
          refine lv_goto (tgt := 109) hx hb dX12_who_105 (by decide) ?_
          refine sg_zast hx hb hh hA hK hP hS 17 (by decide) 2 (fun _ => rfl) rfl (i := y5_79) (x := 1) (vp_in_iff.mpr ⟨by omega, by omega⟩) (by decide) dX12_who_109 (fun f_250 H locs ef_250 hP hS => ?_)
          have hI : sgI loM hiM f_250 := by rw [ef_250]; exact sgI.put hI 17 y5_79.toNatClampNeg (show 0 ≤ (1 : Int32).toInt ∧ (1 : Int32).toInt ≤ 1 from by decide)
          have hF : sgK WkX12_who f f_250 := sgK.put hF ef_250 (by rfl)
          refine lv_aload_n hx hb dX12_who_110 rfl (lv_at hl 0 rfl) ?_
          refine sl_gM_0_37_12 hx hb hts hown hK hP dX12_who_111 ?_
          refine lv_iload hx hb dX12_who_114 (lv_at hl 5 rfl) ?_
          refine lv_iload hx hb dX12_who_116 (lv_at hl 5 rfl) ?_
          refine lv_bipush (v := 61) hx hb dX12_who_118 bp_61 ?_
          refine lv_idiv hx hb dX12_who_120 (by decide) ?_
          refine lv_topi (fun v_251 ev_251 => ?_)
          have q_252 : v_251.toInt = y5_79.toInt / 61 := by rw [ev_251]; exact bn_divI (by omega) (by decide) (by decide)
          refine lv_iload hx hb dX12_who_121 (lv_at hl 4 rfl) ?_
          refine lv_icmp_ne (tgt := 130) hx hb dX12_who_123 (by decide) (fun c => ?_) (fun c => ?_)
          · skip
            have c_253 : v_251.toInt ≠ y4_79.toInt := (by first | exact (bn_ne c) | (have z := bn_ne c; omega))
            refine lv_iconst (v := 0) hx hb dX12_who_130 ic_0 ?_
            refine sg_zast hx hb hh hA hK hP hS 18 (by decide) 2 (fun _ => rfl) rfl (i := y5_79) (x := 0) (vp_in_iff.mpr ⟨by omega, by omega⟩) (by decide) dX12_who_131 (fun f_255 H locs ef_255 hP hS => ?_)
            have hI : sgI loM hiM f_255 := by rw [ef_255]; exact sgI.put hI 18 y5_79.toNatClampNeg (show 0 ≤ (0 : Int32).toInt ∧ (0 : Int32).toInt ≤ 1 from by decide)
            have hF : sgK WkX12_who f f_255 := sgK.put hF ef_255 (by rfl)
            obtain ⟨v_256, ev_256⟩ : ∃ z : Int32, z = y5_79 + 1 := ⟨_, rfl⟩
            have q_257 : v_256.toInt = y5_79.toInt + 1 := by rw [ev_256]; exact (bn_addc y5_79 1 (by decide) (by omega) (by omega))
            refine lv_iinc (v := v_256) (lv' := [(5, .int v_256), (0, .ref (h 0)), (1, .int x0), (2, .int x1), (3, .int x2), (4, .int y4_79)]) hx hb dX12_who_132 hl (k := 5) rfl (by rw [ev_256]; rfl) (by decide) rfl (fun ls hl => ?_)
            refine lv_goto (tgt := 79) hx hb dX12_who_135 (by decide) ?_
            exact ih_79 y4_79 v_256 f_255 _ _ _ (hs.trans ((if_pos c_238).trans (spl_e ef_250 (spl_e ev_251 (spl_e ef_255 (spl_e ev_256 rfl)))))) (by omega) hy0_79 hy1_79 hy2_79 hy3_79 ⟨by omega, by omega⟩ hI hF hP hS (lv_sub hl [1, 2, 3, 4, 5, 0] rfl)
          · skip
            exfalso; have c_254 : v_251.toInt = y4_79.toInt := (by first | exact (Int32.toInt_inj.mpr c) | (have z := Int32.toInt_inj.mpr c; omega)); first | exact absurd c_254 (by assumption) | omega
  refine lv_aload_n hx hb dX12_who_0 rfl (lv_at hl 0 rfl) ?_
  refine lv_iload_n hx hb dX12_who_1 rfl (lv_at hl 1 rfl) ?_
  refine sg_calli (va_runV (As := [.int x0]) (rest := []) ⟨hx, hb, hml, hown, hts⟩ (kX12_bytesIs l D ca za h hh f L Q hI x0 H.size) (sl_c12_bytesIs_2_0_0_45_12 hts ⟨Nat.le_of_ble_eq_true rfl, Nat.le_of_ble_eq_true rfl⟩) (sl_vM_0 hA hK hP hS hZ) rfl rfl hl.1 rfl (lv_room (Nat.le_of_ble_eq_true rfl)) dX12_who_2 ⟨Nat.le_refl _, Nat.le_refl _⟩) hA hS (fun r_261 f_258 L_259 Q_260 H locs hq hP hS => ?_)
  obtain ⟨⟨ef9, eL9, eQ9⟩, hq, u_262⟩ := hq
  replace hs := hs.trans (spl_e u_262 rfl)
  rw [ef9, eL9, eQ9] at hP; clear ef9 eL9 eQ9
  rcases hq with ⟨rfl, hq⟩ | hq | ⟨rfl, hq⟩
  · skip
    have hc_263 := hq
    refine lv_iconst (v := (-1)) hx hb dX12_who_5 ic_m1 ?_
    refine lv_icmp_eq (tgt := 28) hx hb dX12_who_6 (by decide) (fun c => absurd c (by decide)) (fun c => ?_)
    refine lv_iload_n hx hb dX12_who_9 rfl (lv_at hl 2 rfl) ?_
    refine sg_calli (va_runS (As := [.int x1]) (rest := []) ⟨hx, hb, hml, hown, hts⟩ (kX12_isPart l D ca za h hh f L Q hI x1 H.size) (va_cwS 1 hts (gw_S (fun _ h => List.mem_cons_of_mem _ h) mw_636 mw_637 mw_619 mw_635) rfl rfl rfl hd_yX12_isPart.2 ⟨Nat.le_of_ble_eq_true rfl, Nat.le_of_ble_eq_true rfl⟩) (sg_preS hA hK hP hS hZ) rfl rfl hl.1 rfl (lv_room (Nat.le_of_ble_eq_true rfl)) dX12_who_10 ⟨Nat.le_refl _, Nat.le_refl _⟩) hA hS (fun r_267 f_264 L_265 Q_266 H locs hq hP hS => ?_)
    obtain ⟨⟨ef9, eL9, eQ9⟩, hq, u_268⟩ := hq
    replace hs := hs.trans ((if_pos rfl).trans (spl_e u_268 rfl))
    rw [ef9, eL9, eQ9] at hP; clear ef9 eL9 eQ9
    rcases hq with ⟨rfl, hq⟩ | ⟨rfl, hq⟩
    · skip
      have hc_269 := hq
      refine lv_if_eq (tgt := 28) hx hb dX12_who_13 (by decide) (fun c => absurd c (by decide)) (fun c => ?_)
      refine lv_iload_n hx hb dX12_who_16 rfl (lv_at hl 3 rfl) ?_
      obtain ⟨w_270, ew_270⟩ : ∃ z : Int64, z = Int32.toInt64 x2 := ⟨_, rfl⟩
      have q_271 : w_270.toInt = x2.toInt := by rw [ew_270]; exact Int32.toInt_toInt64 _
      refine lv_i2l (v := w_270) hx hb dX12_who_17 ew_270.symm ?_
      refine lv_lconst (v := 0) hx hb dX12_who_18 (by decide) ?_
      refine lv_ldc2 (v := 11) hx hb hown (hts _ (List.mem_cons_of_mem _ mw_689)) dX12_who_19 ?_
      refine sg_calli (va_runS (As := [.long w_270, .long 0, .long 11]) (rest := []) ⟨hx, hb, hml, hown, hts⟩ (kX12_within l D ca za h hh f L Q hI w_270 0 11 H.size) (va_cwS 3 hts (gw_S (fun _ h => List.mem_cons_of_mem _ h) mw_631 mw_632 mw_619 mw_630) rfl rfl rfl hd_yX12_within.2 ⟨Nat.le_of_ble_eq_true rfl, Nat.le_of_ble_eq_true rfl⟩) (sg_preS hA hK hP hS hZ) rfl rfl hl.1 rfl (lv_room (Nat.le_of_ble_eq_true rfl)) dX12_who_22 ⟨Nat.le_refl _, Nat.le_refl _⟩) hA hS (fun r_275 f_272 L_273 Q_274 H locs hq hP hS => ?_)
      obtain ⟨⟨ef9, eL9, eQ9⟩, hq, u_276⟩ := hq
      replace hs := hs.trans ((if_pos rfl).trans (spl_e ew_270 (spl_e u_276 rfl)))
      rw [ef9, eL9, eQ9] at hP; clear ef9 eL9 eQ9
      have k_277 : (0 : Int64).toInt = 0 := by decide
      have k_278 : (11 : Int64).toInt = 11 := by decide
      rcases hq with ⟨rfl, hq⟩ | ⟨rfl, hq⟩
      · skip
        have hc_279 := hq
        refine lv_if_ne (tgt := 30) hx hb dX12_who_25 (by decide) (fun c => ?_) (fun c => absurd c (by decide))
        refine lv_aload_n hx hb dX12_who_30 rfl (lv_at hl 0 rfl) ?_
        refine lv_iload_n hx hb dX12_who_31 rfl (lv_at hl 1 rfl) ?_
        refine sg_calli (va_runV (As := [.int x0]) (rest := []) ⟨hx, hb, hml, hown, hts⟩ (kX12_bytesIs l D ca za h hh f L Q hI x0 H.size) (sl_c12_bytesIs_2_0_0_45_12 hts ⟨Nat.le_of_ble_eq_true rfl, Nat.le_of_ble_eq_true rfl⟩) (sl_vM_0 hA hK hP hS hZ) rfl rfl hl.1 rfl (lv_room (Nat.le_of_ble_eq_true rfl)) dX12_who_32 ⟨Nat.le_refl _, Nat.le_refl _⟩) hA hS (fun r_283 f_280 L_281 Q_282 H locs hq hP hS => ?_)
        obtain ⟨⟨ef9, eL9, eQ9⟩, hq, u_284⟩ := hq
        rw [ef9, eL9, eQ9] at hP; clear ef9 eL9 eQ9
        rw [show r_283 = 1 from u_284.trans u_262.symm]
        refine lv_if_ge (tgt := 44) hx hb dX12_who_35 (by decide) (fun c => ?_) (fun c => absurd c (by decide))
        refine lv_aload_n hx hb dX12_who_44 rfl (lv_at hl 0 rfl) ?_
        refine sl_gM_0_52_12 hx hb hts hown hK hP dX12_who_45 ?_
        refine lv_iload_n hx hb dX12_who_48 rfl (lv_at hl 1 rfl) ?_
        refine sg_iald hx hb hK hP 23 (by decide) 0 rfl rfl (i := x0) (vp_in_iff.mpr ⟨by omega, by omega⟩) dX12_who_49 ?_
        refine lv_topi (fun v_285 ev_285 => ?_)
        replace hs := hs.trans ((if_pos rfl).trans (spl_e ev_285 rfl))
        have q_286 : 0 ≤ v_285.toInt ∧ v_285.toInt ≤ 60 := by rw [ev_285]; exact hI 23 _
        refine lv_bipush (v := 12) hx hb dX12_who_50 bp_12 ?_
        refine lv_icmp_ge (tgt := 64) hx hb dX12_who_52 (by decide) (fun c => ?_) (fun c => ?_)
        · skip
          have c_287 : 12 ≤ v_285.toInt := (by first | exact (cm_le0 ti_12 c) | (have z := bn_le c; have k1 : (12 : Int32).toInt = 12 := ti_12; omega))
          refine lv_bipush (v := 12) hx hb dX12_who_64 bp_12 ?_
          refine lv_istore (lv' := [(4, .int 12), (0, .ref (h 0)), (1, .int x0), (2, .int x1), (3, .int x2)]) hx hb dX12_who_66 hl (by decide) rfl (fun ls hl => ?_)
          refine lv_iload_n hx hb dX12_who_68 rfl (lv_at hl 4 rfl) ?_
          refine lv_iload hx hb dX12_who_69 (lv_at hl 0 rfl) ?_
          refine lv_icmp_lt (tgt := 76) hx hb dX12_who_71 (by decide) (fun c => ?_) (fun c => ?_)
          · skip
            have c_289 : x2.toInt < 12 := (by first | exact (cm_lt1 ti_12 c) | (have z := bn_lt c; have k1 : (12 : Int32).toInt = 12 := ti_12; omega))
            refine lv_iconst (v := 0) hx hb dX12_who_76 ic_0 ?_
            refine lv_istore (lv' := [(5, .int 0), (4, .int 12), (0, .ref (h 0)), (1, .int x0), (2, .int x1), (3, .int x2)]) hx hb dX12_who_77 hl (by decide) rfl (fun ls hl => ?_)
            exact loop_79 794 12 0 f _ _ _ (hs.trans ((if_neg (Int.not_lt.mpr c_287)).trans rfl)) (by have kc0 : (12 : Int32).toInt = 12 := ti_12; have kc1 : (0 : Int32).toInt = 0 := ti_0; omega) ⟨by omega, by omega⟩ ⟨by omega, by omega⟩ ⟨by omega, by omega⟩ (by decide) (by decide) hI hF hP hS (lv_sub hl [2, 3, 4, 5, 1, 0] rfl)
          · skip
            exfalso; have c_290 : 12 ≤ x2.toInt := (by first | exact (cm_nlt1 ti_12 c) | (have z := bn_nlt c; have k1 : (12 : Int32).toInt = 12 := ti_12; omega)); omega
        · skip
          have c_288 : v_285.toInt < 12 := (by first | exact (cm_nle0 ti_12 c) | (have z := bn_nle c; have k1 : (12 : Int32).toInt = 12 := ti_12; omega))
          replace hs := hs.trans ((if_pos c_288).trans rfl)
          refine lv_aload_n hx hb dX12_who_55 rfl (lv_at hl 0 rfl) ?_
          refine sl_gM_0_52_12 hx hb hts hown hK hP dX12_who_56 ?_
          refine lv_iload_n hx hb dX12_who_59 rfl (lv_at hl 1 rfl) ?_
          refine sg_iald hx hb hK hP 23 (by decide) 0 rfl rfl (i := x0) (vp_in_iff.mpr ⟨by omega, by omega⟩) dX12_who_60 ?_
          rw [← ev_285]
          refine lv_goto (tgt := 66) hx hb dX12_who_61 (by decide) ?_
          refine lv_istore (lv' := [(4, .int v_285), (0, .ref (h 0)), (1, .int x0), (2, .int x1), (3, .int x2)]) hx hb dX12_who_66 hl (by decide) rfl (fun ls hl => ?_)
          refine lv_iload_n hx hb dX12_who_68 rfl (lv_at hl 4 rfl) ?_
          refine lv_iload hx hb dX12_who_69 (lv_at hl 0 rfl) ?_
          refine lv_icmp_lt (tgt := 76) hx hb dX12_who_71 (by decide) (fun c => ?_) (fun c => ?_)
          · skip
            have c_291 : x2.toInt < v_285.toInt := (by first | exact (bn_lt c) | (have z := bn_lt c; omega))
            refine lv_iconst (v := 0) hx hb dX12_who_76 ic_0 ?_
            refine lv_istore (lv' := [(5, .int 0), (4, .int v_285), (0, .ref (h 0)), (1, .int x0), (2, .int x1), (3, .int x2)]) hx hb dX12_who_77 hl (by decide) rfl (fun ls hl => ?_)
            exact loop_79 794 v_285 0 f _ _ _ (hs.trans ((if_pos c_291).trans rfl)) (by have kc1 : (0 : Int32).toInt = 0 := ti_0; omega) ⟨by omega, by omega⟩ ⟨by omega, by omega⟩ ⟨by omega, by omega⟩ ⟨by omega, by omega⟩ (by decide) hI hF hP hS (lv_sub hl [2, 3, 4, 5, 1, 0] rfl)
          · skip
            have c_292 : v_285.toInt ≤ x2.toInt := (by first | exact (bn_nlt c) | (have z := bn_nlt c; omega))
            refine lv_iconst (v := (-1)) hx hb dX12_who_74 ic_m1 ?_
            have k99 : ((-1) : Int32).toInt = (-1) := ti_m1
            exact hret _ _ _ _ (-1) f L Q dX12_who_75 hP hS ⟨⟨hI, hF, rfl, rfl⟩, trivial, (Eq.trans (Eq.symm (hs.trans ((if_neg (Int.not_lt.mpr c_292)).trans rfl))) hsp)⟩
      · skip
        have hc_279 := hq
        refine lv_if_ne (tgt := 30) hx hb dX12_who_25 (by decide) (fun c => absurd c (by decide)) (fun c => ?_)
        refine lv_iconst (v := (-1)) hx hb dX12_who_28 ic_m1 ?_
        have k99 : ((-1) : Int32).toInt = (-1) := ti_m1
        exact hret _ _ _ _ (-1) f L Q dX12_who_29 hP hS ⟨⟨hI, hF, rfl, rfl⟩, trivial, (Eq.trans (Eq.symm (hs.trans ((if_neg (by decide)).trans rfl))) hsp)⟩
    · skip
      have hc_269 := hq
      refine lv_if_eq (tgt := 28) hx hb dX12_who_13 (by decide) (fun c => ?_) (fun c => absurd c (by decide))
      refine lv_iconst (v := (-1)) hx hb dX12_who_28 ic_m1 ?_
      have k99 : ((-1) : Int32).toInt = (-1) := ti_m1
      exact hret _ _ _ _ (-1) f L Q dX12_who_29 hP hS ⟨⟨hI, hF, rfl, rfl⟩, trivial, (Eq.trans (Eq.symm (hs.trans ((if_neg (by decide)).trans rfl))) hsp)⟩
  · skip
    have hc_263 := hq
    refine lv_iconst (v := (-1)) hx hb dX12_who_5 ic_m1 ?_
    refine lv_icmp_eq (tgt := 28) hx hb dX12_who_6 (by decide) (fun c => ?_) (fun c => ?_)
    · skip
      exfalso; have c_293 : r_261.toInt = (-1) := (by first | exact (cm_eq1 ti_m1 c) | (have z := Int32.toInt_inj.mpr c; have k1 : ((-1) : Int32).toInt = (-1) := ti_m1; omega)); first | exact absurd c_293 (by assumption) | omega
    · skip
      have c_294 : r_261.toInt ≠ (-1) := (by first | exact (cm_ne1 ti_m1 c) | (have z := bn_ne c; have k1 : ((-1) : Int32).toInt = (-1) := ti_m1; omega))
      refine lv_iload_n hx hb dX12_who_9 rfl (lv_at hl 2 rfl) ?_
      refine sg_calli (va_runS (As := [.int x1]) (rest := []) ⟨hx, hb, hml, hown, hts⟩ (kX12_isPart l D ca za h hh f L Q hI x1 H.size) (va_cwS 1 hts (gw_S (fun _ h => List.mem_cons_of_mem _ h) mw_636 mw_637 mw_619 mw_635) rfl rfl rfl hd_yX12_isPart.2 ⟨Nat.le_of_ble_eq_true rfl, Nat.le_of_ble_eq_true rfl⟩) (sg_preS hA hK hP hS hZ) rfl rfl hl.1 rfl (lv_room (Nat.le_of_ble_eq_true rfl)) dX12_who_10 ⟨Nat.le_refl _, Nat.le_refl _⟩) hA hS (fun r_298 f_295 L_296 Q_297 H locs hq hP hS => ?_)
      obtain ⟨⟨ef9, eL9, eQ9⟩, hq, u_299⟩ := hq
      rw [ef9, eL9, eQ9] at hP; clear ef9 eL9 eQ9
      rcases hq with ⟨rfl, hq⟩ | ⟨rfl, hq⟩
      · skip
        have hc_300 := hq
        refine lv_if_eq (tgt := 28) hx hb dX12_who_13 (by decide) (fun c => absurd c (by decide)) (fun c => ?_)
        refine lv_iload_n hx hb dX12_who_16 rfl (lv_at hl 3 rfl) ?_
        obtain ⟨w_301, ew_301⟩ : ∃ z : Int64, z = Int32.toInt64 x2 := ⟨_, rfl⟩
        have q_302 : w_301.toInt = x2.toInt := by rw [ew_301]; exact Int32.toInt_toInt64 _
        refine lv_i2l (v := w_301) hx hb dX12_who_17 ew_301.symm ?_
        refine lv_lconst (v := 0) hx hb dX12_who_18 (by decide) ?_
        refine lv_ldc2 (v := 11) hx hb hown (hts _ (List.mem_cons_of_mem _ mw_689)) dX12_who_19 ?_
        refine sg_calli (va_runS (As := [.long w_301, .long 0, .long 11]) (rest := []) ⟨hx, hb, hml, hown, hts⟩ (kX12_within l D ca za h hh f L Q hI w_301 0 11 H.size) (va_cwS 3 hts (gw_S (fun _ h => List.mem_cons_of_mem _ h) mw_631 mw_632 mw_619 mw_630) rfl rfl rfl hd_yX12_within.2 ⟨Nat.le_of_ble_eq_true rfl, Nat.le_of_ble_eq_true rfl⟩) (sg_preS hA hK hP hS hZ) rfl rfl hl.1 rfl (lv_room (Nat.le_of_ble_eq_true rfl)) dX12_who_22 ⟨Nat.le_refl _, Nat.le_refl _⟩) hA hS (fun r_306 f_303 L_304 Q_305 H locs hq hP hS => ?_)
        obtain ⟨⟨ef9, eL9, eQ9⟩, hq, u_307⟩ := hq
        rw [ef9, eL9, eQ9] at hP; clear ef9 eL9 eQ9
        have k_308 : (0 : Int64).toInt = 0 := by decide
        have k_309 : (11 : Int64).toInt = 11 := by decide
        rcases hq with ⟨rfl, hq⟩ | ⟨rfl, hq⟩
        · skip
          have hc_310 := hq
          refine lv_if_ne (tgt := 30) hx hb dX12_who_25 (by decide) (fun c => ?_) (fun c => absurd c (by decide))
          refine lv_aload_n hx hb dX12_who_30 rfl (lv_at hl 0 rfl) ?_
          refine lv_iload_n hx hb dX12_who_31 rfl (lv_at hl 1 rfl) ?_
          refine sg_calli (va_runV (As := [.int x0]) (rest := []) ⟨hx, hb, hml, hown, hts⟩ (kX12_bytesIs l D ca za h hh f L Q hI x0 H.size) (sl_c12_bytesIs_2_0_0_45_12 hts ⟨Nat.le_of_ble_eq_true rfl, Nat.le_of_ble_eq_true rfl⟩) (sl_vM_0 hA hK hP hS hZ) rfl rfl hl.1 rfl (lv_room (Nat.le_of_ble_eq_true rfl)) dX12_who_32 ⟨Nat.le_refl _, Nat.le_refl _⟩) hA hS (fun r_314 f_311 L_312 Q_313 H locs hq hP hS => ?_)
          obtain ⟨⟨ef9, eL9, eQ9⟩, hq, u_315⟩ := hq
          rw [ef9, eL9, eQ9] at hP; clear ef9 eL9 eQ9
          rw [show r_314 = r_261 from u_315.trans u_262.symm]
          refine lv_if_ge (tgt := 44) hx hb dX12_who_35 (by decide) (fun c => ?_) (fun c => ?_)
          · skip
            exfalso; have c_316 : 0 ≤ r_261.toInt := (by first | exact (cm_le0 ti_0 c) | (have z := bn_le c; have k1 : (0 : Int32).toInt = 0 := ti_0; omega)); omega
          · skip
            have c_317 : r_261.toInt < 0 := (by first | exact (cm_nle0 ti_0 c) | (have z := bn_nle c; have k1 : (0 : Int32).toInt = 0 := ti_0; omega))
            refine lv_aload_n hx hb dX12_who_38 rfl (lv_at hl 0 rfl) ?_
            refine lv_iload_n hx hb dX12_who_39 rfl (lv_at hl 1 rfl) ?_
            refine sg_calli (va_runV (As := [.int x0]) (rest := []) ⟨hx, hb, hml, hown, hts⟩ (kX12_bytesIs l D ca za h hh f L Q hI x0 H.size) (sl_c12_bytesIs_2_0_0_45_12 hts ⟨Nat.le_of_ble_eq_true rfl, Nat.le_of_ble_eq_true rfl⟩) (sl_vM_0 hA hK hP hS hZ) rfl rfl hl.1 rfl (lv_room (Nat.le_of_ble_eq_true rfl)) dX12_who_40 ⟨Nat.le_refl _, Nat.le_refl _⟩) hA hS (fun r_321 f_318 L_319 Q_320 H locs hq hP hS => ?_)
            obtain ⟨⟨ef9, eL9, eQ9⟩, hq, u_322⟩ := hq
            rw [ef9, eL9, eQ9] at hP; clear ef9 eL9 eQ9
            rw [show r_321 = r_261 from u_322.trans u_262.symm]
            exact hret _ _ _ _ (r_261) f L Q dX12_who_43 hP hS ⟨⟨hI, hF, rfl, rfl⟩, trivial, (Eq.trans (Eq.symm (hs.trans ((if_neg (fun z9 => by have k9 : (1 : Int32).toInt = 1 := ti_1; have h9 := hc_263; rw [z9] at h9; omega)).trans ((if_neg (fun z9 => by have k9 : ((-1) : Int32).toInt = (-1) := ti_m1; have h9 := hc_263; rw [z9] at h9; omega)).trans (spl_e u_299 ((if_pos rfl).trans (spl_e ew_301 (spl_e u_307 ((if_pos rfl).trans rfl))))))))) hsp)⟩
        · skip
          have hc_310 := hq
          refine lv_if_ne (tgt := 30) hx hb dX12_who_25 (by decide) (fun c => absurd c (by decide)) (fun c => ?_)
          refine lv_iconst (v := (-1)) hx hb dX12_who_28 ic_m1 ?_
          have k99 : ((-1) : Int32).toInt = (-1) := ti_m1
          exact hret _ _ _ _ (-1) f L Q dX12_who_29 hP hS ⟨⟨hI, hF, rfl, rfl⟩, trivial, (Eq.trans (Eq.symm (hs.trans ((if_neg (fun z9 => by have k9 : (1 : Int32).toInt = 1 := ti_1; have h9 := hc_263; rw [z9] at h9; omega)).trans ((if_neg (fun z9 => by have k9 : ((-1) : Int32).toInt = (-1) := ti_m1; have h9 := hc_263; rw [z9] at h9; omega)).trans (spl_e u_299 ((if_pos rfl).trans (spl_e ew_301 (spl_e u_307 ((if_neg (by decide)).trans rfl))))))))) hsp)⟩
      · skip
        have hc_300 := hq
        refine lv_if_eq (tgt := 28) hx hb dX12_who_13 (by decide) (fun c => ?_) (fun c => absurd c (by decide))
        refine lv_iconst (v := (-1)) hx hb dX12_who_28 ic_m1 ?_
        have k99 : ((-1) : Int32).toInt = (-1) := ti_m1
        exact hret _ _ _ _ (-1) f L Q dX12_who_29 hP hS ⟨⟨hI, hF, rfl, rfl⟩, trivial, (Eq.trans (Eq.symm (hs.trans ((if_neg (fun z9 => by have k9 : (1 : Int32).toInt = 1 := ti_1; have h9 := hc_263; rw [z9] at h9; omega)).trans ((if_neg (fun z9 => by have k9 : ((-1) : Int32).toInt = (-1) := ti_m1; have h9 := hc_263; rw [z9] at h9; omega)).trans (spl_e u_299 ((if_neg (by decide)).trans rfl)))))) hsp)⟩
  · skip
    have hc_263 := hq
    refine lv_iconst (v := (-1)) hx hb dX12_who_5 ic_m1 ?_
    refine lv_icmp_eq (tgt := 28) hx hb dX12_who_6 (by decide) (fun c => ?_) (fun c => absurd c (by decide))
    refine lv_iconst (v := (-1)) hx hb dX12_who_28 ic_m1 ?_
    have k99 : ((-1) : Int32).toInt = (-1) := ti_m1
    exact hret _ _ _ _ (-1) f L Q dX12_who_29 hP hS ⟨⟨hI, hF, rfl, rfl⟩, trivial, (Eq.trans (Eq.symm (hs.trans ((if_neg (by decide)).trans ((if_pos rfl).trans rfl)))) hsp)⟩

abbrev WkX12_judge : List (Nat × Nat × Option Nat) := [(0, 0, some 12), (0, 0, some 13), (0, 0, some 14), (0, 0, some 15), (0, 0, some 16), (0, 0, some 29), (0, 0, some 30), (0, 0, some 31), (8, 8, none), (12, 12, none), (13, 13, none)]
set_option maxHeartbeats 4000000 in
set_option maxRecDepth 100000 in
theorem kX12_judge (l : Launch) (D : va_G) (ca : Nat → ClassId) (za h : Nat → Nat) (hh : sgH 26 h) (f : sg_F) (L : sg_L) (Q : sg_Q) (hI : sgI loM hiM f) (x0 : Int32) (x1 : Int32) (sz : Nat) : Met l yX12_judge gwX12_judge { frames := 47, cells := 0, slots := 0, locals := 1079 } (sgP D vwCl (tyX ca) 26 h (eM ca h) zcM za f L Q sz [.ref (h 0), .int x0, .int x1]) (sgQi D vwCl 26 h (eM ca h) sz (fun r f1 L1 Q1 => ((sgI loM hiM f1 ∧ sgK WkX12_judge f f1 ∧ L1 = L ∧ Q1 = Q) ∧ ((-12) ≤ r.toInt ∧ r.toInt ≤ 20) ∧ (r, f1) = sX12_judge x0 x1 f L))) 0 0 (sgA 26 h sz) := by
  refine sg_ofWi (cc := cX12_judge) (maxL := 4) RX12 (by decide) rfl rfl (Nat.le_of_ble_eq_true rfl) ?_
  intro p e s m below meth cd Qz ls hx hb hml hown hts hK hZ hP hS hl hret
  have hA := sgY.self (n := 26) (h := h) (sz := s.heap.size)
  have hl : lv_has ls 4 [(0, .ref (h 0)), (1, .int x0), (2, .int x1)] := hl
  obtain ⟨H, hH⟩ : ∃ z : Heap, z = s.heap := ⟨_, rfl⟩
  obtain ⟨locs, hlo⟩ : ∃ z : List Loc, z = [] := ⟨_, rfl⟩
  have hP : va_P D vwCl (sgw 26 h (eM ca h) f L Q) H := by rw [hH]; exact hP
  have hS : va_S (sgA 26 h s.heap.size) s.heap H locs := by rw [hH, hlo]; exact hS
  suffices hgo : W p l e ({ frames := 47, cells := 0, slots := 0, locals := 1079 }) s m ([.ref (h 0), .int x0, .int x1] : List Value).toArray below meth cd H locs 0 0 Qz (F0 m 0 ls []) by rw [hH, hlo] at hgo; exact hgo
  clear hH hlo
  obtain ⟨sp, hsp⟩ : ∃ z : Int32 × sg_F, z = sX12_judge x0 x1 f L := ⟨_, rfl⟩
  have hs : sp = sX12_judge x0 x1 f L := hsp
  have hF : sgK WkX12_judge f f := sgK.rf
  have loop_98 : ∀ (n_98 : Nat) (y3_98 : Int32) (fp_98 : sg_F) (H : Heap) (locs : List Loc) (ls : Array Slot), sp = sX12_judge_l98 x0 x1 n_98 y3_98 fp_98 L → 21 - y3_98.toInt < (n_98 : Int) → 0 ≤ x0.toInt ∧ x0.toInt ≤ 59 → 0 ≤ x1.toInt ∧ x1.toInt ≤ 2 → 0 ≤ y3_98.toInt ∧ y3_98.toInt ≤ 21 → x0.toInt % 10 ≤ 5 → sgI loM hiM fp_98 → sgK WkX12_judge f fp_98 → va_P D vwCl (sgw 26 h (eM ca h) fp_98 L Q) H → va_S (sgA 26 h s.heap.size) s.heap H locs → lv_has ls 4 [(0, .ref (h 0)), (1, .int x0), (2, .int x1), (3, .int y3_98)] → W p l e ({ frames := 47, cells := 0, slots := 0, locals := 1079 }) s m ([.ref (h 0), .int x0, .int x1] : List Value).toArray below meth cd H locs 0 0 Qz (F0 m 98 ls []) := by
    intro n_98
    induction n_98 with
    | zero => intro y3_98 fp_98 H locs ls hs hm_98 hy0_98 hy1_98 hy2_98 hg0_98 hI hF hP hS hl; exact absurd hm_98 (by omega)
    | succ n_98 ih_98 =>
      intro y3_98 fp_98 H locs ls hs hm_98 hy0_98 hy1_98 hy2_98 hg0_98 hI hF hP hS hl
      have hs : sp = sX12_judge_h98 x0 x1 (sX12_judge_l98 x0 x1 n_98) y3_98 fp_98 L := hs
      refine lv_iload_n hx hb dX12_judge_98 rfl (lv_at hl 3 rfl) ?_
      refine lv_aload_n hx hb dX12_judge_99 rfl (lv_at hl 0 rfl) ?_
      refine lv_iload_n hx hb dX12_judge_100 rfl (lv_at hl 1 rfl) ?_
      refine lv_bipush (v := 10) hx hb dX12_judge_101 bp_10 ?_
      refine lv_idiv hx hb dX12_judge_103 (by decide) ?_
      refine lv_topi (fun v_1 ev_1 => ?_)
      have q_2 : v_1.toInt = x0.toInt / 10 := by rw [ev_1]; exact bn_divI (by omega) (by decide) (by decide)
      refine sg_calli (va_runV (As := [.int v_1]) (rest := [.int y3_98]) ⟨hx, hb, hml, hown, hts⟩ (kX12_shiftsOf l D ca za h hh fp_98 L Q hI v_1 ⟨by omega, by omega⟩ H.size) (sl_c12_shiftsOf_0_0_0_0_12 hts ⟨Nat.le_of_ble_eq_true rfl, Nat.le_of_ble_eq_true rfl⟩) (sl_vM_0 hA hK hP hS hZ) rfl rfl hl.1 rfl (lv_room (Nat.le_of_ble_eq_true rfl)) dX12_judge_104 ⟨Nat.le_refl _, Nat.le_refl _⟩) hA hS (fun r_6 f_3 L_4 Q_5 H locs hq hP hS => ?_)
      obtain ⟨⟨ef9, eL9, eQ9⟩, hq, u_7⟩ := hq
      replace hs := hs.trans (spl_e ev_1 (spl_e u_7 rfl))
      rw [ef9, eL9, eQ9] at hP; clear ef9 eL9 eQ9
      refine lv_icmp_ge (tgt := 155) hx hb dX12_judge_107 (by decide) (fun c => ?_) (fun c => ?_)
      · skip
        have c_8 : r_6.toInt ≤ y3_98.toInt := (by first | exact (bn_le c) | (have z := bn_le c; omega))
        refine lv_bipush (v := (-2)) hx hb dX12_judge_155 bp_m2 ?_
        have k99 : ((-2) : Int32).toInt = (-2) := ti_m2
        exact hret _ _ _ _ (-2) fp_98 L Q dX12_judge_157 hP hS ⟨⟨hI, hF, rfl, rfl⟩, (by decide), (Eq.trans (Eq.symm (hs.trans ((if_neg (Int.not_lt.mpr c_8)).trans rfl))) hsp)⟩
      · skip
        have c_9 : y3_98.toInt < r_6.toInt := (by first | exact (bn_nle c) | (have z := bn_nle c; omega))
        refine lv_iload_n hx hb dX12_judge_110 rfl (lv_at hl 3 rfl) ?_
        refine lv_aload_n hx hb dX12_judge_111 rfl (lv_at hl 0 rfl) ?_
        refine sl_gM_0_52_12 hx hb hts hown hK hP dX12_judge_112 ?_
        refine lv_iload_n hx hb dX12_judge_115 rfl (lv_at hl 1 rfl) ?_
        refine lv_bipush (v := 10) hx hb dX12_judge_116 bp_10 ?_
        refine lv_irem hx hb dX12_judge_118 (by decide) ?_
        refine lv_topi (fun v_10 ev_10 => ?_)
        have q_11 : v_10.toInt = x0.toInt % 10 := by rw [ev_10]; exact bn_remI (by omega) (by decide) (by decide)
        refine sg_iald hx hb hK hP 23 (by decide) 0 rfl rfl (i := v_10) (vp_in_iff.mpr ⟨by omega, by omega⟩) dX12_judge_119 ?_
        refine lv_topi (fun v_12 ev_12 => ?_)
        replace hs := hs.trans ((if_pos c_9).trans (spl_e ev_10 (spl_e ev_12 rfl)))
        have q_13 : 0 ≤ v_12.toInt ∧ v_12.toInt ≤ 60 := by rw [ev_12]; exact hI 23 _
        refine lv_icmp_ge (tgt := 155) hx hb dX12_judge_120 (by decide) (fun c => ?_) (fun c => ?_)
        · skip
          have c_14 : v_12.toInt ≤ y3_98.toInt := (by first | exact (bn_le c) | (have z := bn_le c; omega))
          refine lv_bipush (v := (-2)) hx hb dX12_judge_155 bp_m2 ?_
          have k99 : ((-2) : Int32).toInt = (-2) := ti_m2
          exact hret _ _ _ _ (-2) fp_98 L Q dX12_judge_157 hP hS ⟨⟨hI, hF, rfl, rfl⟩, (by decide), (Eq.trans (Eq.symm (hs.trans ((if_neg (Int.not_lt.mpr c_14)).trans rfl))) hsp)⟩
        · skip
          have c_15 : y3_98.toInt < v_12.toInt := (by first | exact (bn_nle c) | (have z := bn_nle c; omega))
          refine lv_aload_n hx hb dX12_judge_123 rfl (lv_at hl 0 rfl) ?_
          refine lv_iload_n hx hb dX12_judge_124 rfl (lv_at hl 1 rfl) ?_
          refine lv_bipush (v := 10) hx hb dX12_judge_125 bp_10 ?_
          refine lv_irem hx hb dX12_judge_127 (by decide) ?_
          rw [← ev_10]
          refine lv_iload_n hx hb dX12_judge_128 rfl (lv_at hl 3 rfl) ?_
          refine lv_aload_n hx hb dX12_judge_129 rfl (lv_at hl 0 rfl) ?_
          refine sl_gM_0_28_12 hx hb hts hown hK hP dX12_judge_130 ?_
          refine lv_iconst (v := 3) hx hb dX12_judge_133 ic_3 ?_
          refine lv_iload_n hx hb dX12_judge_134 rfl (lv_at hl 3 rfl) ?_
          refine lv_iconst (v := 1) hx hb dX12_judge_135 ic_1 ?_
          refine lv_iadd hx hb dX12_judge_136 ?_
          refine lv_topi (fun v_16 ev_16 => ?_)
          have q_17 : v_16.toInt = y3_98.toInt + 1 := by rw [ev_16]; first | exact cm_add ti_1 (by omega) (by omega) | (have k1 : (1 : Int32).toInt = 1 := ti_1; exact (bn_addI (by omega) (by omega)).trans (by omega))
          refine lv_imul hx hb dX12_judge_137 ?_
          refine lv_topi (fun v_18 ev_18 => ?_)
          have q_19 : v_18.toInt = 3 * v_16.toInt := by rw [ev_18]; exact bn_mulJ (by decide) (by omega) (by omega)
          refine lv_iload_n hx hb dX12_judge_138 rfl (lv_at hl 2 rfl) ?_
          refine lv_iadd hx hb dX12_judge_139 ?_
          refine lv_topi (fun v_20 ev_20 => ?_)
          have q_21 : v_20.toInt = v_18.toInt + x1.toInt := by rw [ev_20]; first | exact bn_addI (by omega) (by omega) | exact (bn_addI (by omega) (by omega)).trans (by omega)
          refine sg_iald hx hb hK hP 13 (by decide) 0 rfl rfl (i := v_20) (vp_in_iff.mpr ⟨by omega, by omega⟩) dX12_judge_140 ?_
          refine lv_topi (fun v_22 ev_22 => ?_)
          have q_23 : 0 ≤ v_22.toInt ∧ v_22.toInt ≤ 60 := by rw [ev_22]; exact hI 13 _
          refine sg_calli (va_runV (As := [.int v_10, .int y3_98, .int v_22]) (rest := []) ⟨hx, hb, hml, hown, hts⟩ (kX12_isSeen l D ca za h hh fp_98 L Q hI v_10 y3_98 v_22 ⟨by omega, by omega⟩ ⟨by omega, by omega⟩ q_23 H.size) (sl_c12_isSeen_0_0_0_0_12 hts ⟨Nat.le_of_ble_eq_true rfl, Nat.le_of_ble_eq_true rfl⟩) (sl_vM_0 hA hK hP hS hZ) rfl rfl hl.1 rfl (lv_room (Nat.le_of_ble_eq_true rfl)) dX12_judge_141 ⟨Nat.le_refl _, Nat.le_refl _⟩) hA hS (fun r_27 f_24 L_25 Q_26 H locs hq hP hS => ?_)
          obtain ⟨⟨ef9, eL9, eQ9⟩, hq, u_28⟩ := hq
          replace hs := hs.trans ((if_pos c_15).trans (spl_e ev_16 (spl_e ev_18 (spl_e ev_20 (spl_e ev_22 (spl_e u_28 rfl))))))
          rw [ef9, eL9, eQ9] at hP; clear ef9 eL9 eQ9
          refine lv_if_ne (tgt := 149) hx hb dX12_judge_144 (by decide) (fun c => ?_) (fun c => ?_)
          · skip
            have c_29 : r_27.toInt ≠ 0 := (by first | exact (cm_ne1 ti_0 c) | (have z := bn_ne c; have k1 : (0 : Int32).toInt = 0 := ti_0; omega))
            obtain ⟨v_31, ev_31⟩ : ∃ z : Int32, z = y3_98 + 1 := ⟨_, rfl⟩
            have q_32 : v_31.toInt = y3_98.toInt + 1 := by rw [ev_31]; exact (bn_addc y3_98 1 (by decide) (by omega) (by omega))
            refine lv_iinc (v := v_31) (lv' := [(3, .int v_31), (0, .ref (h 0)), (1, .int x0), (2, .int x1)]) hx hb dX12_judge_149 hl (k := 3) rfl (by rw [ev_31]; rfl) (by decide) rfl (fun ls hl => ?_)
            refine lv_goto (tgt := 98) hx hb dX12_judge_152 (by decide) ?_
            exact ih_98 v_31 fp_98 _ _ _ (hs.trans ((if_neg c_29).trans (spl_e ev_31 rfl))) (by omega) hy0_98 hy1_98 ⟨by omega, by omega⟩ (by omega) hI hF hP hS (lv_sub hl [1, 2, 3, 0] rfl)
          · skip
            have c_30 : r_27.toInt = 0 := (by first | exact (cm_eq1 ti_0 c) | (have z := Int32.toInt_inj.mpr c; have k1 : (0 : Int32).toInt = 0 := ti_0; omega))
            refine lv_iload_n hx hb dX12_judge_147 rfl (lv_at hl 3 rfl) ?_
            exact hret _ _ _ _ (y3_98) fp_98 L Q dX12_judge_148 hP hS ⟨⟨hI, hF, rfl, rfl⟩, ⟨by omega, by omega⟩, (Eq.trans (Eq.symm (hs.trans ((if_pos c_30).trans rfl))) hsp)⟩
  refine lv_iload_n hx hb dX12_judge_0 rfl (lv_at hl 1 rfl) ?_
  refine lv_if_lt (tgt := 31) hx hb dX12_judge_1 (by decide) (fun c => ?_) (fun c => ?_)
  · skip
    have c_33 : x0.toInt < 0 := (by first | exact (cm_lt1 ti_0 c) | (have z := bn_lt c; have k1 : (0 : Int32).toInt = 0 := ti_0; omega))
    refine lv_iconst (v := (-1)) hx hb dX12_judge_31 ic_m1 ?_
    have k99 : ((-1) : Int32).toInt = (-1) := ti_m1
    exact hret _ _ _ _ (-1) f L Q dX12_judge_32 hP hS ⟨⟨hI, hF, rfl, rfl⟩, (by decide), (Eq.trans (Eq.symm (hs.trans (((if_pos c_33).trans rfl)))) hsp)⟩
  · skip
    have c_34 : 0 ≤ x0.toInt := (by first | exact (cm_nlt1 ti_0 c) | (have z := bn_nlt c; have k1 : (0 : Int32).toInt = 0 := ti_0; omega))
    refine lv_iload_n hx hb dX12_judge_4 rfl (lv_at hl 1 rfl) ?_
    refine lv_bipush (v := 10) hx hb dX12_judge_5 bp_10 ?_
    refine lv_idiv hx hb dX12_judge_7 (by decide) ?_
    refine lv_topi (fun v_35 ev_35 => ?_)
    have q_36 : v_35.toInt = x0.toInt / 10 := by rw [ev_35]; exact bn_divI (by omega) (by decide) (by decide)
    refine sg_calli (va_runS (As := [.int v_35]) (rest := []) ⟨hx, hb, hml, hown, hts⟩ (kX12_isShelf l D ca za h hh f L Q hI v_35 H.size) (va_cwS 1 hts (gw_S (fun _ h => List.mem_cons_of_mem _ h) mw_641 mw_642 mw_619 mw_640) rfl rfl rfl hd_yX12_isShelf.2 ⟨Nat.le_of_ble_eq_true rfl, Nat.le_of_ble_eq_true rfl⟩) (sg_preS hA hK hP hS hZ) rfl rfl hl.1 rfl (lv_room (Nat.le_of_ble_eq_true rfl)) dX12_judge_8 ⟨Nat.le_refl _, Nat.le_refl _⟩) hA hS (fun r_40 f_37 L_38 Q_39 H locs hq hP hS => ?_)
    obtain ⟨⟨ef9, eL9, eQ9⟩, hq, u_41⟩ := hq
    replace hs := hs.trans ((if_neg (Int.not_lt.mpr c_34)).trans (spl_e ev_35 (spl_e u_41 rfl)))
    rw [ef9, eL9, eQ9] at hP; clear ef9 eL9 eQ9
    rcases hq with ⟨rfl, hq⟩ | ⟨rfl, hq⟩
    · skip
      have hc_42 := hq
      refine lv_if_eq (tgt := 31) hx hb dX12_judge_11 (by decide) (fun c => absurd c (by decide)) (fun c => ?_)
      refine lv_iload_n hx hb dX12_judge_14 rfl (lv_at hl 1 rfl) ?_
      refine lv_bipush (v := 10) hx hb dX12_judge_15 bp_10 ?_
      refine lv_irem hx hb dX12_judge_17 (by decide) ?_
      refine lv_topi (fun v_43 ev_43 => ?_)
      have q_44 : v_43.toInt = x0.toInt % 10 := by rw [ev_43]; exact bn_remI (by omega) (by decide) (by decide)
      refine sg_calli (va_runS (As := [.int v_43]) (rest := []) ⟨hx, hb, hml, hown, hts⟩ (kX12_isShelf l D ca za h hh f L Q hI v_43 H.size) (va_cwS 1 hts (gw_S (fun _ h => List.mem_cons_of_mem _ h) mw_641 mw_642 mw_619 mw_640) rfl rfl rfl hd_yX12_isShelf.2 ⟨Nat.le_of_ble_eq_true rfl, Nat.le_of_ble_eq_true rfl⟩) (sg_preS hA hK hP hS hZ) rfl rfl hl.1 rfl (lv_room (Nat.le_of_ble_eq_true rfl)) dX12_judge_18 ⟨Nat.le_refl _, Nat.le_refl _⟩) hA hS (fun r_48 f_45 L_46 Q_47 H locs hq hP hS => ?_)
      obtain ⟨⟨ef9, eL9, eQ9⟩, hq, u_49⟩ := hq
      replace hs := hs.trans ((if_pos rfl).trans (spl_e ev_43 (spl_e u_49 rfl)))
      rw [ef9, eL9, eQ9] at hP; clear ef9 eL9 eQ9
      rcases hq with ⟨rfl, hq⟩ | ⟨rfl, hq⟩
      · skip
        have hc_50 := hq
        refine lv_if_eq (tgt := 31) hx hb dX12_judge_21 (by decide) (fun c => absurd c (by decide)) (fun c => ?_)
        refine lv_iload_n hx hb dX12_judge_24 rfl (lv_at hl 2 rfl) ?_
        refine sg_calli (va_runS (As := [.int x1]) (rest := []) ⟨hx, hb, hml, hown, hts⟩ (kX12_isPart l D ca za h hh f L Q hI x1 H.size) (va_cwS 1 hts (gw_S (fun _ h => List.mem_cons_of_mem _ h) mw_636 mw_637 mw_619 mw_635) rfl rfl rfl hd_yX12_isPart.2 ⟨Nat.le_of_ble_eq_true rfl, Nat.le_of_ble_eq_true rfl⟩) (sg_preS hA hK hP hS hZ) rfl rfl hl.1 rfl (lv_room (Nat.le_of_ble_eq_true rfl)) dX12_judge_25 ⟨Nat.le_refl _, Nat.le_refl _⟩) hA hS (fun r_54 f_51 L_52 Q_53 H locs hq hP hS => ?_)
        obtain ⟨⟨ef9, eL9, eQ9⟩, hq, u_55⟩ := hq
        replace hs := hs.trans ((if_pos rfl).trans (spl_e u_55 rfl))
        rw [ef9, eL9, eQ9] at hP; clear ef9 eL9 eQ9
        rcases hq with ⟨rfl, hq⟩ | ⟨rfl, hq⟩
        · skip
          have hc_56 := hq
          refine lv_if_ne (tgt := 33) hx hb dX12_judge_28 (by decide) (fun c => ?_) (fun c => absurd c (by decide))
          refine lv_aload_n hx hb dX12_judge_33 rfl (lv_at hl 0 rfl) ?_
          refine sl_gM_0_51_12 hx hb hts hown hK hP dX12_judge_34 ?_
          refine lv_iload_n hx hb dX12_judge_37 rfl (lv_at hl 1 rfl) ?_
          refine lv_bipush (v := 10) hx hb dX12_judge_38 bp_10 ?_
          refine lv_idiv hx hb dX12_judge_40 (by decide) ?_
          rw [← ev_35]
          refine sg_iald hx hb hK hP 22 (by decide) 0 rfl rfl (i := v_35) (vp_in_iff.mpr ⟨by omega, by omega⟩) dX12_judge_41 ?_
          refine lv_topi (fun v_57 ev_57 => ?_)
          replace hs := hs.trans ((if_pos rfl).trans (spl_e ev_57 rfl))
          have q_58 : (-1) ≤ v_57.toInt ∧ v_57.toInt ≤ 54 := by rw [ev_57]; exact hI 22 _
          refine lv_if_lt (tgt := 57) hx hb dX12_judge_42 (by decide) (fun c => ?_) (fun c => ?_)
          · skip
            have c_59 : v_57.toInt < 0 := (by first | exact (cm_lt1 ti_0 c) | (have z := bn_lt c; have k1 : (0 : Int32).toInt = 0 := ti_0; omega))
            refine lv_bipush (v := (-11)) hx hb dX12_judge_57 bp_m11 ?_
            have k99 : ((-11) : Int32).toInt = (-11) := ti_m11
            exact hret _ _ _ _ (-11) f L Q dX12_judge_59 hP hS ⟨⟨hI, hF, rfl, rfl⟩, (by decide), (Eq.trans (Eq.symm (hs.trans ((if_pos c_59).trans rfl))) hsp)⟩
          · skip
            have c_60 : 0 ≤ v_57.toInt := (by first | exact (cm_nlt1 ti_0 c) | (have z := bn_nlt c; have k1 : (0 : Int32).toInt = 0 := ti_0; omega))
            refine lv_aload_n hx hb dX12_judge_45 rfl (lv_at hl 0 rfl) ?_
            refine sl_gM_0_51_12 hx hb hts hown hK hP dX12_judge_46 ?_
            refine lv_iload_n hx hb dX12_judge_49 rfl (lv_at hl 1 rfl) ?_
            refine lv_bipush (v := 10) hx hb dX12_judge_50 bp_10 ?_
            refine lv_irem hx hb dX12_judge_52 (by decide) ?_
            rw [← ev_43]
            refine sg_iald hx hb hK hP 22 (by decide) 0 rfl rfl (i := v_43) (vp_in_iff.mpr ⟨by omega, by omega⟩) dX12_judge_53 ?_
            refine lv_topi (fun v_61 ev_61 => ?_)
            replace hs := hs.trans ((if_neg (Int.not_lt.mpr c_60)).trans (spl_e ev_61 rfl))
            have q_62 : (-1) ≤ v_61.toInt ∧ v_61.toInt ≤ 54 := by rw [ev_61]; exact hI 22 _
            refine lv_if_ge (tgt := 60) hx hb dX12_judge_54 (by decide) (fun c => ?_) (fun c => ?_)
            · skip
              have c_63 : 0 ≤ v_61.toInt := (by first | exact (cm_le0 ti_0 c) | (have z := bn_le c; have k1 : (0 : Int32).toInt = 0 := ti_0; omega))
              refine lv_aload_n hx hb dX12_judge_60 rfl (lv_at hl 0 rfl) ?_
              refine lv_iload_n hx hb dX12_judge_61 rfl (lv_at hl 1 rfl) ?_
              refine lv_bipush (v := 10) hx hb dX12_judge_62 bp_10 ?_
              refine lv_idiv hx hb dX12_judge_64 (by decide) ?_
              rw [← ev_35]
              refine sg_calli (va_runV (As := [.int v_35]) (rest := []) ⟨hx, hb, hml, hown, hts⟩ (kX12_bytesIs l D ca za h hh f L Q hI v_35 H.size) (sl_c12_bytesIs_2_0_0_45_12 hts ⟨Nat.le_of_ble_eq_true rfl, Nat.le_of_ble_eq_true rfl⟩) (sl_vM_0 hA hK hP hS hZ) rfl rfl hl.1 rfl (lv_room (Nat.le_of_ble_eq_true rfl)) dX12_judge_65 ⟨Nat.le_refl _, Nat.le_refl _⟩) hA hS (fun r_68 f_65 L_66 Q_67 H locs hq hP hS => ?_)
              obtain ⟨⟨ef9, eL9, eQ9⟩, hq, u_69⟩ := hq
              replace hs := hs.trans ((if_neg (Int.not_lt.mpr c_63)).trans (spl_e u_69 rfl))
              rw [ef9, eL9, eQ9] at hP; clear ef9 eL9 eQ9
              rcases hq with ⟨rfl, hq⟩ | hq | ⟨rfl, hq⟩
              · skip
                have hc_70 := hq
                refine lv_iconst (v := 1) hx hb dX12_judge_68 ic_1 ?_
                refine lv_icmp_ne (tgt := 84) hx hb dX12_judge_69 (by decide) (fun c => absurd c (by decide)) (fun c => ?_)
                refine lv_aload_n hx hb dX12_judge_72 rfl (lv_at hl 0 rfl) ?_
                refine lv_iload_n hx hb dX12_judge_73 rfl (lv_at hl 1 rfl) ?_
                refine lv_bipush (v := 10) hx hb dX12_judge_74 bp_10 ?_
                refine lv_irem hx hb dX12_judge_76 (by decide) ?_
                rw [← ev_43]
                refine sg_calli (va_runV (As := [.int v_43]) (rest := []) ⟨hx, hb, hml, hown, hts⟩ (kX12_bytesIs l D ca za h hh f L Q hI v_43 H.size) (sl_c12_bytesIs_2_0_0_45_12 hts ⟨Nat.le_of_ble_eq_true rfl, Nat.le_of_ble_eq_true rfl⟩) (sl_vM_0 hA hK hP hS hZ) rfl rfl hl.1 rfl (lv_room (Nat.le_of_ble_eq_true rfl)) dX12_judge_77 ⟨Nat.le_refl _, Nat.le_refl _⟩) hA hS (fun r_74 f_71 L_72 Q_73 H locs hq hP hS => ?_)
                obtain ⟨⟨ef9, eL9, eQ9⟩, hq, u_75⟩ := hq
                replace hs := hs.trans ((if_pos rfl).trans (spl_e u_75 rfl))
                rw [ef9, eL9, eQ9] at hP; clear ef9 eL9 eQ9
                rcases hq with ⟨rfl, hq⟩ | hq | ⟨rfl, hq⟩
                · skip
                  have hc_76 := hq
                  refine lv_iconst (v := 1) hx hb dX12_judge_80 ic_1 ?_
                  refine lv_icmp_eq (tgt := 87) hx hb dX12_judge_81 (by decide) (fun c => ?_) (fun c => absurd c (by decide))
                  refine lv_aload_n hx hb dX12_judge_87 rfl (lv_at hl 0 rfl) ?_
                  refine lv_iload_n hx hb dX12_judge_88 rfl (lv_at hl 1 rfl) ?_
                  refine lv_bipush (v := 10) hx hb dX12_judge_89 bp_10 ?_
                  refine lv_idiv hx hb dX12_judge_91 (by decide) ?_
                  rw [← ev_35]
                  refine sg_calli (va_runV (As := [.int v_35]) (rest := []) ⟨hx, hb, hml, hown, hts⟩ (kX12_weekOf l D ca za h hh f L Q hI v_35 ⟨by omega, by omega⟩ H.size) (sl_c12_weekOf_46_0_0_1055_12 hts ⟨Nat.le_of_ble_eq_true rfl, Nat.le_of_ble_eq_true rfl⟩) (sl_vM_0 hA hK hP hS hZ) rfl rfl hl.1 rfl (lv_room (Nat.le_of_ble_eq_true rfl)) dX12_judge_92 ⟨Nat.le_refl _, Nat.le_refl _⟩) hA hS (fun r_80 f_77 L_78 Q_79 H locs hq hP hS => ?_)
                  obtain ⟨⟨hI, hk_f_77, eL9, eQ9⟩, hq, u_81⟩ := hq
                  rw [eL9, eQ9] at hP; clear eL9 eQ9
                  have hF : sgK WkX12_judge f f_77 := sgK.tr hF hk_f_77 (by decide +kernel)
                  refine lv_pop hx hb dX12_judge_95 rfl ?_
                  refine lv_iconst (v := 0) hx hb dX12_judge_96 ic_0 ?_
                  refine lv_istore_n (lv' := [(3, .int 0), (0, .ref (h 0)), (1, .int x0), (2, .int x1)]) hx hb dX12_judge_97 rfl hl (by decide) rfl (fun ls hl => ?_)
                  exact loop_98 22 0 f_77 _ _ _ (hs.trans ((if_pos rfl).trans (spl2_e u_81 rfl))) (by have kc0 : (0 : Int32).toInt = 0 := ti_0; omega) ⟨by omega, by omega⟩ ⟨by omega, by omega⟩ (by decide) (by have kc0 : (0 : Int32).toInt = 0 := ti_0; omega) hI hF hP hS (lv_sub hl [1, 2, 3, 0] rfl)
                · skip
                  have hc_76 := hq
                  refine lv_iconst (v := 1) hx hb dX12_judge_80 ic_1 ?_
                  refine lv_icmp_eq (tgt := 87) hx hb dX12_judge_81 (by decide) (fun c => ?_) (fun c => ?_)
                  · skip
                    exfalso; have c_82 : r_74.toInt = 1 := (by first | exact (cm_eq1 ti_1 c) | (have z := Int32.toInt_inj.mpr c; have k1 : (1 : Int32).toInt = 1 := ti_1; omega)); first | exact absurd c_82 (by assumption) | omega
                  · skip
                    have c_83 : r_74.toInt ≠ 1 := (by first | exact (cm_ne1 ti_1 c) | (have z := bn_ne c; have k1 : (1 : Int32).toInt = 1 := ti_1; omega))
                    refine lv_bipush (v := (-12)) hx hb dX12_judge_84 bp_m12 ?_
                    have k99 : ((-12) : Int32).toInt = (-12) := ti_m12
                    exact hret _ _ _ _ (-12) f L Q dX12_judge_86 hP hS ⟨⟨hI, hF, rfl, rfl⟩, (by decide), (Eq.trans (Eq.symm (hs.trans ((if_neg (fun z9 => by have k9 : (1 : Int32).toInt = 1 := ti_1; have h9 := hc_76; rw [z9] at h9; omega)).trans ((if_neg (fun z9 => by have k9 : ((-1) : Int32).toInt = (-1) := ti_m1; have h9 := hc_76; rw [z9] at h9; omega)).trans rfl)))) hsp)⟩
                · skip
                  have hc_76 := hq
                  refine lv_iconst (v := 1) hx hb dX12_judge_80 ic_1 ?_
                  refine lv_icmp_eq (tgt := 87) hx hb dX12_judge_81 (by decide) (fun c => absurd c (by decide)) (fun c => ?_)
                  refine lv_bipush (v := (-12)) hx hb dX12_judge_84 bp_m12 ?_
                  have k99 : ((-12) : Int32).toInt = (-12) := ti_m12
                  exact hret _ _ _ _ (-12) f L Q dX12_judge_86 hP hS ⟨⟨hI, hF, rfl, rfl⟩, (by decide), (Eq.trans (Eq.symm (hs.trans ((if_neg (by decide)).trans ((if_pos rfl).trans rfl)))) hsp)⟩
              · skip
                have hc_70 := hq
                refine lv_iconst (v := 1) hx hb dX12_judge_68 ic_1 ?_
                refine lv_icmp_ne (tgt := 84) hx hb dX12_judge_69 (by decide) (fun c => ?_) (fun c => ?_)
                · skip
                  have c_84 : r_68.toInt ≠ 1 := (by first | exact (cm_ne1 ti_1 c) | (have z := bn_ne c; have k1 : (1 : Int32).toInt = 1 := ti_1; omega))
                  refine lv_bipush (v := (-12)) hx hb dX12_judge_84 bp_m12 ?_
                  have k99 : ((-12) : Int32).toInt = (-12) := ti_m12
                  exact hret _ _ _ _ (-12) f L Q dX12_judge_86 hP hS ⟨⟨hI, hF, rfl, rfl⟩, (by decide), (Eq.trans (Eq.symm (hs.trans ((if_neg (fun z9 => by have k9 : (1 : Int32).toInt = 1 := ti_1; have h9 := hc_70; rw [z9] at h9; omega)).trans ((if_neg (fun z9 => by have k9 : ((-1) : Int32).toInt = (-1) := ti_m1; have h9 := hc_70; rw [z9] at h9; omega)).trans rfl)))) hsp)⟩
                · skip
                  exfalso; have c_85 : r_68.toInt = 1 := (by first | exact (cm_eq1 ti_1 c) | (have z := Int32.toInt_inj.mpr c; have k1 : (1 : Int32).toInt = 1 := ti_1; omega)); first | exact absurd c_85 (by assumption) | omega
              · skip
                have hc_70 := hq
                refine lv_iconst (v := 1) hx hb dX12_judge_68 ic_1 ?_
                refine lv_icmp_ne (tgt := 84) hx hb dX12_judge_69 (by decide) (fun c => ?_) (fun c => absurd c (by decide))
                refine lv_bipush (v := (-12)) hx hb dX12_judge_84 bp_m12 ?_
                have k99 : ((-12) : Int32).toInt = (-12) := ti_m12
                exact hret _ _ _ _ (-12) f L Q dX12_judge_86 hP hS ⟨⟨hI, hF, rfl, rfl⟩, (by decide), (Eq.trans (Eq.symm (hs.trans ((if_neg (by decide)).trans ((if_pos rfl).trans rfl)))) hsp)⟩
            · skip
              have c_64 : v_61.toInt < 0 := (by first | exact (cm_nle0 ti_0 c) | (have z := bn_nle c; have k1 : (0 : Int32).toInt = 0 := ti_0; omega))
              refine lv_bipush (v := (-11)) hx hb dX12_judge_57 bp_m11 ?_
              have k99 : ((-11) : Int32).toInt = (-11) := ti_m11
              exact hret _ _ _ _ (-11) f L Q dX12_judge_59 hP hS ⟨⟨hI, hF, rfl, rfl⟩, (by decide), (Eq.trans (Eq.symm (hs.trans ((if_pos c_64).trans rfl))) hsp)⟩
        · skip
          have hc_56 := hq
          refine lv_if_ne (tgt := 33) hx hb dX12_judge_28 (by decide) (fun c => absurd c (by decide)) (fun c => ?_)
          refine lv_iconst (v := (-1)) hx hb dX12_judge_31 ic_m1 ?_
          have k99 : ((-1) : Int32).toInt = (-1) := ti_m1
          exact hret _ _ _ _ (-1) f L Q dX12_judge_32 hP hS ⟨⟨hI, hF, rfl, rfl⟩, (by decide), (Eq.trans (Eq.symm (hs.trans ((if_neg (by decide)).trans rfl))) hsp)⟩
      · skip
        have hc_50 := hq
        refine lv_if_eq (tgt := 31) hx hb dX12_judge_21 (by decide) (fun c => ?_) (fun c => absurd c (by decide))
        refine lv_iconst (v := (-1)) hx hb dX12_judge_31 ic_m1 ?_
        have k99 : ((-1) : Int32).toInt = (-1) := ti_m1
        exact hret _ _ _ _ (-1) f L Q dX12_judge_32 hP hS ⟨⟨hI, hF, rfl, rfl⟩, (by decide), (Eq.trans (Eq.symm (hs.trans ((if_neg (by decide)).trans rfl))) hsp)⟩
    · skip
      have hc_42 := hq
      refine lv_if_eq (tgt := 31) hx hb dX12_judge_11 (by decide) (fun c => ?_) (fun c => absurd c (by decide))
      refine lv_iconst (v := (-1)) hx hb dX12_judge_31 ic_m1 ?_
      have k99 : ((-1) : Int32).toInt = (-1) := ti_m1
      exact hret _ _ _ _ (-1) f L Q dX12_judge_32 hP hS ⟨⟨hI, hF, rfl, rfl⟩, (by decide), (Eq.trans (Eq.symm (hs.trans ((if_neg (by decide)).trans rfl))) hsp)⟩

abbrev WkX12_drawn : List (Nat × Nat × Option Nat) := [(0, 0, some 12), (0, 0, some 13), (0, 0, some 14), (0, 0, some 15), (0, 0, some 16), (0, 0, some 29), (0, 0, some 30), (0, 0, some 31), (8, 8, none), (11, 11, none), (12, 12, none), (13, 13, none)]
set_option maxHeartbeats 4000000 in
set_option maxRecDepth 100000 in
theorem kX12_drawn (l : Launch) (D : va_G) (ca : Nat → ClassId) (za h : Nat → Nat) (hh : sgH 26 h) (f : sg_F) (L : sg_L) (Q : sg_Q) (hI : sgI loM hiM f) (x0 : Int32) (x1 : Int32) (x2 : Int32) (x3 : Int32) (sz : Nat) : Met l yX12_drawn gwX12_drawn { frames := 47, cells := 0, slots := 0, locals := 1079 } (sgP D vwCl (tyX ca) 26 h (eM ca h) zcM za f L Q sz [.ref (h 0), .int x0, .int x1, .int x2, .int x3]) (sgQi D vwCl 26 h (eM ca h) sz (fun r f1 L1 Q1 => ((sgI loM hiM f1 ∧ sgK WkX12_drawn f f1 ∧ L1 = L ∧ Q1 = Q) ∧ True ∧ (r, f1) = sX12_drawn x0 x1 x2 x3 f L))) 0 0 (sgA 26 h sz) := by
  refine sg_ofWi (cc := cX12_drawn) (maxL := 11) RX12 (by decide) rfl rfl (Nat.le_of_ble_eq_true rfl) ?_
  intro p e s m below meth cd Qz ls hx hb hml hown hts hK hZ hP hS hl hret
  have hA := sgY.self (n := 26) (h := h) (sz := s.heap.size)
  have hl : lv_has ls 11 [(0, .ref (h 0)), (1, .int x0), (2, .int x1), (3, .int x2), (4, .int x3)] := hl
  obtain ⟨H, hH⟩ : ∃ z : Heap, z = s.heap := ⟨_, rfl⟩
  obtain ⟨locs, hlo⟩ : ∃ z : List Loc, z = [] := ⟨_, rfl⟩
  have hP : va_P D vwCl (sgw 26 h (eM ca h) f L Q) H := by rw [hH]; exact hP
  have hS : va_S (sgA 26 h s.heap.size) s.heap H locs := by rw [hH, hlo]; exact hS
  suffices hgo : W p l e ({ frames := 47, cells := 0, slots := 0, locals := 1079 }) s m ([.ref (h 0), .int x0, .int x1, .int x2, .int x3] : List Value).toArray below meth cd H locs 0 0 Qz (F0 m 0 ls []) by rw [hH, hlo] at hgo; exact hgo
  clear hH hlo
  obtain ⟨sp, hsp⟩ : ∃ z : Int32 × sg_F, z = sX12_drawn x0 x1 x2 x3 f L := ⟨_, rfl⟩
  have hs : sp = sX12_drawn x0 x1 x2 x3 f L := hsp
  have hF : sgK WkX12_drawn f f := sgK.rf
  have loop_60 : ∀ (n_60 : Nat) (y5_60 : Int32) (y6_60 : Int32) (y7_60 : Int32) (y8_60 : Int32) (fp_60 : sg_F) (H : Heap) (locs : List Loc) (ls : Array Slot), sp = sX12_drawn_l60 x0 x1 x2 x3 n_60 y5_60 y6_60 y7_60 y8_60 fp_60 L → 20 - y8_60.toInt < (n_60 : Int) → 0 ≤ x0.toInt ∧ x0.toInt ≤ 5 → 1 ≤ x2.toInt ∧ x2.toInt ≤ 20 → 0 ≤ x3.toInt ∧ x3.toInt ≤ 1 → 0 ≤ y8_60.toInt ∧ y8_60.toInt ≤ 20 → sgI loM hiM fp_60 → sgK WkX12_drawn f fp_60 → va_P D vwCl (sgw 26 h (eM ca h) fp_60 L Q) H → va_S (sgA 26 h s.heap.size) s.heap H locs → lv_has ls 11 [(0, .ref (h 0)), (1, .int x0), (3, .int x2), (4, .int x3), (5, .int y5_60), (6, .int y6_60), (7, .int y7_60), (8, .int y8_60)] → W p l e ({ frames := 47, cells := 0, slots := 0, locals := 1079 }) s m ([.ref (h 0), .int x0, .int x1, .int x2, .int x3] : List Value).toArray below meth cd H locs 0 0 Qz (F0 m 60 ls []) := by
    intro n_60
    induction n_60 with
    | zero => intro y5_60 y6_60 y7_60 y8_60 fp_60 H locs ls hs hm_60 hy0_60 hy1_60 hy2_60 hy3_60 hI hF hP hS hl; exact absurd hm_60 (by omega)
    | succ n_60 ih_60 =>
      have loop_175 : ∀ (n_175 : Nat) (y5_175 : Int32) (y6_175 : Int32) (y7_175 : Int32) (y8_175 : Int32) (y9_175 : Int32) (fp_175 : sg_F) (H : Heap) (locs : List Loc) (ls : Array Slot), sp = sX12_drawn_l175 (sX12_drawn_l60 x0 x1 x2 x3 n_60) x0 x1 x2 x3 n_175 y5_175 y6_175 y7_175 y8_175 y9_175 fp_175 L → 21 - y9_175.toInt < (n_175 : Int) → 20 - y8_175.toInt < ((n_60 + 1 : Nat) : Int) → 0 ≤ x0.toInt ∧ x0.toInt ≤ 5 → 1 ≤ x2.toInt ∧ x2.toInt ≤ 20 → 0 ≤ x3.toInt ∧ x3.toInt ≤ 1 → 0 ≤ y8_175.toInt ∧ y8_175.toInt ≤ 19 → 0 ≤ y9_175.toInt ∧ y9_175.toInt ≤ 21 → sgI loM hiM fp_175 → sgK WkX12_drawn f fp_175 → va_P D vwCl (sgw 26 h (eM ca h) fp_175 L Q) H → va_S (sgA 26 h s.heap.size) s.heap H locs → lv_has ls 11 [(0, .ref (h 0)), (1, .int x0), (3, .int x2), (4, .int x3), (5, .int y5_175), (6, .int y6_175), (7, .int y7_175), (8, .int y8_175), (9, .int y9_175)] → W p l e ({ frames := 47, cells := 0, slots := 0, locals := 1079 }) s m ([.ref (h 0), .int x0, .int x1, .int x2, .int x3] : List Value).toArray below meth cd H locs 0 0 Qz (F0 m 175 ls []) := by
        intro n_175
        induction n_175 with
        | zero => intro y5_175 y6_175 y7_175 y8_175 y9_175 fp_175 H locs ls hs hm_175 hm_60 hy0_175 hy1_175 hy2_175 hy3_175 hy4_175 hI hF hP hS hl; exact absurd hm_175 (by omega)
        | succ n_175 ih_175 =>
          intro y5_175 y6_175 y7_175 y8_175 y9_175 fp_175 H locs ls hs hm_175 hm_60 hy0_175 hy1_175 hy2_175 hy3_175 hy4_175 hI hF hP hS hl
          have hs : sp = sX12_drawn_h175 (sX12_drawn_l60 x0 x1 x2 x3 n_60) x0 x1 x2 x3 (sX12_drawn_l175 (sX12_drawn_l60 x0 x1 x2 x3 n_60) x0 x1 x2 x3 n_175) y5_175 y6_175 y7_175 y8_175 y9_175 fp_175 L := hs
          refine lv_iload hx hb dX12_drawn_175 (lv_at hl 8 rfl) ?_
          refine lv_bipush (v := 21) hx hb dX12_drawn_177 bp_21 ?_
          refine lv_icmp_ge (tgt := 196) hx hb dX12_drawn_179 (by decide) (fun c => ?_) (fun c => ?_)
          · skip
            have c_1 : 21 ≤ y9_175.toInt := (by first | exact (cm_le0 ti_21 c) | (have z := bn_le c; have k1 : (21 : Int32).toInt = 21 := ti_21; omega))
            obtain ⟨v_3, ev_3⟩ : ∃ z : Int32, z = y8_175 + 1 := ⟨_, rfl⟩
            have q_4 : v_3.toInt = y8_175.toInt + 1 := by rw [ev_3]; exact (bn_addc y8_175 1 (by decide) (by omega) (by omega))
            refine lv_iinc (v := v_3) (lv' := [(8, .int v_3), (0, .ref (h 0)), (1, .int x0), (3, .int x2), (4, .int x3), (5, .int y5_175), (6, .int y6_175), (7, .int y7_175), (9, .int y9_175)]) hx hb dX12_drawn_196 hl (k := 7) rfl (by rw [ev_3]; rfl) (by decide) rfl (fun ls hl => ?_)
            refine lv_goto (tgt := 60) hx hb dX12_drawn_199 (by decide) ?_
            exact ih_60 y5_175 y6_175 y7_175 v_3 fp_175 _ _ _ (hs.trans (((if_neg (Int.not_lt.mpr c_1)).trans (spl_e ev_3 rfl)))) (by omega) hy0_175 hy1_175 hy2_175 ⟨by omega, by omega⟩ hI hF hP hS (lv_sub hl [1, 2, 3, 4, 5, 6, 7, 0] rfl)
          · skip
            have c_2 : y9_175.toInt < 21 := (by first | exact (cm_nle0 ti_21 c) | (have z := bn_nle c; have k1 : (21 : Int32).toInt = 21 := ti_21; omega))
            refine lv_aload_n hx hb dX12_drawn_182 rfl (lv_at hl 0 rfl) ?_
            refine sl_gM_0_26_12 hx hb hts hown hK hP dX12_drawn_183 ?_
            refine lv_iload hx hb dX12_drawn_186 (lv_at hl 8 rfl) ?_
            refine lv_iconst (v := 0) hx hb dX12_drawn_188 ic_0 ?_
            refine sg_zast hx hb hh hA hK hP hS 11 (by decide) 2 (fun _ => rfl) rfl (i := y9_175) (x := 0) (vp_in_iff.mpr ⟨by omega, by omega⟩) (by decide) dX12_drawn_189 (fun f_5 H locs ef_5 hP hS => ?_)
            have hI : sgI loM hiM f_5 := by rw [ef_5]; exact sgI.put hI 11 y9_175.toNatClampNeg (show 0 ≤ (0 : Int32).toInt ∧ (0 : Int32).toInt ≤ 1 from by decide)
            have hF : sgK WkX12_drawn f f_5 := sgK.put hF ef_5 (by rfl)
            obtain ⟨v_6, ev_6⟩ : ∃ z : Int32, z = y9_175 + 1 := ⟨_, rfl⟩
            have q_7 : v_6.toInt = y9_175.toInt + 1 := by rw [ev_6]; exact (bn_addc y9_175 1 (by decide) (by omega) (by omega))
            refine lv_iinc (v := v_6) (lv' := [(9, .int v_6), (0, .ref (h 0)), (1, .int x0), (3, .int x2), (4, .int x3), (5, .int y5_175), (6, .int y6_175), (7, .int y7_175), (8, .int y8_175)]) hx hb dX12_drawn_190 hl (k := 8) rfl (by rw [ev_6]; rfl) (by decide) rfl (fun ls hl => ?_)
            refine lv_goto (tgt := 175) hx hb dX12_drawn_193 (by decide) ?_
            exact ih_175 y5_175 y6_175 y7_175 y8_175 v_6 f_5 _ _ _ (hs.trans (((if_pos c_2).trans (spl_e ef_5 (spl_e ev_6 rfl))))) (by omega) hm_60 hy0_175 hy1_175 hy2_175 hy3_175 ⟨by omega, by omega⟩ hI hF hP hS (lv_sub hl [1, 2, 3, 4, 5, 6, 7, 8, 0] rfl)
      have loop_69 : ∀ (n_69 : Nat) (y5_69 : Int32) (y6_69 : Int32) (y7_69 : Int32) (y8_69 : Int32) (y9_69 : Int32) (fp_69 : sg_F) (H : Heap) (locs : List Loc) (ls : Array Slot), sp = sX12_drawn_l69 (sX12_drawn_l60 x0 x1 x2 x3 n_60) x0 x1 x2 x3 n_69 y5_69 y6_69 y7_69 y8_69 y9_69 fp_69 L → 21 - y9_69.toInt < (n_69 : Int) → 20 - y8_69.toInt < ((n_60 + 1 : Nat) : Int) → 0 ≤ x0.toInt ∧ x0.toInt ≤ 5 → 1 ≤ x2.toInt ∧ x2.toInt ≤ 20 → 0 ≤ x3.toInt ∧ x3.toInt ≤ 1 → 0 ≤ y8_69.toInt ∧ y8_69.toInt ≤ 19 → 0 ≤ y9_69.toInt ∧ y9_69.toInt ≤ 21 → sgI loM hiM fp_69 → sgK WkX12_drawn f fp_69 → va_P D vwCl (sgw 26 h (eM ca h) fp_69 L Q) H → va_S (sgA 26 h s.heap.size) s.heap H locs → lv_has ls 11 [(0, .ref (h 0)), (1, .int x0), (3, .int x2), (4, .int x3), (5, .int y5_69), (6, .int y6_69), (7, .int y7_69), (8, .int y8_69), (9, .int y9_69)] → W p l e ({ frames := 47, cells := 0, slots := 0, locals := 1079 }) s m ([.ref (h 0), .int x0, .int x1, .int x2, .int x3] : List Value).toArray below meth cd H locs 0 0 Qz (F0 m 69 ls []) := by
        intro n_69
        induction n_69 with
        | zero => intro y5_69 y6_69 y7_69 y8_69 y9_69 fp_69 H locs ls hs hm_69 hm_60 hy0_69 hy1_69 hy2_69 hy3_69 hy4_69 hI hF hP hS hl; exact absurd hm_69 (by omega)
        | succ n_69 ih_69 =>
          have blk_156 : ∀ (y5_156 : Int32) (y6_156 : Int32) (y7_156 : Int32) (y8_156 : Int32) (y9_156 : Int32) (fp_156 : sg_F) (H : Heap) (locs : List Loc) (ls : Array Slot), sp = sX12_drawn_b156 (sX12_drawn_l60 x0 x1 x2 x3 n_60) (sX12_drawn_l69 (sX12_drawn_l60 x0 x1 x2 x3 n_60) x0 x1 x2 x3 n_69) x0 x1 x2 x3 y5_156 y6_156 y7_156 y8_156 y9_156 fp_156 L → 20 - y8_156.toInt < ((n_60 + 1 : Nat) : Int) → 21 - y9_156.toInt < ((n_69 + 1 : Nat) : Int) → 0 ≤ x0.toInt ∧ x0.toInt ≤ 5 → 1 ≤ x2.toInt ∧ x2.toInt ≤ 20 → 0 ≤ x3.toInt ∧ x3.toInt ≤ 1 → 0 ≤ y8_156.toInt ∧ y8_156.toInt ≤ 19 → 0 ≤ y9_156.toInt ∧ y9_156.toInt ≤ 20 → sgI loM hiM fp_156 → sgK WkX12_drawn f fp_156 → va_P D vwCl (sgw 26 h (eM ca h) fp_156 L Q) H → va_S (sgA 26 h s.heap.size) s.heap H locs → lv_has ls 11 [(0, .ref (h 0)), (1, .int x0), (3, .int x2), (4, .int x3), (5, .int y5_156), (6, .int y6_156), (7, .int y7_156), (8, .int y8_156), (9, .int y9_156)] → W p l e ({ frames := 47, cells := 0, slots := 0, locals := 1079 }) s m ([.ref (h 0), .int x0, .int x1, .int x2, .int x3] : List Value).toArray below meth cd H locs 0 0 Qz (F0 m 156 ls []) := by
            intro y5_156 y6_156 y7_156 y8_156 y9_156 fp_156 H locs ls hs hm_60 hm_69 hy0_156 hy1_156 hy2_156 hy3_156 hy4_156 hI hF hP hS hl
            obtain ⟨v_8, ev_8⟩ : ∃ z : Int32, z = y9_156 + 1 := ⟨_, rfl⟩
            have q_9 : v_8.toInt = y9_156.toInt + 1 := by rw [ev_8]; exact (bn_addc y9_156 1 (by decide) (by omega) (by omega))
            refine lv_iinc (v := v_8) (lv' := [(9, .int v_8), (0, .ref (h 0)), (1, .int x0), (3, .int x2), (4, .int x3), (5, .int y5_156), (6, .int y6_156), (7, .int y7_156), (8, .int y8_156)]) hx hb dX12_drawn_156 hl (k := 8) rfl (by rw [ev_8]; rfl) (by decide) rfl (fun ls hl => ?_)
            refine lv_goto (tgt := 69) hx hb dX12_drawn_159 (by decide) ?_
            exact ih_69 y5_156 y6_156 y7_156 y8_156 v_8 fp_156 _ _ _ (hs.trans ((spl_e ev_8 rfl))) (by omega) hm_60 hy0_156 hy1_156 hy2_156 hy3_156 ⟨by omega, by omega⟩ hI hF hP hS (lv_sub hl [1, 2, 3, 4, 5, 6, 7, 8, 0] rfl)
          intro y5_69 y6_69 y7_69 y8_69 y9_69 fp_69 H locs ls hs hm_69 hm_60 hy0_69 hy1_69 hy2_69 hy3_69 hy4_69 hI hF hP hS hl
          have hs : sp = sX12_drawn_h69 (sX12_drawn_l60 x0 x1 x2 x3 n_60) x0 x1 x2 x3 (sX12_drawn_l69 (sX12_drawn_l60 x0 x1 x2 x3 n_60) x0 x1 x2 x3 n_69) y5_69 y6_69 y7_69 y8_69 y9_69 fp_69 L := hs
          refine lv_iload hx hb dX12_drawn_69 (lv_at hl 8 rfl) ?_
          refine lv_aload_n hx hb dX12_drawn_71 rfl (lv_at hl 0 rfl) ?_
          refine lv_iload_n hx hb dX12_drawn_72 rfl (lv_at hl 1 rfl) ?_
          refine sg_calli (va_runV (As := [.int x0]) (rest := [.int y9_69]) ⟨hx, hb, hml, hown, hts⟩ (kX12_shiftsOf l D ca za h hh fp_69 L Q hI x0 hy0_69 H.size) (sl_c12_shiftsOf_0_0_0_0_12 hts ⟨Nat.le_of_ble_eq_true rfl, Nat.le_of_ble_eq_true rfl⟩) (sl_vM_0 hA hK hP hS hZ) rfl rfl hl.1 rfl (lv_room (Nat.le_of_ble_eq_true rfl)) dX12_drawn_73 ⟨Nat.le_refl _, Nat.le_refl _⟩) hA hS (fun r_13 f_10 L_11 Q_12 H locs hq hP hS => ?_)
          obtain ⟨⟨ef9, eL9, eQ9⟩, hq, u_14⟩ := hq
          replace hs := hs.trans (spl_e u_14 rfl)
          rw [ef9, eL9, eQ9] at hP; clear ef9 eL9 eQ9
          refine lv_icmp_ge (tgt := 162) hx hb dX12_drawn_76 (by decide) (fun c => ?_) (fun c => ?_)
          · skip
            have c_15 : r_13.toInt ≤ y9_69.toInt := (by first | exact (bn_le c) | (have z := bn_le c; omega))
            refine lv_iload hx hb dX12_drawn_162 (lv_at hl 5 rfl) ?_
            refine lv_aload_n hx hb dX12_drawn_164 rfl (lv_at hl 0 rfl) ?_
            refine lv_iload_n hx hb dX12_drawn_165 rfl (lv_at hl 1 rfl) ?_
            refine sg_calli (va_runV (As := [.int x0]) (rest := [.int y6_69]) ⟨hx, hb, hml, hown, hts⟩ (kX12_weekOf l D ca za h hh fp_69 L Q hI x0 hy0_69 H.size) (sl_c12_weekOf_46_0_0_1055_12 hts ⟨Nat.le_of_ble_eq_true rfl, Nat.le_of_ble_eq_true rfl⟩) (sl_vM_0 hA hK hP hS hZ) rfl rfl hl.1 rfl (lv_room (Nat.le_of_ble_eq_true rfl)) dX12_drawn_166 ⟨Nat.le_refl _, Nat.le_refl _⟩) hA hS (fun r_20 f_17 L_18 Q_19 H locs hq hP hS => ?_)
            obtain ⟨⟨hI, hk_f_17, eL9, eQ9⟩, hq, u_21⟩ := hq
            rw [eL9, eQ9] at hP; clear eL9 eQ9
            have hF : sgK WkX12_drawn f f_17 := sgK.tr hF hk_f_17 (by decide +kernel)
            refine lv_iadd hx hb dX12_drawn_169 ?_
            refine lv_topi (fun v_22 ev_22 => ?_)
            refine lv_istore (lv' := [(6, .int v_22), (0, .ref (h 0)), (1, .int x0), (3, .int x2), (4, .int x3), (5, .int y5_69), (7, .int y7_69), (8, .int y8_69), (9, .int y9_69)]) hx hb dX12_drawn_170 hl (by decide) rfl (fun ls hl => ?_)
            refine lv_iconst (v := 0) hx hb dX12_drawn_172 ic_0 ?_
            refine lv_istore (lv' := [(9, .int 0), (6, .int v_22), (0, .ref (h 0)), (1, .int x0), (3, .int x2), (4, .int x3), (5, .int y5_69), (7, .int y7_69), (8, .int y8_69)]) hx hb dX12_drawn_173 hl (by decide) rfl (fun ls hl => ?_)
            exact loop_175 22 y5_69 v_22 y7_69 y8_69 0 f_17 _ _ _ (hs.trans ((if_neg (Int.not_lt.mpr c_15)).trans (spl2_e u_21 (spl_e ev_22 rfl)))) (by have kc4 : (0 : Int32).toInt = 0 := ti_0; omega) (by have kc4 : (0 : Int32).toInt = 0 := ti_0; omega) hy0_69 hy1_69 hy2_69 hy3_69 (by decide) hI hF hP hS (lv_sub hl [2, 3, 4, 5, 6, 1, 7, 8, 0] rfl)
          · skip
            have c_16 : y9_69.toInt < r_13.toInt := (by first | exact (bn_nle c) | (have z := bn_nle c; omega))
            refine lv_aload_n hx hb dX12_drawn_79 rfl (lv_at hl 0 rfl) ?_
            refine lv_iload_n hx hb dX12_drawn_80 rfl (lv_at hl 1 rfl) ?_
            refine lv_iload hx hb dX12_drawn_81 (lv_at hl 8 rfl) ?_
            refine sg_calli (va_runV (As := [.int x0, .int y9_69]) (rest := []) ⟨hx, hb, hml, hown, hts⟩ (kX12_whoSits l D ca za h hh fp_69 L Q hI x0 y9_69 hy0_69 ⟨by omega, by omega⟩ H.size) (sl_c12_whoSits_2_0_0_47_12 hts ⟨Nat.le_of_ble_eq_true rfl, Nat.le_of_ble_eq_true rfl⟩) (sl_vM_0 hA hK hP hS hZ) rfl rfl hl.1 rfl (lv_room (Nat.le_of_ble_eq_true rfl)) dX12_drawn_83 ⟨Nat.le_refl _, Nat.le_refl _⟩) hA hS (fun r_26 f_23 L_24 Q_25 H locs hq hP hS => ?_)
            obtain ⟨⟨ef9, eL9, eQ9⟩, hq, u_27⟩ := hq
            replace hs := hs.trans ((if_pos c_16).trans (spl_e u_27 rfl))
            rw [ef9, eL9, eQ9] at hP; clear ef9 eL9 eQ9
            refine lv_istore (lv' := [(10, .int r_26), (0, .ref (h 0)), (1, .int x0), (3, .int x2), (4, .int x3), (5, .int y5_69), (6, .int y6_69), (7, .int y7_69), (8, .int y8_69), (9, .int y9_69)]) hx hb dX12_drawn_86 hl (by decide) rfl (fun ls hl => ?_)
            refine lv_iload hx hb dX12_drawn_88 (lv_at hl 0 rfl) ?_
            refine lv_if_lt (tgt := 156) hx hb dX12_drawn_90 (by decide) (fun c => ?_) (fun c => ?_)
            · skip
              have c_28 : r_26.toInt < 0 := (by first | exact (cm_lt1 ti_0 c) | (have z := bn_lt c; have k1 : (0 : Int32).toInt = 0 := ti_0; omega))
              exact blk_156 y5_69 y6_69 y7_69 y8_69 y9_69 fp_69 _ _ _ (hs.trans ((if_pos c_28).trans rfl)) hm_60 (by omega) hy0_69 hy1_69 hy2_69 hy3_69 ⟨by omega, by omega⟩ hI hF hP hS (lv_sub hl [1, 2, 3, 4, 5, 6, 7, 8, 9] rfl)
            · skip
              have c_29 : 0 ≤ r_26.toInt := (by first | exact (cm_nlt1 ti_0 c) | (have z := bn_nlt c; have k1 : (0 : Int32).toInt = 0 := ti_0; omega))
              refine lv_iload hx hb dX12_drawn_93 (lv_at hl 5 rfl) ?_
              refine lv_ldcw (v := 1103515245) hx hb hown (hts _ (List.mem_cons_of_mem _ mw_755)) dX12_drawn_95 ?_
              refine lv_imul hx hb dX12_drawn_98 ?_
              refine lv_topi (fun v_30 ev_30 => ?_)
              refine lv_sipush (v := 12345) hx hb dX12_drawn_99 (by decide) ?_
              refine lv_iadd hx hb dX12_drawn_102 ?_
              refine lv_topi (fun v_31 ev_31 => ?_)
              refine lv_istore (lv' := [(5, .int v_31), (10, .int r_26), (0, .ref (h 0)), (1, .int x0), (3, .int x2), (4, .int x3), (6, .int y6_69), (7, .int y7_69), (8, .int y8_69), (9, .int y9_69)]) hx hb dX12_drawn_103 hl (by decide) rfl (fun ls hl => ?_)
              refine lv_aload_n hx hb dX12_drawn_105 rfl (lv_at hl 2 rfl) ?_
              refine sl_gM_0_26_12 hx hb hts hown hK hP dX12_drawn_106 ?_
              refine lv_iload hx hb dX12_drawn_109 (lv_at hl 9 rfl) ?_
              refine lv_iload hx hb dX12_drawn_111 (lv_at hl 0 rfl) ?_
              refine lv_bipush (v := 8) hx hb dX12_drawn_113 bp_8 ?_
              obtain ⟨v_32, ev_32⟩ : ∃ z : Int32, z = (Int32.toUInt32 v_31 >>> (Int32.toUInt32 8 &&& Int32.toUInt32 31)).toInt32 := ⟨_, rfl⟩
              refine lv_iushr (v := v_32) hx hb dX12_drawn_115 ev_32.symm ?_
              refine lv_bipush (v := 12) hx hb dX12_drawn_116 bp_12 ?_
              refine lv_irem hx hb dX12_drawn_118 (by decide) ?_
              refine lv_topi (fun v_33 ev_33 => ?_)
              have q_34 : 0 ≤ v_32.toInt → v_33.toInt = v_32.toInt % 12 := fun z => by rw [ev_33]; exact bn_remI z (by decide) (by decide)
              refine lv_aload_n hx hb dX12_drawn_119 rfl (lv_at hl 2 rfl) ?_
              refine lv_iload hx hb dX12_drawn_120 (lv_at hl 1 rfl) ?_
              refine lv_bipush (v := 7) hx hb dX12_drawn_122 bp_7 ?_
              refine sg_calli (va_runV (As := [.int r_26, .int 7]) (rest := [.int v_33, .int y9_69, .ref (h 11)]) ⟨hx, hb, hml, hown, hts⟩ (kX12_numberOf l D ca za h hh fp_69 L Q hI r_26 7 ⟨by omega, by omega⟩ (by decide) H.size) (sl_c12_numberOf_0_0_0_0_12 hts ⟨Nat.le_of_ble_eq_true rfl, Nat.le_of_ble_eq_true rfl⟩) (sl_vM_0 hA hK hP hS hZ) rfl rfl hl.1 rfl (lv_room (Nat.le_of_ble_eq_true rfl)) dX12_drawn_124 ⟨Nat.le_refl _, Nat.le_refl _⟩) hA hS (fun r_38 f_35 L_36 Q_37 H locs hq hP hS => ?_)
              obtain ⟨⟨ef9, eL9, eQ9⟩, hq, u_39⟩ := hq
              replace hs := hs.trans ((if_neg (Int.not_lt.mpr c_29)).trans (spl_e ev_30 (spl_e ev_31 (spl_e ev_32 (spl_e ev_33 (spl_e u_39 rfl))))))
              rw [ef9, eL9, eQ9] at hP; clear ef9 eL9 eQ9
              refine lv_icmp_ge (tgt := 134) hx hb dX12_drawn_127 (by decide) (fun c => ?_) (fun c => ?_)
              · skip
                have c_40 : r_38.toInt ≤ v_33.toInt := (by first | exact (bn_le c) | (have z := bn_le c; omega))
                refine lv_iconst (v := 0) hx hb dX12_drawn_134 ic_0 ?_
                refine sg_zast hx hb hh hA hK hP hS 11 (by decide) 2 (fun _ => rfl) rfl (i := y9_69) (x := 0) (vp_in_iff.mpr ⟨by omega, by omega⟩) (by decide) dX12_drawn_135 (fun f_42 H locs ef_42 hP hS => ?_)
                have hI : sgI loM hiM f_42 := by rw [ef_42]; exact sgI.put hI 11 y9_69.toNatClampNeg (show 0 ≤ (0 : Int32).toInt ∧ (0 : Int32).toInt ≤ 1 from by decide)
                have hF : sgK WkX12_drawn f f_42 := sgK.put hF ef_42 (by rfl)
                refine lv_iload hx hb dX12_drawn_136 (lv_at hl 7 rfl) ?_
                refine lv_aload_n hx hb dX12_drawn_138 rfl (lv_at hl 2 rfl) ?_
                refine sl_gM_0_26_12 hx hb hts hown hK hP dX12_drawn_139 ?_
                refine lv_iload hx hb dX12_drawn_142 (lv_at hl 9 rfl) ?_
                refine sg_zald hx hb hK hP 11 (by decide) 2 rfl rfl (i := y9_69) (vp_in_iff.mpr ⟨by omega, by omega⟩) dX12_drawn_144 ?_
                refine W.eq (g2 := F0 m 145 ls [.int 0, .int y7_69]) (by rw [show f_42 11 (Int32.toNatClampNeg y9_69) = 0 from (by rw [ef_42, sg_up_s, sgu_s])]) ?_
                refine lv_if_eq (tgt := 152) hx hb dX12_drawn_145 (by decide) (fun c => ?_) (fun c => absurd c (by decide))
                refine lv_iconst (v := 0) hx hb dX12_drawn_152 ic_0 ?_
                refine lv_iadd hx hb dX12_drawn_153 ?_
                refine W.eq (g2 := F0 m 154 ls [.int y7_69]) (by rw [Int32.add_zero]) ?_
                refine lv_istore (lv' := [(7, .int y7_69), (5, .int v_31), (10, .int r_26), (0, .ref (h 0)), (1, .int x0), (3, .int x2), (4, .int x3), (6, .int y6_69), (8, .int y8_69), (9, .int y9_69)]) hx hb dX12_drawn_154 hl (by decide) rfl (fun ls hl => ?_)
                exact blk_156 v_31 y6_69 y7_69 y8_69 y9_69 f_42 _ _ _ (hs.trans ((if_neg (Int.not_lt.mpr c_40)).trans (spl_e ef_42 rfl))) hm_60 (by omega) hy0_69 hy1_69 hy2_69 hy3_69 ⟨by omega, by omega⟩ hI hF hP hS (lv_sub hl [3, 4, 5, 6, 1, 7, 0, 8, 9] rfl)
              · skip
                have c_41 : v_33.toInt < r_38.toInt := (by first | exact (bn_nle c) | (have z := bn_nle c; omega))
                refine lv_iconst (v := 1) hx hb dX12_drawn_130 ic_1 ?_
                refine lv_goto (tgt := 135) hx hb dX12_drawn_131 (by decide) ?_
                refine sg_zast hx hb hh hA hK hP hS 11 (by decide) 2 (fun _ => rfl) rfl (i := y9_69) (x := 1) (vp_in_iff.mpr ⟨by omega, by omega⟩) (by decide) dX12_drawn_135 (fun f_43 H locs ef_43 hP hS => ?_)
                have hI : sgI loM hiM f_43 := by rw [ef_43]; exact sgI.put hI 11 y9_69.toNatClampNeg (show 0 ≤ (1 : Int32).toInt ∧ (1 : Int32).toInt ≤ 1 from by decide)
                have hF : sgK WkX12_drawn f f_43 := sgK.put hF ef_43 (by rfl)
                refine lv_iload hx hb dX12_drawn_136 (lv_at hl 7 rfl) ?_
                refine lv_aload_n hx hb dX12_drawn_138 rfl (lv_at hl 2 rfl) ?_
                refine sl_gM_0_26_12 hx hb hts hown hK hP dX12_drawn_139 ?_
                refine lv_iload hx hb dX12_drawn_142 (lv_at hl 9 rfl) ?_
                refine sg_zald hx hb hK hP 11 (by decide) 2 rfl rfl (i := y9_69) (vp_in_iff.mpr ⟨by omega, by omega⟩) dX12_drawn_144 ?_
                refine W.eq (g2 := F0 m 145 ls [.int 1, .int y7_69]) (by rw [show f_43 11 (Int32.toNatClampNeg y9_69) = 1 from (by rw [ef_43, sg_up_s, sgu_s])]) ?_
                refine lv_if_eq (tgt := 152) hx hb dX12_drawn_145 (by decide) (fun c => absurd c (by decide)) (fun c => ?_)
                refine lv_iconst (v := 1) hx hb dX12_drawn_148 ic_1 ?_
                refine lv_goto (tgt := 153) hx hb dX12_drawn_149 (by decide) ?_
                refine lv_iadd hx hb dX12_drawn_153 ?_
                refine lv_topi (fun v_44 ev_44 => ?_)
                refine lv_istore (lv' := [(7, .int v_44), (5, .int v_31), (10, .int r_26), (0, .ref (h 0)), (1, .int x0), (3, .int x2), (4, .int x3), (6, .int y6_69), (8, .int y8_69), (9, .int y9_69)]) hx hb dX12_drawn_154 hl (by decide) rfl (fun ls hl => ?_)
                exact blk_156 v_31 y6_69 v_44 y8_69 y9_69 f_43 _ _ _ (hs.trans ((if_pos c_41).trans (spl_e ef_43 (spl_e ev_44 rfl)))) hm_60 (by omega) hy0_69 hy1_69 hy2_69 hy3_69 ⟨by omega, by omega⟩ hI hF hP hS (lv_sub hl [3, 4, 5, 6, 1, 7, 0, 8, 9] rfl)
      intro y5_60 y6_60 y7_60 y8_60 fp_60 H locs ls hs hm_60 hy0_60 hy1_60 hy2_60 hy3_60 hI hF hP hS hl
      have hs : sp = sX12_drawn_h60 x0 x1 x2 x3 (sX12_drawn_l60 x0 x1 x2 x3 n_60) y5_60 y6_60 y7_60 y8_60 fp_60 L := hs
      refine lv_iload hx hb dX12_drawn_60 (lv_at hl 7 rfl) ?_
      refine lv_iload_n hx hb dX12_drawn_62 rfl (lv_at hl 2 rfl) ?_
      refine lv_icmp_ge (tgt := 202) hx hb dX12_drawn_63 (by decide) (fun c => ?_) (fun c => ?_)
      · skip
        have c_45 : x2.toInt ≤ y8_60.toInt := (by first | exact (bn_le c) | (have z := bn_le c; omega))
        replace hs := hs.trans ((if_neg (Int.not_lt.mpr c_45)).trans rfl)
        refine lv_iload hx hb dX12_drawn_202 (lv_at hl 3 rfl) ?_
        refine lv_if_ne (tgt := 212) hx hb dX12_drawn_204 (by decide) (fun c => ?_) (fun c => ?_)
        · skip
          have c_47 : x3.toInt ≠ 0 := (by first | exact (cm_ne1 ti_0 c) | (have z := bn_ne c; have k1 : (0 : Int32).toInt = 0 := ti_0; omega))
          refine lv_iload hx hb dX12_drawn_212 (lv_at hl 6 rfl) ?_
          exact hret _ _ _ _ (y7_60) fp_60 L Q dX12_drawn_214 hP hS ⟨⟨hI, hF, rfl, rfl⟩, trivial, (Eq.trans (Eq.symm (hs.trans ((if_neg c_47).trans rfl))) hsp)⟩
        · skip
          have c_48 : x3.toInt = 0 := (by first | exact (cm_eq1 ti_0 c) | (have z := Int32.toInt_inj.mpr c; have k1 : (0 : Int32).toInt = 0 := ti_0; omega))
          refine lv_iload hx hb dX12_drawn_207 (lv_at hl 5 rfl) ?_
          refine lv_goto (tgt := 214) hx hb dX12_drawn_209 (by decide) ?_
          exact hret _ _ _ _ (y6_60) fp_60 L Q dX12_drawn_214 hP hS ⟨⟨hI, hF, rfl, rfl⟩, trivial, (Eq.trans (Eq.symm (hs.trans ((if_pos c_48).trans rfl))) hsp)⟩
      · skip
        have c_46 : y8_60.toInt < x2.toInt := (by first | exact (bn_nle c) | (have z := bn_nle c; omega))
        refine lv_iconst (v := 0) hx hb dX12_drawn_66 ic_0 ?_
        refine lv_istore (lv' := [(9, .int 0), (0, .ref (h 0)), (1, .int x0), (3, .int x2), (4, .int x3), (5, .int y5_60), (6, .int y6_60), (7, .int y7_60), (8, .int y8_60)]) hx hb dX12_drawn_67 hl (by decide) rfl (fun ls hl => ?_)
        exact loop_69 22 y5_60 y6_60 y7_60 y8_60 0 fp_60 _ _ _ (hs.trans (((if_pos c_46).trans rfl))) (by have kc4 : (0 : Int32).toInt = 0 := ti_0; omega) (by have kc4 : (0 : Int32).toInt = 0 := ti_0; omega) hy0_60 hy1_60 hy2_60 ⟨by omega, by omega⟩ (by decide) hI hF hP hS (lv_sub hl [1, 2, 3, 4, 5, 6, 7, 8, 0] rfl)
  refine lv_aload_n hx hb dX12_drawn_0 rfl (lv_at hl 0 rfl) ?_
  refine lv_iload_n hx hb dX12_drawn_1 rfl (lv_at hl 1 rfl) ?_
  refine sg_calli (va_runV (As := [.int x0]) (rest := []) ⟨hx, hb, hml, hown, hts⟩ (kX12_bytesIs l D ca za h hh f L Q hI x0 H.size) (sl_c12_bytesIs_2_0_0_45_12 hts ⟨Nat.le_of_ble_eq_true rfl, Nat.le_of_ble_eq_true rfl⟩) (sl_vM_0 hA hK hP hS hZ) rfl rfl hl.1 rfl (lv_room (Nat.le_of_ble_eq_true rfl)) dX12_drawn_2 ⟨Nat.le_refl _, Nat.le_refl _⟩) hA hS (fun r_52 f_49 L_50 Q_51 H locs hq hP hS => ?_)
  obtain ⟨⟨ef9, eL9, eQ9⟩, hq, u_53⟩ := hq
  replace hs := hs.trans (spl_e u_53 rfl)
  rw [ef9, eL9, eQ9] at hP; clear ef9 eL9 eQ9
  rcases hq with ⟨rfl, hq⟩ | hq | ⟨rfl, hq⟩
  · skip
    have hc_54 := hq
    refine lv_iconst (v := (-1)) hx hb dX12_drawn_5 ic_m1 ?_
    refine lv_icmp_eq (tgt := 32) hx hb dX12_drawn_6 (by decide) (fun c => absurd c (by decide)) (fun c => ?_)
    refine lv_iload_n hx hb dX12_drawn_9 rfl (lv_at hl 3 rfl) ?_
    obtain ⟨w_55, ew_55⟩ : ∃ z : Int64, z = Int32.toInt64 x2 := ⟨_, rfl⟩
    have q_56 : w_55.toInt = x2.toInt := by rw [ew_55]; exact Int32.toInt_toInt64 _
    refine lv_i2l (v := w_55) hx hb dX12_drawn_10 ew_55.symm ?_
    refine lv_lconst (v := 1) hx hb dX12_drawn_11 (by decide) ?_
    refine lv_ldc2 (v := 20) hx hb hown (hts _ (List.mem_cons_of_mem _ mw_688)) dX12_drawn_12 ?_
    refine sg_calli (va_runS (As := [.long w_55, .long 1, .long 20]) (rest := []) ⟨hx, hb, hml, hown, hts⟩ (kX12_within l D ca za h hh f L Q hI w_55 1 20 H.size) (va_cwS 3 hts (gw_S (fun _ h => List.mem_cons_of_mem _ h) mw_631 mw_632 mw_619 mw_630) rfl rfl rfl hd_yX12_within.2 ⟨Nat.le_of_ble_eq_true rfl, Nat.le_of_ble_eq_true rfl⟩) (sg_preS hA hK hP hS hZ) rfl rfl hl.1 rfl (lv_room (Nat.le_of_ble_eq_true rfl)) dX12_drawn_15 ⟨Nat.le_refl _, Nat.le_refl _⟩) hA hS (fun r_60 f_57 L_58 Q_59 H locs hq hP hS => ?_)
    obtain ⟨⟨ef9, eL9, eQ9⟩, hq, u_61⟩ := hq
    replace hs := hs.trans ((if_pos rfl).trans (spl_e ew_55 (spl_e u_61 rfl)))
    rw [ef9, eL9, eQ9] at hP; clear ef9 eL9 eQ9
    have k_62 : (1 : Int64).toInt = 1 := by decide
    have k_63 : (20 : Int64).toInt = 20 := by decide
    rcases hq with ⟨rfl, hq⟩ | ⟨rfl, hq⟩
    · skip
      have hc_64 := hq
      refine lv_if_eq (tgt := 32) hx hb dX12_drawn_18 (by decide) (fun c => absurd c (by decide)) (fun c => ?_)
      refine lv_iload hx hb dX12_drawn_21 (lv_at hl 4 rfl) ?_
      obtain ⟨w_65, ew_65⟩ : ∃ z : Int64, z = Int32.toInt64 x3 := ⟨_, rfl⟩
      have q_66 : w_65.toInt = x3.toInt := by rw [ew_65]; exact Int32.toInt_toInt64 _
      refine lv_i2l (v := w_65) hx hb dX12_drawn_23 ew_65.symm ?_
      refine lv_lconst (v := 0) hx hb dX12_drawn_24 (by decide) ?_
      refine lv_lconst (v := 1) hx hb dX12_drawn_25 (by decide) ?_
      refine sg_calli (va_runS (As := [.long w_65, .long 0, .long 1]) (rest := []) ⟨hx, hb, hml, hown, hts⟩ (kX12_within l D ca za h hh f L Q hI w_65 0 1 H.size) (va_cwS 3 hts (gw_S (fun _ h => List.mem_cons_of_mem _ h) mw_631 mw_632 mw_619 mw_630) rfl rfl rfl hd_yX12_within.2 ⟨Nat.le_of_ble_eq_true rfl, Nat.le_of_ble_eq_true rfl⟩) (sg_preS hA hK hP hS hZ) rfl rfl hl.1 rfl (lv_room (Nat.le_of_ble_eq_true rfl)) dX12_drawn_26 ⟨Nat.le_refl _, Nat.le_refl _⟩) hA hS (fun r_70 f_67 L_68 Q_69 H locs hq hP hS => ?_)
      obtain ⟨⟨ef9, eL9, eQ9⟩, hq, u_71⟩ := hq
      replace hs := hs.trans ((if_pos rfl).trans (spl_e ew_65 (spl_e u_71 rfl)))
      rw [ef9, eL9, eQ9] at hP; clear ef9 eL9 eQ9
      have k_72 : (0 : Int64).toInt = 0 := by decide
      have k_73 : (1 : Int64).toInt = 1 := by decide
      rcases hq with ⟨rfl, hq⟩ | ⟨rfl, hq⟩
      · skip
        have hc_74 := hq
        refine lv_if_ne (tgt := 34) hx hb dX12_drawn_29 (by decide) (fun c => ?_) (fun c => absurd c (by decide))
        refine lv_aload_n hx hb dX12_drawn_34 rfl (lv_at hl 0 rfl) ?_
        refine lv_iload_n hx hb dX12_drawn_35 rfl (lv_at hl 1 rfl) ?_
        refine sg_calli (va_runV (As := [.int x0]) (rest := []) ⟨hx, hb, hml, hown, hts⟩ (kX12_bytesIs l D ca za h hh f L Q hI x0 H.size) (sl_c12_bytesIs_2_0_0_45_12 hts ⟨Nat.le_of_ble_eq_true rfl, Nat.le_of_ble_eq_true rfl⟩) (sl_vM_0 hA hK hP hS hZ) rfl rfl hl.1 rfl (lv_room (Nat.le_of_ble_eq_true rfl)) dX12_drawn_36 ⟨Nat.le_refl _, Nat.le_refl _⟩) hA hS (fun r_78 f_75 L_76 Q_77 H locs hq hP hS => ?_)
        obtain ⟨⟨ef9, eL9, eQ9⟩, hq, u_79⟩ := hq
        rw [ef9, eL9, eQ9] at hP; clear ef9 eL9 eQ9
        rw [show r_78 = 1 from u_79.trans u_53.symm]
        refine lv_if_ge (tgt := 48) hx hb dX12_drawn_39 (by decide) (fun c => ?_) (fun c => absurd c (by decide))
        refine lv_iload_n hx hb dX12_drawn_48 rfl (lv_at hl 2 rfl) ?_
        refine lv_istore (lv' := [(5, .int x1), (0, .ref (h 0)), (1, .int x0), (2, .int x1), (3, .int x2), (4, .int x3)]) hx hb dX12_drawn_49 hl (by decide) rfl (fun ls hl => ?_)
        refine lv_iconst (v := 0) hx hb dX12_drawn_51 ic_0 ?_
        refine lv_istore (lv' := [(6, .int 0), (5, .int x1), (0, .ref (h 0)), (1, .int x0), (2, .int x1), (3, .int x2), (4, .int x3)]) hx hb dX12_drawn_52 hl (by decide) rfl (fun ls hl => ?_)
        refine lv_iconst (v := 0) hx hb dX12_drawn_54 ic_0 ?_
        refine lv_istore (lv' := [(7, .int 0), (6, .int 0), (5, .int x1), (0, .ref (h 0)), (1, .int x0), (2, .int x1), (3, .int x2), (4, .int x3)]) hx hb dX12_drawn_55 hl (by decide) rfl (fun ls hl => ?_)
        refine lv_iconst (v := 0) hx hb dX12_drawn_57 ic_0 ?_
        refine lv_istore (lv' := [(8, .int 0), (7, .int 0), (6, .int 0), (5, .int x1), (0, .ref (h 0)), (1, .int x0), (2, .int x1), (3, .int x2), (4, .int x3)]) hx hb dX12_drawn_58 hl (by decide) rfl (fun ls hl => ?_)
        exact loop_60 21 x1 0 0 0 f _ _ _ (hs.trans ((if_pos rfl).trans rfl)) (by have kc1 : (0 : Int32).toInt = 0 := ti_0; have kc2 : (0 : Int32).toInt = 0 := ti_0; have kc3 : (0 : Int32).toInt = 0 := ti_0; omega) ⟨by omega, by omega⟩ ⟨by omega, by omega⟩ ⟨by omega, by omega⟩ (by decide) hI hF hP hS (lv_sub hl [4, 5, 7, 8, 3, 2, 1, 0] rfl)
      · skip
        have hc_74 := hq
        refine lv_if_ne (tgt := 34) hx hb dX12_drawn_29 (by decide) (fun c => absurd c (by decide)) (fun c => ?_)
        refine lv_iconst (v := (-1)) hx hb dX12_drawn_32 ic_m1 ?_
        have k99 : ((-1) : Int32).toInt = (-1) := ti_m1
        exact hret _ _ _ _ (-1) f L Q dX12_drawn_33 hP hS ⟨⟨hI, hF, rfl, rfl⟩, trivial, (Eq.trans (Eq.symm (hs.trans ((if_neg (by decide)).trans rfl))) hsp)⟩
    · skip
      have hc_64 := hq
      refine lv_if_eq (tgt := 32) hx hb dX12_drawn_18 (by decide) (fun c => ?_) (fun c => absurd c (by decide))
      refine lv_iconst (v := (-1)) hx hb dX12_drawn_32 ic_m1 ?_
      have k99 : ((-1) : Int32).toInt = (-1) := ti_m1
      exact hret _ _ _ _ (-1) f L Q dX12_drawn_33 hP hS ⟨⟨hI, hF, rfl, rfl⟩, trivial, (Eq.trans (Eq.symm (hs.trans ((if_neg (by decide)).trans rfl))) hsp)⟩
  · skip
    have hc_54 := hq
    refine lv_iconst (v := (-1)) hx hb dX12_drawn_5 ic_m1 ?_
    refine lv_icmp_eq (tgt := 32) hx hb dX12_drawn_6 (by decide) (fun c => ?_) (fun c => ?_)
    · skip
      exfalso; have c_80 : r_52.toInt = (-1) := (by first | exact (cm_eq1 ti_m1 c) | (have z := Int32.toInt_inj.mpr c; have k1 : ((-1) : Int32).toInt = (-1) := ti_m1; omega)); first | exact absurd c_80 (by assumption) | omega
    · skip
      have c_81 : r_52.toInt ≠ (-1) := (by first | exact (cm_ne1 ti_m1 c) | (have z := bn_ne c; have k1 : ((-1) : Int32).toInt = (-1) := ti_m1; omega))
      refine lv_iload_n hx hb dX12_drawn_9 rfl (lv_at hl 3 rfl) ?_
      obtain ⟨w_82, ew_82⟩ : ∃ z : Int64, z = Int32.toInt64 x2 := ⟨_, rfl⟩
      have q_83 : w_82.toInt = x2.toInt := by rw [ew_82]; exact Int32.toInt_toInt64 _
      refine lv_i2l (v := w_82) hx hb dX12_drawn_10 ew_82.symm ?_
      refine lv_lconst (v := 1) hx hb dX12_drawn_11 (by decide) ?_
      refine lv_ldc2 (v := 20) hx hb hown (hts _ (List.mem_cons_of_mem _ mw_688)) dX12_drawn_12 ?_
      refine sg_calli (va_runS (As := [.long w_82, .long 1, .long 20]) (rest := []) ⟨hx, hb, hml, hown, hts⟩ (kX12_within l D ca za h hh f L Q hI w_82 1 20 H.size) (va_cwS 3 hts (gw_S (fun _ h => List.mem_cons_of_mem _ h) mw_631 mw_632 mw_619 mw_630) rfl rfl rfl hd_yX12_within.2 ⟨Nat.le_of_ble_eq_true rfl, Nat.le_of_ble_eq_true rfl⟩) (sg_preS hA hK hP hS hZ) rfl rfl hl.1 rfl (lv_room (Nat.le_of_ble_eq_true rfl)) dX12_drawn_15 ⟨Nat.le_refl _, Nat.le_refl _⟩) hA hS (fun r_87 f_84 L_85 Q_86 H locs hq hP hS => ?_)
      obtain ⟨⟨ef9, eL9, eQ9⟩, hq, u_88⟩ := hq
      rw [ef9, eL9, eQ9] at hP; clear ef9 eL9 eQ9
      have k_89 : (1 : Int64).toInt = 1 := by decide
      have k_90 : (20 : Int64).toInt = 20 := by decide
      rcases hq with ⟨rfl, hq⟩ | ⟨rfl, hq⟩
      · skip
        have hc_91 := hq
        refine lv_if_eq (tgt := 32) hx hb dX12_drawn_18 (by decide) (fun c => absurd c (by decide)) (fun c => ?_)
        refine lv_iload hx hb dX12_drawn_21 (lv_at hl 4 rfl) ?_
        obtain ⟨w_92, ew_92⟩ : ∃ z : Int64, z = Int32.toInt64 x3 := ⟨_, rfl⟩
        have q_93 : w_92.toInt = x3.toInt := by rw [ew_92]; exact Int32.toInt_toInt64 _
        refine lv_i2l (v := w_92) hx hb dX12_drawn_23 ew_92.symm ?_
        refine lv_lconst (v := 0) hx hb dX12_drawn_24 (by decide) ?_
        refine lv_lconst (v := 1) hx hb dX12_drawn_25 (by decide) ?_
        refine sg_calli (va_runS (As := [.long w_92, .long 0, .long 1]) (rest := []) ⟨hx, hb, hml, hown, hts⟩ (kX12_within l D ca za h hh f L Q hI w_92 0 1 H.size) (va_cwS 3 hts (gw_S (fun _ h => List.mem_cons_of_mem _ h) mw_631 mw_632 mw_619 mw_630) rfl rfl rfl hd_yX12_within.2 ⟨Nat.le_of_ble_eq_true rfl, Nat.le_of_ble_eq_true rfl⟩) (sg_preS hA hK hP hS hZ) rfl rfl hl.1 rfl (lv_room (Nat.le_of_ble_eq_true rfl)) dX12_drawn_26 ⟨Nat.le_refl _, Nat.le_refl _⟩) hA hS (fun r_97 f_94 L_95 Q_96 H locs hq hP hS => ?_)
        obtain ⟨⟨ef9, eL9, eQ9⟩, hq, u_98⟩ := hq
        rw [ef9, eL9, eQ9] at hP; clear ef9 eL9 eQ9
        have k_99 : (0 : Int64).toInt = 0 := by decide
        have k_100 : (1 : Int64).toInt = 1 := by decide
        rcases hq with ⟨rfl, hq⟩ | ⟨rfl, hq⟩
        · skip
          have hc_101 := hq
          refine lv_if_ne (tgt := 34) hx hb dX12_drawn_29 (by decide) (fun c => ?_) (fun c => absurd c (by decide))
          refine lv_aload_n hx hb dX12_drawn_34 rfl (lv_at hl 0 rfl) ?_
          refine lv_iload_n hx hb dX12_drawn_35 rfl (lv_at hl 1 rfl) ?_
          refine sg_calli (va_runV (As := [.int x0]) (rest := []) ⟨hx, hb, hml, hown, hts⟩ (kX12_bytesIs l D ca za h hh f L Q hI x0 H.size) (sl_c12_bytesIs_2_0_0_45_12 hts ⟨Nat.le_of_ble_eq_true rfl, Nat.le_of_ble_eq_true rfl⟩) (sl_vM_0 hA hK hP hS hZ) rfl rfl hl.1 rfl (lv_room (Nat.le_of_ble_eq_true rfl)) dX12_drawn_36 ⟨Nat.le_refl _, Nat.le_refl _⟩) hA hS (fun r_105 f_102 L_103 Q_104 H locs hq hP hS => ?_)
          obtain ⟨⟨ef9, eL9, eQ9⟩, hq, u_106⟩ := hq
          rw [ef9, eL9, eQ9] at hP; clear ef9 eL9 eQ9
          rw [show r_105 = r_52 from u_106.trans u_53.symm]
          refine lv_if_ge (tgt := 48) hx hb dX12_drawn_39 (by decide) (fun c => ?_) (fun c => ?_)
          · skip
            exfalso; have c_107 : 0 ≤ r_52.toInt := (by first | exact (cm_le0 ti_0 c) | (have z := bn_le c; have k1 : (0 : Int32).toInt = 0 := ti_0; omega)); omega
          · skip
            have c_108 : r_52.toInt < 0 := (by first | exact (cm_nle0 ti_0 c) | (have z := bn_nle c; have k1 : (0 : Int32).toInt = 0 := ti_0; omega))
            refine lv_aload_n hx hb dX12_drawn_42 rfl (lv_at hl 0 rfl) ?_
            refine lv_iload_n hx hb dX12_drawn_43 rfl (lv_at hl 1 rfl) ?_
            refine sg_calli (va_runV (As := [.int x0]) (rest := []) ⟨hx, hb, hml, hown, hts⟩ (kX12_bytesIs l D ca za h hh f L Q hI x0 H.size) (sl_c12_bytesIs_2_0_0_45_12 hts ⟨Nat.le_of_ble_eq_true rfl, Nat.le_of_ble_eq_true rfl⟩) (sl_vM_0 hA hK hP hS hZ) rfl rfl hl.1 rfl (lv_room (Nat.le_of_ble_eq_true rfl)) dX12_drawn_44 ⟨Nat.le_refl _, Nat.le_refl _⟩) hA hS (fun r_112 f_109 L_110 Q_111 H locs hq hP hS => ?_)
            obtain ⟨⟨ef9, eL9, eQ9⟩, hq, u_113⟩ := hq
            rw [ef9, eL9, eQ9] at hP; clear ef9 eL9 eQ9
            rw [show r_112 = r_52 from u_113.trans u_53.symm]
            exact hret _ _ _ _ (r_52) f L Q dX12_drawn_47 hP hS ⟨⟨hI, hF, rfl, rfl⟩, trivial, (Eq.trans (Eq.symm (hs.trans ((if_neg (fun z9 => by have k9 : (1 : Int32).toInt = 1 := ti_1; have h9 := hc_54; rw [z9] at h9; omega)).trans ((if_neg (fun z9 => by have k9 : ((-1) : Int32).toInt = (-1) := ti_m1; have h9 := hc_54; rw [z9] at h9; omega)).trans (spl_e ew_82 (spl_e u_88 ((if_pos rfl).trans (spl_e ew_92 (spl_e u_98 ((if_pos rfl).trans rfl)))))))))) hsp)⟩
        · skip
          have hc_101 := hq
          refine lv_if_ne (tgt := 34) hx hb dX12_drawn_29 (by decide) (fun c => absurd c (by decide)) (fun c => ?_)
          refine lv_iconst (v := (-1)) hx hb dX12_drawn_32 ic_m1 ?_
          have k99 : ((-1) : Int32).toInt = (-1) := ti_m1
          exact hret _ _ _ _ (-1) f L Q dX12_drawn_33 hP hS ⟨⟨hI, hF, rfl, rfl⟩, trivial, (Eq.trans (Eq.symm (hs.trans ((if_neg (fun z9 => by have k9 : (1 : Int32).toInt = 1 := ti_1; have h9 := hc_54; rw [z9] at h9; omega)).trans ((if_neg (fun z9 => by have k9 : ((-1) : Int32).toInt = (-1) := ti_m1; have h9 := hc_54; rw [z9] at h9; omega)).trans (spl_e ew_82 (spl_e u_88 ((if_pos rfl).trans (spl_e ew_92 (spl_e u_98 ((if_neg (by decide)).trans rfl)))))))))) hsp)⟩
      · skip
        have hc_91 := hq
        refine lv_if_eq (tgt := 32) hx hb dX12_drawn_18 (by decide) (fun c => ?_) (fun c => absurd c (by decide))
        refine lv_iconst (v := (-1)) hx hb dX12_drawn_32 ic_m1 ?_
        have k99 : ((-1) : Int32).toInt = (-1) := ti_m1
        exact hret _ _ _ _ (-1) f L Q dX12_drawn_33 hP hS ⟨⟨hI, hF, rfl, rfl⟩, trivial, (Eq.trans (Eq.symm (hs.trans ((if_neg (fun z9 => by have k9 : (1 : Int32).toInt = 1 := ti_1; have h9 := hc_54; rw [z9] at h9; omega)).trans ((if_neg (fun z9 => by have k9 : ((-1) : Int32).toInt = (-1) := ti_m1; have h9 := hc_54; rw [z9] at h9; omega)).trans (spl_e ew_82 (spl_e u_88 ((if_neg (by decide)).trans rfl))))))) hsp)⟩
  · skip
    have hc_54 := hq
    refine lv_iconst (v := (-1)) hx hb dX12_drawn_5 ic_m1 ?_
    refine lv_icmp_eq (tgt := 32) hx hb dX12_drawn_6 (by decide) (fun c => ?_) (fun c => absurd c (by decide))
    refine lv_iconst (v := (-1)) hx hb dX12_drawn_32 ic_m1 ?_
    have k99 : ((-1) : Int32).toInt = (-1) := ti_m1
    exact hret _ _ _ _ (-1) f L Q dX12_drawn_33 hP hS ⟨⟨hI, hF, rfl, rfl⟩, trivial, (Eq.trans (Eq.symm (hs.trans ((if_neg (by decide)).trans ((if_pos rfl).trans rfl)))) hsp)⟩

abbrev WkX12_sit : List (Nat × Nat × Option Nat) := [(0, 0, some 12), (0, 0, some 13), (0, 0, some 14), (0, 0, some 15), (0, 0, some 16), (0, 0, some 29), (0, 0, some 30), (0, 0, some 31), (0, 0, some 38), (0, 0, some 39), (0, 0, some 40), (0, 0, some 41), (0, 0, some 42), (5, 5, none), (8, 8, none), (12, 12, none)]
set_option maxHeartbeats 4000000 in
set_option maxRecDepth 100000 in
theorem kX12_sit (l : Launch) (D : va_G) (ca : Nat → ClassId) (za h : Nat → Nat) (hh : sgH 26 h) (f : sg_F) (L : sg_L) (Q : sg_Q) (hI : sgI loM hiM f) (x0 : Int32) (sz : Nat) : Met l yX12_sit gwX12_sit { frames := 46, cells := 0, slots := 0, locals := 1055 } (sgP D vwCl (tyX ca) 26 h (eM ca h) zcM za f L Q sz [.ref (h 0), .int x0]) (sgQi D vwCl 26 h (eM ca h) sz (fun r f1 L1 Q1 => ((sgI loM hiM f1 ∧ sgK WkX12_sit f f1 ∧ L1 = L ∧ Q1 = Q) ∧ True ∧ (r, f1) = sX12_sit x0 f L))) 0 0 (sgA 26 h sz) := by
  refine sg_ofWi (cc := cX12_sit) (maxL := 3) RX12 (by decide) rfl rfl (Nat.le_of_ble_eq_true rfl) ?_
  intro p e s m below meth cd Qz ls hx hb hml hown hts hK hZ hP hS hl hret
  have hA := sgY.self (n := 26) (h := h) (sz := s.heap.size)
  have hl : lv_has ls 3 [(0, .ref (h 0)), (1, .int x0)] := hl
  obtain ⟨H, hH⟩ : ∃ z : Heap, z = s.heap := ⟨_, rfl⟩
  obtain ⟨locs, hlo⟩ : ∃ z : List Loc, z = [] := ⟨_, rfl⟩
  have hP : va_P D vwCl (sgw 26 h (eM ca h) f L Q) H := by rw [hH]; exact hP
  have hS : va_S (sgA 26 h s.heap.size) s.heap H locs := by rw [hH, hlo]; exact hS
  suffices hgo : W p l e ({ frames := 46, cells := 0, slots := 0, locals := 1055 }) s m ([.ref (h 0), .int x0] : List Value).toArray below meth cd H locs 0 0 Qz (F0 m 0 ls []) by rw [hH, hlo] at hgo; exact hgo
  clear hH hlo
  obtain ⟨sp, hsp⟩ : ∃ z : Int32 × sg_F, z = sX12_sit x0 f L := ⟨_, rfl⟩
  have hs : sp = sX12_sit x0 f L := hsp
  have hF : sgK WkX12_sit f f := sgK.rf
  have loop_22 : ∀ (n_22 : Nat) (y2_22 : Int32) (fp_22 : sg_F) (H : Heap) (locs : List Loc) (ls : Array Slot), sp = sX12_sit_l22 x0 n_22 y2_22 fp_22 L → 3 - y2_22.toInt < (n_22 : Int) → 0 ≤ x0.toInt ∧ x0.toInt ≤ 7 → 0 ≤ y2_22.toInt ∧ y2_22.toInt ≤ 3 → sgI loM hiM fp_22 → sgK WkX12_sit f fp_22 → va_P D vwCl (sgw 26 h (eM ca h) fp_22 L Q) H → va_S (sgA 26 h s.heap.size) s.heap H locs → lv_has ls 3 [(0, .ref (h 0)), (1, .int x0), (2, .int y2_22)] → W p l e ({ frames := 46, cells := 0, slots := 0, locals := 1055 }) s m ([.ref (h 0), .int x0] : List Value).toArray below meth cd H locs 0 0 Qz (F0 m 22 ls []) := by
    intro n_22
    induction n_22 with
    | zero => intro y2_22 fp_22 H locs ls hs hm_22 hy0_22 hy1_22 hI hF hP hS hl; exact absurd hm_22 (by omega)
    | succ n_22 ih_22 =>
      intro y2_22 fp_22 H locs ls hs hm_22 hy0_22 hy1_22 hI hF hP hS hl
      have hs : sp = sX12_sit_h22 x0 (sX12_sit_l22 x0 n_22) y2_22 fp_22 L := hs
      refine lv_iload_n hx hb dX12_sit_22 rfl (lv_at hl 2 rfl) ?_
      refine lv_iconst (v := 3) hx hb dX12_sit_23 ic_3 ?_
      refine lv_icmp_ge (tgt := 45) hx hb dX12_sit_24 (by decide) (fun c => ?_) (fun c => ?_)
      · skip
        have c_1 : 3 ≤ y2_22.toInt := (by first | exact (cm_le0 ti_3 c) | (have z := bn_le c; have k1 : (3 : Int32).toInt = 3 := ti_3; omega))
        refine lv_aload_n hx hb dX12_sit_45 rfl (lv_at hl 0 rfl) ?_
        refine sl_gM_0_31_12 (v := (fp_22 0 31)) hx hb hts hown hK hP rfl dX12_sit_46 ?_
        refine lv_topi (fun v_3 ev_3 => ?_)
        refine lv_aload_n hx hb dX12_sit_49 rfl (lv_at hl 0 rfl) ?_
        refine sl_gM_0_30_12 (v := (fp_22 0 30)) hx hb hts hown hK hP rfl dX12_sit_50 ?_
        refine lv_topi (fun v_4 ev_4 => ?_)
        refine lv_iadd hx hb dX12_sit_53 ?_
        refine lv_topi (fun v_5 ev_5 => ?_)
        refine lv_istore_n (lv' := [(2, .int v_5), (0, .ref (h 0)), (1, .int x0)]) hx hb dX12_sit_54 rfl hl (by decide) rfl (fun ls hl => ?_)
        refine lv_aload_n hx hb dX12_sit_55 rfl (lv_at hl 1 rfl) ?_
        refine lv_dup hx hb dX12_sit_56 rfl ?_
        refine sl_gM_0_38_12 (v := (fp_22 0 38)) hx hb hts hown hK hP rfl dX12_sit_57 ?_
        refine lv_topi (fun v_6 ev_6 => ?_)
        refine lv_iconst (v := 1) hx hb dX12_sit_60 ic_1 ?_
        refine lv_iadd hx hb dX12_sit_61 ?_
        refine lv_topi (fun v_7 ev_7 => ?_)
        refine sl_pM_0_38_12 (x := v_7) hx hb hts hown hh hA hK hP hS dX12_sit_62 (fun f_8 H locs ef_8 hP hS => ?_)
        have hI : sgI loM hiM f_8 := by rw [ef_8]; exact sgI.put hI 0 38 (bn_top _)
        have hF : sgK WkX12_sit f f_8 := sgK.put hF ef_8 (by rfl)
        refine lv_aload_n hx hb dX12_sit_65 rfl (lv_at hl 1 rfl) ?_
        refine lv_dup hx hb dX12_sit_66 rfl ?_
        refine sl_gM_0_39_12 (v := (f_8 0 39)) hx hb hts hown hK hP rfl dX12_sit_67 ?_
        refine lv_topi (fun v_9 ev_9 => ?_)
        refine lv_aload_n hx hb dX12_sit_70 rfl (lv_at hl 1 rfl) ?_
        refine sl_gM_0_29_12 (v := (f_8 0 29)) hx hb hts hown hK hP rfl dX12_sit_71 ?_
        refine lv_topi (fun v_10 ev_10 => ?_)
        refine lv_iadd hx hb dX12_sit_74 ?_
        refine lv_topi (fun v_11 ev_11 => ?_)
        refine sl_pM_0_39_12 (x := v_11) hx hb hts hown hh hA hK hP hS dX12_sit_75 (fun f_12 H locs ef_12 hP hS => ?_)
        have hI : sgI loM hiM f_12 := by rw [ef_12]; exact sgI.put hI 0 39 (bn_top _)
        have hF : sgK WkX12_sit f f_12 := sgK.put hF ef_12 (by rfl)
        refine lv_aload_n hx hb dX12_sit_78 rfl (lv_at hl 1 rfl) ?_
        refine lv_dup hx hb dX12_sit_79 rfl ?_
        refine sl_gM_0_40_12 (v := (f_12 0 40)) hx hb hts hown hK hP rfl dX12_sit_80 ?_
        refine lv_topi (fun v_13 ev_13 => ?_)
        refine lv_aload_n hx hb dX12_sit_83 rfl (lv_at hl 1 rfl) ?_
        refine sl_gM_0_30_12 (v := v_4) hx hb hts hown hK hP (show f_12 0 30 = v_4 from (by rw [ef_12, sg_up_s, sgu_n (by decide)]; exact (by rw [ef_8, sg_up_s, sgu_n (by decide)]; exact ev_4.symm))) dX12_sit_84 ?_
        refine lv_iadd hx hb dX12_sit_87 ?_
        refine lv_topi (fun v_14 ev_14 => ?_)
        refine sl_pM_0_40_12 (x := v_14) hx hb hts hown hh hA hK hP hS dX12_sit_88 (fun f_15 H locs ef_15 hP hS => ?_)
        have hI : sgI loM hiM f_15 := by rw [ef_15]; exact sgI.put hI 0 40 (bn_top _)
        have hF : sgK WkX12_sit f f_15 := sgK.put hF ef_15 (by rfl)
        refine lv_aload_n hx hb dX12_sit_91 rfl (lv_at hl 1 rfl) ?_
        refine lv_iload_n hx hb dX12_sit_92 rfl (lv_at hl 0 rfl) ?_
        refine lv_aload_n hx hb dX12_sit_93 rfl (lv_at hl 1 rfl) ?_
        refine sl_gM_0_41_12 (v := (f_15 0 41)) hx hb hts hown hK hP rfl dX12_sit_94 ?_
        refine lv_topi (fun v_16 ev_16 => ?_)
        replace hs := hs.trans ((if_neg (Int.not_lt.mpr c_1)).trans (spl_e ev_3 (spl_e ev_4 (spl_e ev_5 (spl_e ev_6 (spl_e ev_7 (spl_e ef_8 (spl_e ev_9 (spl_e ev_10 (spl_e ev_11 (spl_e ef_12 (spl_e ev_13 (spl_e ev_14 (spl_e ef_15 (spl_e ev_16 rfl)))))))))))))))
        refine lv_icmp_le (tgt := 104) hx hb dX12_sit_97 (by decide) (fun c => ?_) (fun c => ?_)
        · skip
          have c_17 : v_5.toInt ≤ v_16.toInt := (by first | exact (bn_le c) | (have z := bn_le c; omega))
          refine lv_aload_n hx hb dX12_sit_104 rfl (lv_at hl 1 rfl) ?_
          refine sl_gM_0_42_12 (v := (f_15 0 42)) hx hb hts hown hK hP rfl dX12_sit_105 ?_
          refine lv_topi (fun v_19 ev_19 => ?_)
          refine sl_pM_0_42_12 (x := v_19) hx hb hts hown hh hA hK hP hS dX12_sit_108 (fun f_20 H locs ef_20 hP hS => ?_)
          replace hs := hs.trans ((if_neg (Int.not_lt.mpr c_17)).trans (spl_e ev_19 (spl_e ef_20 rfl)))
          have hI : sgI loM hiM f_20 := by rw [ef_20]; exact sgI.put hI 0 42 (bn_top _)
          have hF : sgK WkX12_sit f f_20 := sgK.put hF ef_20 (by rfl)
          refine lv_aload_n hx hb dX12_sit_111 rfl (lv_at hl 1 rfl) ?_
          refine lv_iload_n hx hb dX12_sit_112 rfl (lv_at hl 0 rfl) ?_
          refine lv_aload_n hx hb dX12_sit_113 rfl (lv_at hl 1 rfl) ?_
          refine sl_gM_0_41_12 (v := v_16) hx hb hts hown hK hP (show f_20 0 41 = v_16 from (by rw [ef_20, sg_up_s, sgu_n (by decide)]; exact ev_16.symm)) dX12_sit_114 ?_
          refine lv_icmp_le (tgt := 124) hx hb dX12_sit_117 (by decide) (fun c => ?_) (fun c => ?_)
          · skip
            have c_21 : v_5.toInt ≤ v_16.toInt := (by first | exact (bn_le c) | (have z := bn_le c; omega))
            refine lv_aload_n hx hb dX12_sit_124 rfl (lv_at hl 1 rfl) ?_
            refine sl_gM_0_41_12 (v := v_16) hx hb hts hown hK hP (show f_20 0 41 = v_16 from (by rw [ef_20, sg_up_s, sgu_n (by decide)]; exact ev_16.symm)) dX12_sit_125 ?_
            refine sl_pM_0_41_12 (x := v_16) hx hb hts hown hh hA hK hP hS dX12_sit_128 (fun f_23 H locs ef_23 hP hS => ?_)
            have hI : sgI loM hiM f_23 := by rw [ef_23]; exact sgI.put hI 0 41 (bn_top _)
            have hF : sgK WkX12_sit f f_23 := sgK.put hF ef_23 (by rfl)
            refine lv_iload_n hx hb dX12_sit_131 rfl (lv_at hl 0 rfl) ?_
            exact hret _ _ _ _ (v_5) f_23 L Q dX12_sit_132 hP hS ⟨⟨hI, hF, rfl, rfl⟩, trivial, (Eq.trans (Eq.symm (hs.trans ((if_neg (Int.not_lt.mpr c_21)).trans (spl_e ef_23 rfl)))) hsp)⟩
          · skip
            have c_22 : v_16.toInt < v_5.toInt := (by first | exact (bn_nle c) | (have z := bn_nle c; omega))
            refine lv_iload_n hx hb dX12_sit_120 rfl (lv_at hl 0 rfl) ?_
            refine lv_goto (tgt := 128) hx hb dX12_sit_121 (by decide) ?_
            refine sl_pM_0_41_12 (x := v_5) hx hb hts hown hh hA hK hP hS dX12_sit_128 (fun f_24 H locs ef_24 hP hS => ?_)
            have hI : sgI loM hiM f_24 := by rw [ef_24]; exact sgI.put hI 0 41 (bn_top _)
            have hF : sgK WkX12_sit f f_24 := sgK.put hF ef_24 (by rfl)
            refine lv_iload_n hx hb dX12_sit_131 rfl (lv_at hl 0 rfl) ?_
            exact hret _ _ _ _ (v_5) f_24 L Q dX12_sit_132 hP hS ⟨⟨hI, hF, rfl, rfl⟩, trivial, (Eq.trans (Eq.symm (hs.trans ((if_pos c_22).trans (spl_e ef_24 rfl)))) hsp)⟩
        · skip
          have c_18 : v_16.toInt < v_5.toInt := (by first | exact (bn_nle c) | (have z := bn_nle c; omega))
          refine lv_iload_n hx hb dX12_sit_100 rfl (lv_at hl 2 rfl) ?_
          refine lv_goto (tgt := 108) hx hb dX12_sit_101 (by decide) ?_
          refine sl_pM_0_42_12 (x := x0) hx hb hts hown hh hA hK hP hS dX12_sit_108 (fun f_25 H locs ef_25 hP hS => ?_)
          replace hs := hs.trans ((if_pos c_18).trans (spl_e ef_25 rfl))
          have hI : sgI loM hiM f_25 := by rw [ef_25]; exact sgI.put hI 0 42 (bn_top _)
          have hF : sgK WkX12_sit f f_25 := sgK.put hF ef_25 (by rfl)
          refine lv_aload_n hx hb dX12_sit_111 rfl (lv_at hl 1 rfl) ?_
          refine lv_iload_n hx hb dX12_sit_112 rfl (lv_at hl 0 rfl) ?_
          refine lv_aload_n hx hb dX12_sit_113 rfl (lv_at hl 1 rfl) ?_
          refine sl_gM_0_41_12 (v := v_16) hx hb hts hown hK hP (show f_25 0 41 = v_16 from (by rw [ef_25, sg_up_s, sgu_n (by decide)]; exact ev_16.symm)) dX12_sit_114 ?_
          refine lv_icmp_le (tgt := 124) hx hb dX12_sit_117 (by decide) (fun c => ?_) (fun c => ?_)
          · skip
            have c_26 : v_5.toInt ≤ v_16.toInt := (by first | exact (bn_le c) | (have z := bn_le c; omega))
            refine lv_aload_n hx hb dX12_sit_124 rfl (lv_at hl 1 rfl) ?_
            refine sl_gM_0_41_12 (v := v_16) hx hb hts hown hK hP (show f_25 0 41 = v_16 from (by rw [ef_25, sg_up_s, sgu_n (by decide)]; exact ev_16.symm)) dX12_sit_125 ?_
            refine sl_pM_0_41_12 (x := v_16) hx hb hts hown hh hA hK hP hS dX12_sit_128 (fun f_28 H locs ef_28 hP hS => ?_)
            have hI : sgI loM hiM f_28 := by rw [ef_28]; exact sgI.put hI 0 41 (bn_top _)
            have hF : sgK WkX12_sit f f_28 := sgK.put hF ef_28 (by rfl)
            refine lv_iload_n hx hb dX12_sit_131 rfl (lv_at hl 0 rfl) ?_
            exact hret _ _ _ _ (v_5) f_28 L Q dX12_sit_132 hP hS ⟨⟨hI, hF, rfl, rfl⟩, trivial, (Eq.trans (Eq.symm (hs.trans ((if_neg (Int.not_lt.mpr c_26)).trans (spl_e ef_28 rfl)))) hsp)⟩
          · skip
            have c_27 : v_16.toInt < v_5.toInt := (by first | exact (bn_nle c) | (have z := bn_nle c; omega))
            refine lv_iload_n hx hb dX12_sit_120 rfl (lv_at hl 0 rfl) ?_
            refine lv_goto (tgt := 128) hx hb dX12_sit_121 (by decide) ?_
            refine sl_pM_0_41_12 (x := v_5) hx hb hts hown hh hA hK hP hS dX12_sit_128 (fun f_29 H locs ef_29 hP hS => ?_)
            have hI : sgI loM hiM f_29 := by rw [ef_29]; exact sgI.put hI 0 41 (bn_top _)
            have hF : sgK WkX12_sit f f_29 := sgK.put hF ef_29 (by rfl)
            refine lv_iload_n hx hb dX12_sit_131 rfl (lv_at hl 0 rfl) ?_
            exact hret _ _ _ _ (v_5) f_29 L Q dX12_sit_132 hP hS ⟨⟨hI, hF, rfl, rfl⟩, trivial, (Eq.trans (Eq.symm (hs.trans ((if_pos c_27).trans (spl_e ef_29 rfl)))) hsp)⟩
      · skip
        have c_2 : y2_22.toInt < 3 := (by first | exact (cm_nle0 ti_3 c) | (have z := bn_nle c; have k1 : (3 : Int32).toInt = 3 := ti_3; omega))
        refine lv_aload_n hx hb dX12_sit_27 rfl (lv_at hl 0 rfl) ?_
        refine sl_gM_0_7_12 hx hb hts hown hK hP dX12_sit_28 ?_
        refine lv_iload_n hx hb dX12_sit_31 rfl (lv_at hl 2 rfl) ?_
        refine lv_aload_n hx hb dX12_sit_32 rfl (lv_at hl 0 rfl) ?_
        refine sl_gM_0_27_12 hx hb hts hown hK hP dX12_sit_33 ?_
        refine lv_iload_n hx hb dX12_sit_36 rfl (lv_at hl 2 rfl) ?_
        refine sg_iald hx hb hK hP 12 (by decide) 0 rfl rfl (i := y2_22) (vp_in_iff.mpr ⟨by omega, by omega⟩) dX12_sit_37 ?_
        refine lv_topi (fun v_30 ev_30 => ?_)
        have q_31 : 0 ≤ v_30.toInt ∧ v_30.toInt ≤ 60 := by rw [ev_30]; exact hI 12 _
        refine sg_iast hx hb hh hA hK hP hS 5 (by decide) 0 (fun _ => rfl) rfl (i := y2_22) (x := v_30) (vp_in_iff.mpr ⟨by omega, by omega⟩) dX12_sit_38 (fun f_32 H locs ef_32 hP hS => ?_)
        have hI : sgI loM hiM f_32 := by rw [ef_32]; exact sgI.put hI 5 y2_22.toNatClampNeg (show 0 ≤ (v_30 : Int32).toInt ∧ (v_30 : Int32).toInt ≤ 60 from q_31)
        have hF : sgK WkX12_sit f f_32 := sgK.put hF ef_32 (by rfl)
        obtain ⟨v_33, ev_33⟩ : ∃ z : Int32, z = y2_22 + 1 := ⟨_, rfl⟩
        have q_34 : v_33.toInt = y2_22.toInt + 1 := by rw [ev_33]; exact (bn_addc y2_22 1 (by decide) (by omega) (by omega))
        refine lv_iinc (v := v_33) (lv' := [(2, .int v_33), (0, .ref (h 0)), (1, .int x0)]) hx hb dX12_sit_39 hl (k := 2) rfl (by rw [ev_33]; rfl) (by decide) rfl (fun ls hl => ?_)
        refine lv_goto (tgt := 22) hx hb dX12_sit_42 (by decide) ?_
        exact ih_22 v_33 f_32 _ _ _ (hs.trans (((if_pos c_2).trans (spl_e ev_30 (spl_e ef_32 (spl_e ev_33 rfl)))))) (by omega) hy0_22 ⟨by omega, by omega⟩ hI hF hP hS (lv_sub hl [1, 2, 0] rfl)
  refine lv_aload_n hx hb dX12_sit_0 rfl (lv_at hl 0 rfl) ?_
  refine lv_iload_n hx hb dX12_sit_1 rfl (lv_at hl 1 rfl) ?_
  obtain ⟨w_35, ew_35⟩ : ∃ z : Int64, z = Int32.toInt64 x0 := ⟨_, rfl⟩
  have q_36 : w_35.toInt = x0.toInt := by rw [ew_35]; exact Int32.toInt_toInt64 _
  refine lv_i2l (v := w_35) hx hb dX12_sit_2 ew_35.symm ?_
  obtain ⟨v_37, ev_37⟩ : ∃ z : Int32, z = f 0 6 := ⟨_, rfl⟩
  have q_38 : 0 ≤ v_37.toInt ∧ v_37.toInt ≤ 8 := by rw [ev_37]; exact hI 0 6
  have q_39 : (f 0 6).toInt = v_37.toInt := (congrArg Int32.toInt (show f 0 6 = v_37 from ev_37.symm))
  refine sg_calli (va_runV (As := [.long w_35]) (rest := []) ⟨hx, hb, hml, hown, hts⟩ (kX12_isSitter l D ca za h hh f L Q hI w_35 H.size) (sl_c12_isSitter_1_0_0_25_12 hts ⟨Nat.le_of_ble_eq_true rfl, Nat.le_of_ble_eq_true rfl⟩) (sl_vM_0 hA hK hP hS hZ) rfl rfl hl.1 rfl (lv_room (Nat.le_of_ble_eq_true rfl)) dX12_sit_3 ⟨Nat.le_refl _, Nat.le_refl _⟩) hA hS (fun r_44 f_41 L_42 Q_43 H locs hq hP hS => ?_)
  obtain ⟨⟨ef9, eL9, eQ9⟩, hq, u_45⟩ := hq
  replace hs := hs.trans (spl_e ew_35 (spl_e ev_37 (spl_e u_45 rfl)))
  rw [ef9, eL9, eQ9] at hP; clear ef9 eL9 eQ9
  rcases hq with ⟨rfl, hq⟩ | ⟨rfl, hq⟩
  · skip
    have hc_46 := hq
    refine lv_if_ne (tgt := 11) hx hb dX12_sit_6 (by decide) (fun c => ?_) (fun c => absurd c (by decide))
    refine lv_aload_n hx hb dX12_sit_11 rfl (lv_at hl 0 rfl) ?_
    refine sg_callv (va_runV (As := []) (rest := []) ⟨hx, hb, hml, hown, hts⟩ (kX12_beginsWeek l D ca za h hh f L Q hI H.size) (sl_c12_beginsWeek_0_0_0_0_12 hts ⟨Nat.le_of_ble_eq_true rfl, Nat.le_of_ble_eq_true rfl⟩) (sl_vM_0 hA hK hP hS hZ) rfl rfl hl.1 rfl (lv_room (Nat.le_of_ble_eq_true rfl)) dX12_sit_12 ⟨Nat.le_refl _, Nat.le_refl _⟩) hA hS (fun f_47 L_48 Q_49 H locs hq hP hS => ?_)
    obtain ⟨⟨hI, hk_f_47, eL9, eQ9⟩, u_50⟩ := hq
    rw [eL9, eQ9] at hP; clear eL9 eQ9
    have hF : sgK WkX12_sit f f_47 := sgK.tr hF hk_f_47 (by decide +kernel)
    refine lv_aload_n hx hb dX12_sit_15 rfl (lv_at hl 0 rfl) ?_
    refine lv_iload_n hx hb dX12_sit_16 rfl (lv_at hl 1 rfl) ?_
    refine sg_callv (va_runV (As := [.int x0]) (rest := []) ⟨hx, hb, hml, hown, hts⟩ (kX12_comes l D ca za h hh f_47 L Q hI x0 ⟨by omega, by omega⟩ H.size) (sl_c12_comes_45_0_0_1032_12 hts ⟨Nat.le_of_ble_eq_true rfl, Nat.le_of_ble_eq_true rfl⟩) (sl_vM_0 hA hK hP hS hZ) rfl rfl hl.1 rfl (lv_room (Nat.le_of_ble_eq_true rfl)) dX12_sit_17 ⟨Nat.le_refl _, Nat.le_refl _⟩) hA hS (fun f_51 L_52 Q_53 H locs hq hP hS => ?_)
    obtain ⟨⟨hI, hk_f_51, eL9, eQ9⟩, u_54⟩ := hq
    rw [eL9, eQ9] at hP; clear eL9 eQ9
    have hF : sgK WkX12_sit f f_51 := sgK.tr hF hk_f_51 (by decide +kernel)
    refine lv_iconst (v := 0) hx hb dX12_sit_20 ic_0 ?_
    refine lv_istore_n (lv' := [(2, .int 0), (0, .ref (h 0)), (1, .int x0)]) hx hb dX12_sit_21 rfl hl (by decide) rfl (fun ls hl => ?_)
    exact loop_22 4 0 f_51 _ _ _ (hs.trans ((if_pos rfl).trans (spl_e u_50 (spl_e u_54 rfl)))) (by have kc0 : (0 : Int32).toInt = 0 := ti_0; omega) ⟨by omega, by omega⟩ (by decide) hI hF hP hS (lv_sub hl [1, 2, 0] rfl)
  · skip
    have hc_46 := hq
    refine lv_if_ne (tgt := 11) hx hb dX12_sit_6 (by decide) (fun c => absurd c (by decide)) (fun c => ?_)
    refine lv_iconst (v := (-1)) hx hb dX12_sit_9 ic_m1 ?_
    have k99 : ((-1) : Int32).toInt = (-1) := ti_m1
    exact hret _ _ _ _ (-1) f L Q dX12_sit_10 hP hS ⟨⟨hI, hF, rfl, rfl⟩, trivial, (Eq.trans (Eq.symm (hs.trans ((if_neg (by decide)).trans rfl))) hsp)⟩

abbrev WkX12_set : List (Nat × Nat × Option Nat) := [(0, 0, some 39), (5, 5, none)]
set_option maxHeartbeats 4000000 in
set_option maxRecDepth 100000 in
theorem kX12_set (l : Launch) (D : va_G) (ca : Nat → ClassId) (za h : Nat → Nat) (hh : sgH 26 h) (f : sg_F) (L : sg_L) (Q : sg_Q) (hI : sgI loM hiM f) (x0 : Int32) (x1 : Int32) (sz : Nat) : Met l yX12_set gwX12_set { frames := 2, cells := 0, slots := 0, locals := 46 } (sgP D vwCl (tyX ca) 26 h (eM ca h) zcM za f L Q sz [.ref (h 0), .int x0, .int x1]) (sgQi D vwCl 26 h (eM ca h) sz (fun r f1 L1 Q1 => ((sgI loM hiM f1 ∧ sgK WkX12_set f f1 ∧ L1 = L ∧ Q1 = Q) ∧ ((-1) ≤ r.toInt ∧ r.toInt ≤ 60) ∧ (r, f1) = sX12_set x0 x1 f L))) 0 0 (sgA 26 h sz) := by
  refine sg_ofWi (cc := cX12_set) (maxL := 4) RX12 (by decide) rfl rfl (Nat.le_of_ble_eq_true rfl) ?_
  intro p e s m below meth cd Qz ls hx hb hml hown hts hK hZ hP hS hl hret
  have hA := sgY.self (n := 26) (h := h) (sz := s.heap.size)
  have hl : lv_has ls 4 [(0, .ref (h 0)), (1, .int x0), (2, .int x1)] := hl
  obtain ⟨H, hH⟩ : ∃ z : Heap, z = s.heap := ⟨_, rfl⟩
  obtain ⟨locs, hlo⟩ : ∃ z : List Loc, z = [] := ⟨_, rfl⟩
  have hP : va_P D vwCl (sgw 26 h (eM ca h) f L Q) H := by rw [hH]; exact hP
  have hS : va_S (sgA 26 h s.heap.size) s.heap H locs := by rw [hH, hlo]; exact hS
  suffices hgo : W p l e ({ frames := 2, cells := 0, slots := 0, locals := 46 }) s m ([.ref (h 0), .int x0, .int x1] : List Value).toArray below meth cd H locs 0 0 Qz (F0 m 0 ls []) by rw [hH, hlo] at hgo; exact hgo
  clear hH hlo
  obtain ⟨sp, hsp⟩ : ∃ z : Int32 × sg_F, z = sX12_set x0 x1 f L := ⟨_, rfl⟩
  have hs : sp = sX12_set x0 x1 f L := hsp
  have hF : sgK WkX12_set f f := sgK.rf
  refine lv_iload_n hx hb dX12_set_0 rfl (lv_at hl 1 rfl) ?_
  refine sg_calli (va_runS (As := [.int x0]) (rest := []) ⟨hx, hb, hml, hown, hts⟩ (kX12_isPart l D ca za h hh f L Q hI x0 H.size) (va_cwS 1 hts (gw_S (fun _ h => List.mem_cons_of_mem _ h) mw_636 mw_637 mw_619 mw_635) rfl rfl rfl hd_yX12_isPart.2 ⟨Nat.le_of_ble_eq_true rfl, Nat.le_of_ble_eq_true rfl⟩) (sg_preS hA hK hP hS hZ) rfl rfl hl.1 rfl (lv_room (Nat.le_of_ble_eq_true rfl)) dX12_set_1 ⟨Nat.le_refl _, Nat.le_refl _⟩) hA hS (fun r_4 f_1 L_2 Q_3 H locs hq hP hS => ?_)
  obtain ⟨⟨ef9, eL9, eQ9⟩, hq, u_5⟩ := hq
  replace hs := hs.trans (spl_e u_5 rfl)
  rw [ef9, eL9, eQ9] at hP; clear ef9 eL9 eQ9
  rcases hq with ⟨rfl, hq⟩ | ⟨rfl, hq⟩
  · skip
    have hc_6 := hq
    refine lv_if_eq (tgt := 15) hx hb dX12_set_4 (by decide) (fun c => absurd c (by decide)) (fun c => ?_)
    refine lv_iload_n hx hb dX12_set_7 rfl (lv_at hl 2 rfl) ?_
    obtain ⟨w_7, ew_7⟩ : ∃ z : Int64, z = Int32.toInt64 x1 := ⟨_, rfl⟩
    have q_8 : w_7.toInt = x1.toInt := by rw [ew_7]; exact Int32.toInt_toInt64 _
    refine lv_i2l (v := w_7) hx hb dX12_set_8 ew_7.symm ?_
    refine sg_calli (va_runS (As := [.long w_7]) (rest := []) ⟨hx, hb, hml, hown, hts⟩ (kX12_isSetting l D ca za h hh f L Q hI w_7 H.size) (va_cwS 1 hts (gw_S (fun _ h => List.mem_cons_of_mem _ h) mw_653 mw_654 mw_619 mw_652) rfl rfl rfl hd_yX12_isSetting.2 ⟨Nat.le_of_ble_eq_true rfl, Nat.le_of_ble_eq_true rfl⟩) (sg_preS hA hK hP hS hZ) rfl rfl hl.1 rfl (lv_room (Nat.le_of_ble_eq_true rfl)) dX12_set_9 ⟨Nat.le_refl _, Nat.le_refl _⟩) hA hS (fun r_12 f_9 L_10 Q_11 H locs hq hP hS => ?_)
    obtain ⟨⟨ef9, eL9, eQ9⟩, hq, u_13⟩ := hq
    replace hs := hs.trans ((if_pos rfl).trans (spl_e ew_7 (spl_e u_13 rfl)))
    rw [ef9, eL9, eQ9] at hP; clear ef9 eL9 eQ9
    rcases hq with ⟨rfl, hq⟩ | ⟨rfl, hq⟩
    · skip
      have hc_14 := hq
      refine lv_if_ne (tgt := 17) hx hb dX12_set_12 (by decide) (fun c => ?_) (fun c => absurd c (by decide))
      refine lv_iload_n hx hb dX12_set_17 rfl (lv_at hl 2 rfl) ?_
      refine lv_aload_n hx hb dX12_set_18 rfl (lv_at hl 0 rfl) ?_
      refine sl_gM_0_7_12 hx hb hts hown hK hP dX12_set_19 ?_
      refine lv_iload_n hx hb dX12_set_22 rfl (lv_at hl 1 rfl) ?_
      refine sg_iald hx hb hK hP 5 (by decide) 0 rfl rfl (i := x0) (vp_in_iff.mpr ⟨by omega, by omega⟩) dX12_set_23 ?_
      refine lv_topi (fun v_15 ev_15 => ?_)
      have q_16 : 0 ≤ v_15.toInt ∧ v_15.toInt ≤ 60 := by rw [ev_15]; exact hI 5 _
      refine lv_isub hx hb dX12_set_24 ?_
      refine lv_topi (fun v_17 ev_17 => ?_)
      have q_18 : v_17.toInt = x1.toInt - v_15.toInt := by rw [ev_17]; first | exact bn_subI (by omega) (by omega) | exact (bn_subI (by omega) (by omega)).trans (by omega)
      refine sg_calli (va_runS (As := [.int v_17]) (rest := []) ⟨hx, hb, hml, hown, hts⟩ (kX12_sizeOf l D ca za h hh f L Q hI v_17 ⟨by omega, by omega⟩ H.size) (va_cwS 1 hts (gw_S (fun _ h => List.mem_cons_of_mem _ h) mw_682 mw_683 mw_619 mw_681) rfl rfl rfl hd_yX12_sizeOf.2 ⟨Nat.le_of_ble_eq_true rfl, Nat.le_of_ble_eq_true rfl⟩) (sg_preS hA hK hP hS hZ) rfl rfl hl.1 rfl (lv_room (Nat.le_of_ble_eq_true rfl)) dX12_set_25 ⟨Nat.le_refl _, Nat.le_refl _⟩) hA hS (fun r_22 f_19 L_20 Q_21 H locs hq hP hS => ?_)
      obtain ⟨⟨ef9, eL9, eQ9⟩, hq, u_23⟩ := hq
      rw [ef9, eL9, eQ9] at hP; clear ef9 eL9 eQ9
      refine lv_istore_n (lv' := [(3, .int r_22), (0, .ref (h 0)), (1, .int x0), (2, .int x1)]) hx hb dX12_set_28 rfl hl (by decide) rfl (fun ls hl => ?_)
      refine lv_aload_n hx hb dX12_set_29 rfl (lv_at hl 1 rfl) ?_
      refine sl_gM_0_7_12 hx hb hts hown hK hP dX12_set_30 ?_
      refine lv_iload_n hx hb dX12_set_33 rfl (lv_at hl 2 rfl) ?_
      refine lv_iload_n hx hb dX12_set_34 rfl (lv_at hl 3 rfl) ?_
      refine sg_iast hx hb hh hA hK hP hS 5 (by decide) 0 (fun _ => rfl) rfl (i := x0) (x := x1) (vp_in_iff.mpr ⟨by omega, by omega⟩) dX12_set_35 (fun f_24 H locs ef_24 hP hS => ?_)
      have hI : sgI loM hiM f_24 := by rw [ef_24]; exact sgI.put hI 5 x0.toNatClampNeg (show 0 ≤ (x1 : Int32).toInt ∧ (x1 : Int32).toInt ≤ 60 from ⟨by omega, by omega⟩)
      have hF : sgK WkX12_set f f_24 := sgK.put hF ef_24 (by rfl)
      refine lv_aload_n hx hb dX12_set_36 rfl (lv_at hl 1 rfl) ?_
      refine lv_dup hx hb dX12_set_37 rfl ?_
      refine sl_gM_0_39_12 (v := (f_24 0 39)) hx hb hts hown hK hP rfl dX12_set_38 ?_
      refine lv_topi (fun v_25 ev_25 => ?_)
      refine lv_iload_n hx hb dX12_set_41 rfl (lv_at hl 0 rfl) ?_
      refine lv_iadd hx hb dX12_set_42 ?_
      refine lv_topi (fun v_26 ev_26 => ?_)
      refine sl_pM_0_39_12 (x := v_26) hx hb hts hown hh hA hK hP hS dX12_set_43 (fun f_27 H locs ef_27 hP hS => ?_)
      have hI : sgI loM hiM f_27 := by rw [ef_27]; exact sgI.put hI 0 39 (bn_top _)
      have hF : sgK WkX12_set f f_27 := sgK.put hF ef_27 (by rfl)
      refine lv_iload_n hx hb dX12_set_46 rfl (lv_at hl 0 rfl) ?_
      exact hret _ _ _ _ (r_22) f_27 L Q dX12_set_47 hP hS ⟨⟨hI, hF, rfl, rfl⟩, ⟨by omega, by omega⟩, (Eq.trans (Eq.symm (hs.trans ((if_pos rfl).trans (spl_e ev_15 (spl_e ev_17 (spl_e u_23 (spl_e ef_24 (spl_e ev_25 (spl_e ev_26 (spl_e ef_27 rfl)))))))))) hsp)⟩
    · skip
      have hc_14 := hq
      refine lv_if_ne (tgt := 17) hx hb dX12_set_12 (by decide) (fun c => absurd c (by decide)) (fun c => ?_)
      refine lv_iconst (v := (-1)) hx hb dX12_set_15 ic_m1 ?_
      have k99 : ((-1) : Int32).toInt = (-1) := ti_m1
      exact hret _ _ _ _ (-1) f L Q dX12_set_16 hP hS ⟨⟨hI, hF, rfl, rfl⟩, (by decide), (Eq.trans (Eq.symm (hs.trans ((if_neg (by decide)).trans rfl))) hsp)⟩
  · skip
    have hc_6 := hq
    refine lv_if_eq (tgt := 15) hx hb dX12_set_4 (by decide) (fun c => ?_) (fun c => absurd c (by decide))
    refine lv_iconst (v := (-1)) hx hb dX12_set_15 ic_m1 ?_
    have k99 : ((-1) : Int32).toInt = (-1) := ti_m1
    exact hret _ _ _ _ (-1) f L Q dX12_set_16 hP hS ⟨⟨hI, hF, rfl, rfl⟩, (by decide), (Eq.trans (Eq.symm (hs.trans ((if_neg (by decide)).trans rfl))) hsp)⟩

abbrev WkX12_night : List (Nat × Nat × Option Nat) := [(5, 5, none)]
set_option maxHeartbeats 4000000 in
set_option maxRecDepth 100000 in
theorem kX12_night (l : Launch) (D : va_G) (ca : Nat → ClassId) (za h : Nat → Nat) (hh : sgH 26 h) (f : sg_F) (L : sg_L) (Q : sg_Q) (hI : sgI loM hiM f) (sz : Nat) : Met l yX12_night gwX12_night { frames := 1, cells := 0, slots := 0, locals := 23 } (sgP D vwCl (tyX ca) 26 h (eM ca h) zcM za f L Q sz [.ref (h 0)]) (sgQi D vwCl 26 h (eM ca h) sz (fun r f1 L1 Q1 => ((sgI loM hiM f1 ∧ sgK WkX12_night f f1 ∧ L1 = L ∧ Q1 = Q) ∧ True ∧ (r, f1) = sX12_night f L))) 0 0 (sgA 26 h sz) := by
  refine sg_ofWi (cc := cX12_night) (maxL := 4) RX12 (by decide) rfl rfl (Nat.le_of_ble_eq_true rfl) ?_
  intro p e s m below meth cd Qz ls hx hb hml hown hts hK hZ hP hS hl hret
  have hA := sgY.self (n := 26) (h := h) (sz := s.heap.size)
  have hl : lv_has ls 4 [(0, .ref (h 0))] := hl
  obtain ⟨H, hH⟩ : ∃ z : Heap, z = s.heap := ⟨_, rfl⟩
  obtain ⟨locs, hlo⟩ : ∃ z : List Loc, z = [] := ⟨_, rfl⟩
  have hP : va_P D vwCl (sgw 26 h (eM ca h) f L Q) H := by rw [hH]; exact hP
  have hS : va_S (sgA 26 h s.heap.size) s.heap H locs := by rw [hH, hlo]; exact hS
  suffices hgo : W p l e ({ frames := 1, cells := 0, slots := 0, locals := 23 }) s m ([.ref (h 0)] : List Value).toArray below meth cd H locs 0 0 Qz (F0 m 0 ls []) by rw [hH, hlo] at hgo; exact hgo
  clear hH hlo
  obtain ⟨sp, hsp⟩ : ∃ z : Int32 × sg_F, z = sX12_night f L := ⟨_, rfl⟩
  have hs : sp = sX12_night f L := hsp
  have hF : sgK WkX12_night f f := sgK.rf
  have loop_4 : ∀ (n_4 : Nat) (y1_4 : Int32) (y2_4 : Int32) (fp_4 : sg_F) (H : Heap) (locs : List Loc) (ls : Array Slot), sp = sX12_night_l4 n_4 y1_4 y2_4 fp_4 L → 3 - y2_4.toInt < (n_4 : Int) → 0 ≤ y2_4.toInt ∧ y2_4.toInt ≤ 3 → sgI loM hiM fp_4 → sgK WkX12_night f fp_4 → va_P D vwCl (sgw 26 h (eM ca h) fp_4 L Q) H → va_S (sgA 26 h s.heap.size) s.heap H locs → lv_has ls 4 [(0, .ref (h 0)), (1, .int y1_4), (2, .int y2_4)] → W p l e ({ frames := 1, cells := 0, slots := 0, locals := 23 }) s m ([.ref (h 0)] : List Value).toArray below meth cd H locs 0 0 Qz (F0 m 4 ls []) := by
    intro n_4
    induction n_4 with
    | zero => intro y1_4 y2_4 fp_4 H locs ls hs hm_4 hy0_4 hI hF hP hS hl; exact absurd hm_4 (by omega)
    | succ n_4 ih_4 =>
      intro y1_4 y2_4 fp_4 H locs ls hs hm_4 hy0_4 hI hF hP hS hl
      have hs : sp = sX12_night_h4 (sX12_night_l4 n_4) y1_4 y2_4 fp_4 L := hs
      refine lv_iload_n hx hb dX12_night_4 rfl (lv_at hl 2 rfl) ?_
      refine lv_iconst (v := 3) hx hb dX12_night_5 ic_3 ?_
      refine lv_icmp_ge (tgt := 52) hx hb dX12_night_6 (by decide) (fun c => ?_) (fun c => ?_)
      · skip
        have c_1 : 3 ≤ y2_4.toInt := (by first | exact (cm_le0 ti_3 c) | (have z := bn_le c; have k1 : (3 : Int32).toInt = 3 := ti_3; omega))
        refine lv_iload_n hx hb dX12_night_52 rfl (lv_at hl 1 rfl) ?_
        exact hret _ _ _ _ (y1_4) fp_4 L Q dX12_night_53 hP hS ⟨⟨hI, hF, rfl, rfl⟩, trivial, (Eq.trans (Eq.symm (hs.trans (((if_neg (Int.not_lt.mpr c_1)).trans rfl)))) hsp)⟩
      · skip
        have c_2 : y2_4.toInt < 3 := (by first | exact (cm_nle0 ti_3 c) | (have z := bn_nle c; have k1 : (3 : Int32).toInt = 3 := ti_3; omega))
        refine lv_aload_n hx hb dX12_night_9 rfl (lv_at hl 0 rfl) ?_
        refine lv_iload_n hx hb dX12_night_10 rfl (lv_at hl 2 rfl) ?_
        refine lv_aload_n hx hb dX12_night_11 rfl (lv_at hl 0 rfl) ?_
        refine sl_gM_0_7_12 hx hb hts hown hK hP dX12_night_12 ?_
        refine lv_iload_n hx hb dX12_night_15 rfl (lv_at hl 2 rfl) ?_
        refine sg_iald hx hb hK hP 5 (by decide) 0 rfl rfl (i := y2_4) (vp_in_iff.mpr ⟨by omega, by omega⟩) dX12_night_16 ?_
        refine lv_topi (fun v_3 ev_3 => ?_)
        have q_4 : 0 ≤ v_3.toInt ∧ v_3.toInt ≤ 60 := by rw [ev_3]; exact hI 5 _
        refine sg_calli (va_runV (As := [.int y2_4, .int v_3]) (rest := []) ⟨hx, hb, hml, hown, hts⟩ (kX12_slipped l D ca za h hh fp_4 L Q hI y2_4 v_3 ⟨by omega, by omega⟩ ⟨by omega, by omega⟩ H.size) (sl_c12_slipped_0_0_0_0_12 hts ⟨Nat.le_of_ble_eq_true rfl, Nat.le_of_ble_eq_true rfl⟩) (sl_vM_0 hA hK hP hS hZ) rfl rfl hl.1 rfl (lv_room (Nat.le_of_ble_eq_true rfl)) dX12_night_17 ⟨Nat.le_refl _, Nat.le_refl _⟩) hA hS (fun r_8 f_5 L_6 Q_7 H locs hq hP hS => ?_)
        obtain ⟨⟨ef9, eL9, eQ9⟩, hq, u_9⟩ := hq
        replace hs := hs.trans ((if_pos c_2).trans (spl_e ev_3 (spl_e u_9 rfl)))
        rw [ef9, eL9, eQ9] at hP; clear ef9 eL9 eQ9
        refine lv_istore_n (lv' := [(3, .int r_8), (0, .ref (h 0)), (1, .int y1_4), (2, .int y2_4)]) hx hb dX12_night_20 rfl hl (by decide) rfl (fun ls hl => ?_)
        refine lv_iload_n hx hb dX12_night_21 rfl (lv_at hl 2 rfl) ?_
        refine lv_iload_n hx hb dX12_night_22 rfl (lv_at hl 0 rfl) ?_
        refine lv_aload_n hx hb dX12_night_23 rfl (lv_at hl 1 rfl) ?_
        refine sl_gM_0_7_12 hx hb hts hown hK hP dX12_night_24 ?_
        refine lv_iload_n hx hb dX12_night_27 rfl (lv_at hl 3 rfl) ?_
        refine sg_iald hx hb hK hP 5 (by decide) 0 rfl rfl (i := y2_4) (vp_in_iff.mpr ⟨by omega, by omega⟩) dX12_night_28 ?_
        rw [← ev_3]
        refine lv_icmp_ge (tgt := 36) hx hb dX12_night_29 (by decide) (fun c => ?_) (fun c => ?_)
        · skip
          have c_10 : v_3.toInt ≤ r_8.toInt := (by first | exact (bn_le c) | (have z := bn_le c; omega))
          refine lv_iconst (v := 0) hx hb dX12_night_36 ic_0 ?_
          refine lv_iadd hx hb dX12_night_37 ?_
          refine W.eq (g2 := F0 m 38 ls [.int y1_4]) (by rw [Int32.add_zero]) ?_
          refine lv_istore_n (lv' := [(1, .int y1_4), (3, .int r_8), (0, .ref (h 0)), (2, .int y2_4)]) hx hb dX12_night_38 rfl hl (by decide) rfl (fun ls hl => ?_)
          refine lv_aload_n hx hb dX12_night_39 rfl (lv_at hl 2 rfl) ?_
          refine sl_gM_0_7_12 hx hb hts hown hK hP dX12_night_40 ?_
          refine lv_iload_n hx hb dX12_night_43 rfl (lv_at hl 3 rfl) ?_
          refine lv_iload_n hx hb dX12_night_44 rfl (lv_at hl 1 rfl) ?_
          refine sg_iast hx hb hh hA hK hP hS 5 (by decide) 0 (fun _ => rfl) rfl (i := y2_4) (x := r_8) (vp_in_iff.mpr ⟨by omega, by omega⟩) dX12_night_45 (fun f_12 H locs ef_12 hP hS => ?_)
          have hI : sgI loM hiM f_12 := by rw [ef_12]; exact sgI.put hI 5 y2_4.toNatClampNeg (show 0 ≤ (r_8 : Int32).toInt ∧ (r_8 : Int32).toInt ≤ 60 from ⟨by omega, by omega⟩)
          have hF : sgK WkX12_night f f_12 := sgK.put hF ef_12 (by rfl)
          obtain ⟨v_13, ev_13⟩ : ∃ z : Int32, z = y2_4 + 1 := ⟨_, rfl⟩
          have q_14 : v_13.toInt = y2_4.toInt + 1 := by rw [ev_13]; exact (bn_addc y2_4 1 (by decide) (by omega) (by omega))
          refine lv_iinc (v := v_13) (lv' := [(2, .int v_13), (1, .int y1_4), (3, .int r_8), (0, .ref (h 0))]) hx hb dX12_night_46 hl (k := 3) rfl (by rw [ev_13]; rfl) (by decide) rfl (fun ls hl => ?_)
          refine lv_goto (tgt := 4) hx hb dX12_night_49 (by decide) ?_
          exact ih_4 y1_4 v_13 f_12 _ _ _ (hs.trans ((if_neg (Int.not_lt.mpr c_10)).trans (spl_e ef_12 (spl_e ev_13 rfl)))) (by omega) ⟨by omega, by omega⟩ hI hF hP hS (lv_sub hl [3, 1, 0] rfl)
        · skip
          have c_11 : r_8.toInt < v_3.toInt := (by first | exact (bn_nle c) | (have z := bn_nle c; omega))
          refine lv_iconst (v := 1) hx hb dX12_night_32 ic_1 ?_
          refine lv_goto (tgt := 37) hx hb dX12_night_33 (by decide) ?_
          refine lv_iadd hx hb dX12_night_37 ?_
          refine lv_topi (fun v_15 ev_15 => ?_)
          refine lv_istore_n (lv' := [(1, .int v_15), (3, .int r_8), (0, .ref (h 0)), (2, .int y2_4)]) hx hb dX12_night_38 rfl hl (by decide) rfl (fun ls hl => ?_)
          refine lv_aload_n hx hb dX12_night_39 rfl (lv_at hl 2 rfl) ?_
          refine sl_gM_0_7_12 hx hb hts hown hK hP dX12_night_40 ?_
          refine lv_iload_n hx hb dX12_night_43 rfl (lv_at hl 3 rfl) ?_
          refine lv_iload_n hx hb dX12_night_44 rfl (lv_at hl 1 rfl) ?_
          refine sg_iast hx hb hh hA hK hP hS 5 (by decide) 0 (fun _ => rfl) rfl (i := y2_4) (x := r_8) (vp_in_iff.mpr ⟨by omega, by omega⟩) dX12_night_45 (fun f_16 H locs ef_16 hP hS => ?_)
          have hI : sgI loM hiM f_16 := by rw [ef_16]; exact sgI.put hI 5 y2_4.toNatClampNeg (show 0 ≤ (r_8 : Int32).toInt ∧ (r_8 : Int32).toInt ≤ 60 from ⟨by omega, by omega⟩)
          have hF : sgK WkX12_night f f_16 := sgK.put hF ef_16 (by rfl)
          obtain ⟨v_17, ev_17⟩ : ∃ z : Int32, z = y2_4 + 1 := ⟨_, rfl⟩
          have q_18 : v_17.toInt = y2_4.toInt + 1 := by rw [ev_17]; exact (bn_addc y2_4 1 (by decide) (by omega) (by omega))
          refine lv_iinc (v := v_17) (lv' := [(2, .int v_17), (1, .int v_15), (3, .int r_8), (0, .ref (h 0))]) hx hb dX12_night_46 hl (k := 3) rfl (by rw [ev_17]; rfl) (by decide) rfl (fun ls hl => ?_)
          refine lv_goto (tgt := 4) hx hb dX12_night_49 (by decide) ?_
          exact ih_4 v_15 v_17 f_16 _ _ _ (hs.trans ((if_pos c_11).trans (spl_e ev_15 (spl_e ef_16 (spl_e ev_17 rfl))))) (by omega) ⟨by omega, by omega⟩ hI hF hP hS (lv_sub hl [3, 1, 0] rfl)
  refine lv_iconst (v := 0) hx hb dX12_night_0 ic_0 ?_
  refine lv_istore_n (lv' := [(1, .int 0), (0, .ref (h 0))]) hx hb dX12_night_1 rfl hl (by decide) rfl (fun ls hl => ?_)
  refine lv_iconst (v := 0) hx hb dX12_night_2 ic_0 ?_
  refine lv_istore_n (lv' := [(2, .int 0), (1, .int 0), (0, .ref (h 0))]) hx hb dX12_night_3 rfl hl (by decide) rfl (fun ls hl => ?_)
  exact loop_4 4 0 0 f _ _ _ hs (by have kc0 : (0 : Int32).toInt = 0 := ti_0; have kc1 : (0 : Int32).toInt = 0 := ti_0; omega) (by decide) hI hF hP hS (lv_sub hl [2, 1, 0] rfl)

set_option maxHeartbeats 4000000 in
set_option maxRecDepth 100000 in
theorem kX12_led (l : Launch) (D : va_G) (ca : Nat → ClassId) (za h : Nat → Nat) (hh : sgH 26 h) (f : sg_F) (L : sg_L) (Q : sg_Q) (hI : sgI loM hiM f) (x0 : Int32) (sz : Nat) : Met l yX12_led gwX12_led { frames := 0, cells := 0, slots := 0, locals := 0 } (sgP D vwCl (tyX ca) 26 h (eM ca h) zcM za f L Q sz [.ref (h 0), .int x0]) (sgQi D vwCl 26 h (eM ca h) sz (fun r f1 L1 Q1 => ((f1 = f ∧ L1 = L ∧ Q1 = Q) ∧ True ∧ (r) = sX12_led x0 f L))) 0 0 (sgA 26 h sz) := by
  refine sg_ofWi (cc := cX12_led) (maxL := 2) RX12 (by decide) rfl rfl (Nat.le_of_ble_eq_true rfl) ?_
  intro p e s m below meth cd Qz ls hx hb hml hown hts hK hZ hP hS hl hret
  have hA := sgY.self (n := 26) (h := h) (sz := s.heap.size)
  have hl : lv_has ls 2 [(0, .ref (h 0)), (1, .int x0)] := hl
  obtain ⟨H, hH⟩ : ∃ z : Heap, z = s.heap := ⟨_, rfl⟩
  obtain ⟨locs, hlo⟩ : ∃ z : List Loc, z = [] := ⟨_, rfl⟩
  have hP : va_P D vwCl (sgw 26 h (eM ca h) f L Q) H := by rw [hH]; exact hP
  have hS : va_S (sgA 26 h s.heap.size) s.heap H locs := by rw [hH, hlo]; exact hS
  suffices hgo : W p l e ({ frames := 0, cells := 0, slots := 0, locals := 0 }) s m ([.ref (h 0), .int x0] : List Value).toArray below meth cd H locs 0 0 Qz (F0 m 0 ls []) by rw [hH, hlo] at hgo; exact hgo
  clear hH hlo
  obtain ⟨sp, hsp⟩ : ∃ z : Int32, z = sX12_led x0 f L := ⟨_, rfl⟩
  have hs : sp = sX12_led x0 f L := hsp
  refine lv_iload_n hx hb dX12_led_0 rfl (lv_at hl 1 rfl) ?_
  rcases (show (x0.toInt ≠ 0 ∧ x0.toInt ≠ 1 ∧ x0.toInt ≠ 2 ∧ x0.toInt ≠ 3 ∧ x0.toInt ≠ 4) ∨ x0.toInt = 0 ∨ x0.toInt = 1 ∨ x0.toInt = 2 ∨ x0.toInt = 3 ∨ x0.toInt = 4 from by omega) with c | c | c | c | c | c
  · skip
    have cs_1 := c
    refine lv_tableOut (x := x0) (tgt := 61) hx hb dX12_led_1 (by omega) (by decide) ?_
    refine lv_iconst (v := (-1)) hx hb dX12_led_61 ic_m1 ?_
    have k99 : ((-1) : Int32).toInt = (-1) := ti_m1
    exact hret _ _ _ _ (-1) f L Q dX12_led_62 hP hS ⟨⟨rfl, rfl, rfl⟩, trivial, (Eq.trans (Eq.symm (hs.trans (((if_neg cs_1.1).trans ((if_neg cs_1.2.1).trans ((if_neg cs_1.2.2.1).trans ((if_neg cs_1.2.2.2.1).trans ((if_neg cs_1.2.2.2.2).trans rfl)))))))) hsp)⟩
  · skip
    have cs_1 := c
    have c_2 := c
    refine lv_tableIn (x := x0) (tgt := 36) hx hb dX12_led_1 (by omega) (by omega) (by rw [c]; rfl) (by decide) ?_
    refine lv_aload_n hx hb dX12_led_36 rfl (lv_at hl 0 rfl) ?_
    refine sl_gM_0_38_12 (v := (f 0 38)) hx hb hts hown hK hP rfl dX12_led_37 ?_
    refine lv_topi (fun v_3 ev_3 => ?_)
    exact hret _ _ _ _ (v_3) f L Q dX12_led_40 hP hS ⟨⟨rfl, rfl, rfl⟩, trivial, (Eq.trans (Eq.symm (hs.trans (((if_pos cs_1).trans (spl_e ev_3 rfl))))) hsp)⟩
  · skip
    have cs_1 := c
    have c_4 := c
    refine lv_tableIn (x := x0) (tgt := 41) hx hb dX12_led_1 (by omega) (by omega) (by rw [c]; rfl) (by decide) ?_
    refine lv_aload_n hx hb dX12_led_41 rfl (lv_at hl 0 rfl) ?_
    refine sl_gM_0_39_12 (v := (f 0 39)) hx hb hts hown hK hP rfl dX12_led_42 ?_
    refine lv_topi (fun v_5 ev_5 => ?_)
    exact hret _ _ _ _ (v_5) f L Q dX12_led_45 hP hS ⟨⟨rfl, rfl, rfl⟩, trivial, (Eq.trans (Eq.symm (hs.trans (((if_neg (fun z => absurd (z.symm.trans cs_1) (by decide))).trans ((if_pos cs_1).trans (spl_e ev_5 rfl)))))) hsp)⟩
  · skip
    have cs_1 := c
    have c_6 := c
    refine lv_tableIn (x := x0) (tgt := 46) hx hb dX12_led_1 (by omega) (by omega) (by rw [c]; rfl) (by decide) ?_
    refine lv_aload_n hx hb dX12_led_46 rfl (lv_at hl 0 rfl) ?_
    refine sl_gM_0_40_12 (v := (f 0 40)) hx hb hts hown hK hP rfl dX12_led_47 ?_
    refine lv_topi (fun v_7 ev_7 => ?_)
    exact hret _ _ _ _ (v_7) f L Q dX12_led_50 hP hS ⟨⟨rfl, rfl, rfl⟩, trivial, (Eq.trans (Eq.symm (hs.trans (((if_neg (fun z => absurd (z.symm.trans cs_1) (by decide))).trans ((if_neg (fun z => absurd (z.symm.trans cs_1) (by decide))).trans ((if_pos cs_1).trans (spl_e ev_7 rfl))))))) hsp)⟩
  · skip
    have cs_1 := c
    have c_8 := c
    refine lv_tableIn (x := x0) (tgt := 51) hx hb dX12_led_1 (by omega) (by omega) (by rw [c]; rfl) (by decide) ?_
    refine lv_aload_n hx hb dX12_led_51 rfl (lv_at hl 0 rfl) ?_
    refine sl_gM_0_41_12 (v := (f 0 41)) hx hb hts hown hK hP rfl dX12_led_52 ?_
    refine lv_topi (fun v_9 ev_9 => ?_)
    exact hret _ _ _ _ (v_9) f L Q dX12_led_55 hP hS ⟨⟨rfl, rfl, rfl⟩, trivial, (Eq.trans (Eq.symm (hs.trans (((if_neg (fun z => absurd (z.symm.trans cs_1) (by decide))).trans ((if_neg (fun z => absurd (z.symm.trans cs_1) (by decide))).trans ((if_neg (fun z => absurd (z.symm.trans cs_1) (by decide))).trans ((if_pos cs_1).trans (spl_e ev_9 rfl)))))))) hsp)⟩
  · skip
    have cs_1 := c
    have c_10 := c
    refine lv_tableIn (x := x0) (tgt := 56) hx hb dX12_led_1 (by omega) (by omega) (by rw [c]; rfl) (by decide) ?_
    refine lv_aload_n hx hb dX12_led_56 rfl (lv_at hl 0 rfl) ?_
    refine sl_gM_0_42_12 (v := (f 0 42)) hx hb hts hown hK hP rfl dX12_led_57 ?_
    refine lv_topi (fun v_11 ev_11 => ?_)
    exact hret _ _ _ _ (v_11) f L Q dX12_led_60 hP hS ⟨⟨rfl, rfl, rfl⟩, trivial, (Eq.trans (Eq.symm (hs.trans (((if_neg (fun z => absurd (z.symm.trans cs_1) (by decide))).trans ((if_neg (fun z => absurd (z.symm.trans cs_1) (by decide))).trans ((if_neg (fun z => absurd (z.symm.trans cs_1) (by decide))).trans ((if_neg (fun z => absurd (z.symm.trans cs_1) (by decide))).trans ((if_pos cs_1).trans (spl_e ev_11 rfl))))))))) hsp)⟩

abbrev WkX12_image : List (Nat × Nat × Option Nat) := [(0, 0, some 43), (19, 19, none)]
set_option maxHeartbeats 4000000 in
set_option maxRecDepth 100000 in
theorem kX12_image (l : Launch) (D : va_G) (ca : Nat → ClassId) (za h : Nat → Nat) (hh : sgH 26 h) (f : sg_F) (L : sg_L) (Q : sg_Q) (hI : sgI loM hiM f) (sz : Nat) : Met l yX12_image gwX12_image { frames := 1, cells := 0, slots := 0, locals := 21 } (sgP D vwCl (tyX ca) 26 h (eM ca h) zcM za f L Q sz [.ref (h 0)]) (sgQi D vwCl 26 h (eM ca h) sz (fun r f1 L1 Q1 => ((sgI loM hiM f1 ∧ sgK WkX12_image f f1 ∧ L1 = L ∧ Q1 = Q) ∧ True ∧ (r, f1) = sX12_image f L))) 0 0 (sgA 26 h sz) := by
  refine sg_ofWi (cc := cX12_image) (maxL := 2) RX12 (by decide) rfl rfl (Nat.le_of_ble_eq_true rfl) ?_
  intro p e s m below meth cd Qz ls hx hb hml hown hts hK hZ hP hS hl hret
  have hA := sgY.self (n := 26) (h := h) (sz := s.heap.size)
  have hl : lv_has ls 2 [(0, .ref (h 0))] := hl
  obtain ⟨H, hH⟩ : ∃ z : Heap, z = s.heap := ⟨_, rfl⟩
  obtain ⟨locs, hlo⟩ : ∃ z : List Loc, z = [] := ⟨_, rfl⟩
  have hP : va_P D vwCl (sgw 26 h (eM ca h) f L Q) H := by rw [hH]; exact hP
  have hS : va_S (sgA 26 h s.heap.size) s.heap H locs := by rw [hH, hlo]; exact hS
  suffices hgo : W p l e ({ frames := 1, cells := 0, slots := 0, locals := 21 }) s m ([.ref (h 0)] : List Value).toArray below meth cd H locs 0 0 Qz (F0 m 0 ls []) by rw [hH, hlo] at hgo; exact hgo
  clear hH hlo
  obtain ⟨sp, hsp⟩ : ∃ z : Int32 × sg_F, z = sX12_image f L := ⟨_, rfl⟩
  have hs : sp = sX12_image f L := hsp
  have hF : sgK WkX12_image f f := sgK.rf
  have loop_7 : ∀ (n_7 : Nat) (y1_7 : Int32) (fp_7 : sg_F) (H : Heap) (locs : List Loc) (ls : Array Slot), sp = sX12_image_l7 n_7 y1_7 fp_7 L → 8 - y1_7.toInt < (n_7 : Int) → 1 ≤ (fp_7 0 43).toInt ∧ (fp_7 0 43).toInt ≤ 1 → 0 ≤ y1_7.toInt ∧ y1_7.toInt ≤ 8 → sgI loM hiM fp_7 → sgK WkX12_image f fp_7 → va_P D vwCl (sgw 26 h (eM ca h) fp_7 L Q) H → va_S (sgA 26 h s.heap.size) s.heap H locs → lv_has ls 2 [(0, .ref (h 0)), (1, .int y1_7)] → W p l e ({ frames := 1, cells := 0, slots := 0, locals := 21 }) s m ([.ref (h 0)] : List Value).toArray below meth cd H locs 0 0 Qz (F0 m 7 ls []) := by
    intro n_7
    induction n_7 with
    | zero => intro y1_7 fp_7 H locs ls hs hm_7 hy0_7 hy1_7 hI hF hP hS hl; exact absurd hm_7 (by omega)
    | succ n_7 ih_7 =>
      intro y1_7 fp_7 H locs ls hs hm_7 hy0_7 hy1_7 hI hF hP hS hl
      have hs : sp = sX12_image_h7 (sX12_image_l7 n_7) y1_7 fp_7 L := hs
      obtain ⟨v_1, ev_1⟩ : ∃ z : Int32, z = fp_7 0 43 := ⟨_, rfl⟩
      replace hs := hs.trans (spl_e ev_1 rfl)
      have q_2 : 0 ≤ v_1.toInt ∧ v_1.toInt ≤ 1 := by rw [ev_1]; exact hI 0 43
      have q_3 : (fp_7 0 43).toInt = v_1.toInt := by rw [ev_1]
      refine lv_iload_n hx hb dX12_image_7 rfl (lv_at hl 1 rfl) ?_
      refine lv_bipush (v := 8) hx hb dX12_image_8 bp_8 ?_
      refine lv_icmp_ge (tgt := 46) hx hb dX12_image_10 (by decide) (fun c => ?_) (fun c => ?_)
      · skip
        have c_4 : 8 ≤ y1_7.toInt := (by first | exact (cm_le0 ti_8 c) | (have z := bn_le c; have k1 : (8 : Int32).toInt = 8 := ti_8; omega))
        refine lv_aload_n hx hb dX12_image_46 rfl (lv_at hl 0 rfl) ?_
        refine sl_gM_0_38_12 (v := (fp_7 0 38)) hx hb hts hown hK hP rfl dX12_image_47 ?_
        refine lv_topi (fun v_6 ev_6 => ?_)
        exact hret _ _ _ _ (v_6) fp_7 L Q dX12_image_50 hP hS ⟨⟨hI, hF, rfl, rfl⟩, trivial, (Eq.trans (Eq.symm (hs.trans ((if_neg (Int.not_lt.mpr c_4)).trans (spl_e ev_6 rfl)))) hsp)⟩
      · skip
        have c_5 : y1_7.toInt < 8 := (by first | exact (cm_nle0 ti_8 c) | (have z := bn_nle c; have k1 : (8 : Int32).toInt = 8 := ti_8; omega))
        replace hs := hs.trans ((if_pos c_5).trans rfl)
        refine lv_aload_n hx hb dX12_image_13 rfl (lv_at hl 0 rfl) ?_
        refine sl_gM_0_44_12 hx hb hts hown hK hP dX12_image_14 ?_
        refine lv_iload_n hx hb dX12_image_17 rfl (lv_at hl 1 rfl) ?_
        refine lv_iload_n hx hb dX12_image_18 rfl (lv_at hl 1 rfl) ?_
        refine lv_iconst (v := 3) hx hb dX12_image_19 ic_3 ?_
        refine lv_icmp_ge (tgt := 32) hx hb dX12_image_20 (by decide) (fun c => ?_) (fun c => ?_)
        · skip
          have c_7 : 3 ≤ y1_7.toInt := (by first | exact (cm_le0 ti_3 c) | (have z := bn_le c; have k1 : (3 : Int32).toInt = 3 := ti_3; omega))
          refine lv_aload_n hx hb dX12_image_32 rfl (lv_at hl 0 rfl) ?_
          refine lv_iload_n hx hb dX12_image_33 rfl (lv_at hl 1 rfl) ?_
          refine lv_iconst (v := 3) hx hb dX12_image_34 ic_3 ?_
          refine lv_isub hx hb dX12_image_35 ?_
          refine lv_topi (fun v_9 ev_9 => ?_)
          have q_10 : v_9.toInt = y1_7.toInt - 3 := by rw [ev_9]; first | exact cm_sub ti_3 (by omega) (by omega) | (have k1 : (3 : Int32).toInt = 3 := ti_3; exact (bn_subI (by omega) (by omega)).trans (by omega))
          refine sg_calli (va_runV (As := [.int v_9]) (rest := [.int y1_7, .ref (h 19)]) ⟨hx, hb, hml, hown, hts⟩ (kX12_led l D ca za h hh fp_7 L Q hI v_9 H.size) (sl_c12_led_0_0_0_0_12 hts ⟨Nat.le_of_ble_eq_true rfl, Nat.le_of_ble_eq_true rfl⟩) (sl_vM_0 hA hK hP hS hZ) rfl rfl hl.1 rfl (lv_room (Nat.le_of_ble_eq_true rfl)) dX12_image_36 ⟨Nat.le_refl _, Nat.le_refl _⟩) hA hS (fun r_14 f_11 L_12 Q_13 H locs hq hP hS => ?_)
          obtain ⟨⟨ef9, eL9, eQ9⟩, hq, u_15⟩ := hq
          rw [ef9, eL9, eQ9] at hP; clear ef9 eL9 eQ9
          refine sg_iast hx hb hh hA hK hP hS 19 (by decide) 0 (fun _ => rfl) rfl (i := y1_7) (x := r_14) (vp_in_iff.mpr ⟨by omega, by omega⟩) dX12_image_39 (fun f_16 H locs ef_16 hP hS => ?_)
          have hI : sgI loM hiM f_16 := by rw [ef_16]; exact sgI.put hI 19 y1_7.toNatClampNeg (segM19_w r_14 (by have z := bn_clI (x := y1_7) (by omega); have z9 := bn_top (r_14 : Int32); omega))
          have hF : sgK WkX12_image f f_16 := sgK.put hF ef_16 (by rfl)
          obtain ⟨v_17, ev_17⟩ : ∃ z : Int32, z = y1_7 + 1 := ⟨_, rfl⟩
          have q_18 : v_17.toInt = y1_7.toInt + 1 := by rw [ev_17]; exact (bn_addc y1_7 1 (by decide) (by omega) (by omega))
          refine lv_iinc (v := v_17) (lv' := [(1, .int v_17), (0, .ref (h 0))]) hx hb dX12_image_40 hl (k := 1) rfl (by rw [ev_17]; rfl) (by decide) rfl (fun ls hl => ?_)
          refine lv_goto (tgt := 7) hx hb dX12_image_43 (by decide) ?_
          exact ih_7 v_17 f_16 _ _ _ (hs.trans ((if_neg (Int.not_lt.mpr c_7)).trans (spl_e ev_9 (spl_e u_15 (spl_e ef_16 (spl_e ev_17 rfl)))))) (by omega) (by have zz0_43 : (f_16 0 43).toInt = v_1.toInt := (congrArg Int32.toInt (show f_16 0 43 = v_1 from (by rw [ef_16, sg_up_n (by decide)]; exact ev_1.symm))); exact ⟨by omega, by omega⟩) ⟨by omega, by omega⟩ hI hF hP hS (lv_sub hl [1, 0] rfl)
        · skip
          have c_8 : y1_7.toInt < 3 := (by first | exact (cm_nle0 ti_3 c) | (have z := bn_nle c; have k1 : (3 : Int32).toInt = 3 := ti_3; omega))
          refine lv_aload_n hx hb dX12_image_23 rfl (lv_at hl 0 rfl) ?_
          refine sl_gM_0_7_12 hx hb hts hown hK hP dX12_image_24 ?_
          refine lv_iload_n hx hb dX12_image_27 rfl (lv_at hl 1 rfl) ?_
          refine sg_iald hx hb hK hP 5 (by decide) 0 rfl rfl (i := y1_7) (vp_in_iff.mpr ⟨by omega, by omega⟩) dX12_image_28 ?_
          refine lv_topi (fun v_19 ev_19 => ?_)
          have q_20 : 0 ≤ v_19.toInt ∧ v_19.toInt ≤ 60 := by rw [ev_19]; exact hI 5 _
          refine lv_goto (tgt := 39) hx hb dX12_image_29 (by decide) ?_
          refine sg_iast hx hb hh hA hK hP hS 19 (by decide) 0 (fun _ => rfl) rfl (i := y1_7) (x := v_19) (vp_in_iff.mpr ⟨by omega, by omega⟩) dX12_image_39 (fun f_21 H locs ef_21 hP hS => ?_)
          have hI : sgI loM hiM f_21 := by rw [ef_21]; exact sgI.put hI 19 y1_7.toNatClampNeg (segM19_w v_19 (by have z := bn_clI (x := y1_7) (by omega); have z9 := bn_top (v_19 : Int32); omega))
          have hF : sgK WkX12_image f f_21 := sgK.put hF ef_21 (by rfl)
          obtain ⟨v_22, ev_22⟩ : ∃ z : Int32, z = y1_7 + 1 := ⟨_, rfl⟩
          have q_23 : v_22.toInt = y1_7.toInt + 1 := by rw [ev_22]; exact (bn_addc y1_7 1 (by decide) (by omega) (by omega))
          refine lv_iinc (v := v_22) (lv' := [(1, .int v_22), (0, .ref (h 0))]) hx hb dX12_image_40 hl (k := 1) rfl (by rw [ev_22]; rfl) (by decide) rfl (fun ls hl => ?_)
          refine lv_goto (tgt := 7) hx hb dX12_image_43 (by decide) ?_
          exact ih_7 v_22 f_21 _ _ _ (hs.trans ((if_pos c_8).trans (spl_e ev_19 (spl_e ef_21 (spl_e ev_22 rfl))))) (by omega) (by have zz0_43 : (f_21 0 43).toInt = v_1.toInt := (congrArg Int32.toInt (show f_21 0 43 = v_1 from (by rw [ef_21, sg_up_n (by decide)]; exact ev_1.symm))); exact ⟨by omega, by omega⟩) ⟨by omega, by omega⟩ hI hF hP hS (lv_sub hl [1, 0] rfl)
  refine lv_aload_n hx hb dX12_image_0 rfl (lv_at hl 0 rfl) ?_
  refine lv_iconst (v := 1) hx hb dX12_image_1 ic_1 ?_
  refine sg_put (ci := 12) (x := 1) (ty := .boolean) (C := RX12) (T := TX12) (N := 55) hx hb hts (fun w h => List.mem_cons_of_mem _ (gx_12 w h)) tyX12 tyX12_ok nmX12 hown hh hA hK hP hS 0 (by decide) rfl rfl 43 (by decide) (hts _ (List.mem_cons_of_mem _ mw_613)) (fun _ h9 => h9) rfl rfl (by decide +kernel) (by decide) (by decide) (Nat.le_of_ble_eq_true rfl) dX12_image_2 (fun f_24 H locs ef_24 hP hS => ?_)
  have hI : sgI loM hiM f_24 := by rw [ef_24]; exact sgI.put hI 0 43 (show 0 ≤ (1 : Int32).toInt ∧ (1 : Int32).toInt ≤ 1 from by decide)
  have hF : sgK WkX12_image f f_24 := sgK.put hF ef_24 (by rfl)
  refine lv_iconst (v := 0) hx hb dX12_image_5 ic_0 ?_
  refine lv_istore_n (lv' := [(1, .int 0), (0, .ref (h 0))]) hx hb dX12_image_6 rfl hl (by decide) rfl (fun ls hl => ?_)
  exact loop_7 9 0 f_24 _ _ _ (hs.trans ((spl_e ef_24 rfl))) (by have kc0 : (0 : Int32).toInt = 0 := ti_0; omega) (by have zz0_43 : (f_24 0 43).toInt = 1 := (congrArg Int32.toInt (show f_24 0 43 = 1 from (by rw [ef_24, sg_up_s, sgu_s]))).trans (by decide); exact ⟨by omega, by omega⟩) (by decide) hI hF hP hS (lv_sub hl [1, 0] rfl)

abbrev WkX12_back : List (Nat × Nat × Option Nat) := [(0, 0, some 38), (0, 0, some 39), (0, 0, some 40), (0, 0, some 41), (0, 0, some 42), (5, 5, none)]
set_option maxHeartbeats 4000000 in
set_option maxRecDepth 100000 in
theorem kX12_back (l : Launch) (D : va_G) (ca : Nat → ClassId) (za h : Nat → Nat) (hh : sgH 26 h) (f : sg_F) (L : sg_L) (Q : sg_Q) (hI : sgI loM hiM f) (sz : Nat) : Met l yX12_back gwX12_back { frames := 0, cells := 0, slots := 0, locals := 0 } (sgP D vwCl (tyX ca) 26 h (eM ca h) zcM za f L Q sz [.ref (h 0)]) (sgQi D vwCl 26 h (eM ca h) sz (fun r f1 L1 Q1 => ((sgI loM hiM f1 ∧ sgK WkX12_back f f1 ∧ L1 = L ∧ Q1 = Q) ∧ True ∧ (r, f1) = sX12_back f L))) 0 0 (sgA 26 h sz) := by
  refine sg_ofWi (cc := cX12_back) (maxL := 2) RX12 (by decide) rfl rfl (Nat.le_of_ble_eq_true rfl) ?_
  intro p e s m below meth cd Qz ls hx hb hml hown hts hK hZ hP hS hl hret
  have hA := sgY.self (n := 26) (h := h) (sz := s.heap.size)
  have hl : lv_has ls 2 [(0, .ref (h 0))] := hl
  obtain ⟨H, hH⟩ : ∃ z : Heap, z = s.heap := ⟨_, rfl⟩
  obtain ⟨locs, hlo⟩ : ∃ z : List Loc, z = [] := ⟨_, rfl⟩
  have hP : va_P D vwCl (sgw 26 h (eM ca h) f L Q) H := by rw [hH]; exact hP
  have hS : va_S (sgA 26 h s.heap.size) s.heap H locs := by rw [hH, hlo]; exact hS
  suffices hgo : W p l e ({ frames := 0, cells := 0, slots := 0, locals := 0 }) s m ([.ref (h 0)] : List Value).toArray below meth cd H locs 0 0 Qz (F0 m 0 ls []) by rw [hH, hlo] at hgo; exact hgo
  clear hH hlo
  obtain ⟨sp, hsp⟩ : ∃ z : Int32 × sg_F, z = sX12_back f L := ⟨_, rfl⟩
  have hs : sp = sX12_back f L := hsp
  have hF : sgK WkX12_back f f := sgK.rf
  have loop_12 : ∀ (n_12 : Nat) (y1_12 : Int32) (fp_12 : sg_F) (H : Heap) (locs : List Loc) (ls : Array Slot), sp = sX12_back_l12 n_12 y1_12 fp_12 L → 3 - y1_12.toInt < (n_12 : Int) → 1 ≤ (fp_12 0 43).toInt ∧ (fp_12 0 43).toInt ≤ 1 → 0 ≤ y1_12.toInt ∧ y1_12.toInt ≤ 3 → sgI loM hiM fp_12 → sgK WkX12_back f fp_12 → va_P D vwCl (sgw 26 h (eM ca h) fp_12 L Q) H → va_S (sgA 26 h s.heap.size) s.heap H locs → lv_has ls 2 [(0, .ref (h 0)), (1, .int y1_12)] → W p l e ({ frames := 0, cells := 0, slots := 0, locals := 0 }) s m ([.ref (h 0)] : List Value).toArray below meth cd H locs 0 0 Qz (F0 m 12 ls []) := by
    intro n_12
    induction n_12 with
    | zero => intro y1_12 fp_12 H locs ls hs hm_12 hy0_12 hy1_12 hI hF hP hS hl; exact absurd hm_12 (by omega)
    | succ n_12 ih_12 =>
      intro y1_12 fp_12 H locs ls hs hm_12 hy0_12 hy1_12 hI hF hP hS hl
      have hs : sp = sX12_back_h12 (sX12_back_l12 n_12) y1_12 fp_12 L := hs
      obtain ⟨v_1, ev_1⟩ : ∃ z : Int32, z = fp_12 0 43 := ⟨_, rfl⟩
      replace hs := hs.trans (spl_e ev_1 rfl)
      have q_2 : 0 ≤ v_1.toInt ∧ v_1.toInt ≤ 1 := by rw [ev_1]; exact hI 0 43
      have q_3 : (fp_12 0 43).toInt = v_1.toInt := by rw [ev_1]
      refine lv_iload_n hx hb dX12_back_12 rfl (lv_at hl 1 rfl) ?_
      refine lv_iconst (v := 3) hx hb dX12_back_13 ic_3 ?_
      refine lv_icmp_ge (tgt := 35) hx hb dX12_back_14 (by decide) (fun c => ?_) (fun c => ?_)
      · skip
        have c_4 : 3 ≤ y1_12.toInt := (by first | exact (cm_le0 ti_3 c) | (have z := bn_le c; have k1 : (3 : Int32).toInt = 3 := ti_3; omega))
        refine lv_aload_n hx hb dX12_back_35 rfl (lv_at hl 0 rfl) ?_
        refine lv_aload_n hx hb dX12_back_36 rfl (lv_at hl 0 rfl) ?_
        refine sl_gM_0_44_12 hx hb hts hown hK hP dX12_back_37 ?_
        refine lv_iconst (v := 3) hx hb dX12_back_40 ic_3 ?_
        refine sg_iald hx hb hK hP 19 (by decide) 0 rfl rfl (i := 3) (vp_in_iff.mpr (by decide)) dX12_back_41 ?_
        refine lv_topi (fun v_6 ev_6 => ?_)
        refine sl_pM_0_38_12 (x := v_6) hx hb hts hown hh hA hK hP hS dX12_back_42 (fun f_7 H locs ef_7 hP hS => ?_)
        have hI : sgI loM hiM f_7 := by rw [ef_7]; exact sgI.put hI 0 38 (bn_top _)
        have hF : sgK WkX12_back f f_7 := sgK.put hF ef_7 (by rfl)
        refine lv_aload_n hx hb dX12_back_45 rfl (lv_at hl 0 rfl) ?_
        refine lv_aload_n hx hb dX12_back_46 rfl (lv_at hl 0 rfl) ?_
        refine sl_gM_0_44_12 hx hb hts hown hK hP dX12_back_47 ?_
        refine lv_iconst (v := 4) hx hb dX12_back_50 ic_4 ?_
        refine sg_iald hx hb hK hP 19 (by decide) 0 rfl rfl (i := 4) (vp_in_iff.mpr (by decide)) dX12_back_51 ?_
        refine lv_topi (fun v_8 ev_8 => ?_)
        refine sl_pM_0_39_12 (x := v_8) hx hb hts hown hh hA hK hP hS dX12_back_52 (fun f_9 H locs ef_9 hP hS => ?_)
        have hI : sgI loM hiM f_9 := by rw [ef_9]; exact sgI.put hI 0 39 (bn_top _)
        have hF : sgK WkX12_back f f_9 := sgK.put hF ef_9 (by rfl)
        refine lv_aload_n hx hb dX12_back_55 rfl (lv_at hl 0 rfl) ?_
        refine lv_aload_n hx hb dX12_back_56 rfl (lv_at hl 0 rfl) ?_
        refine sl_gM_0_44_12 hx hb hts hown hK hP dX12_back_57 ?_
        refine lv_iconst (v := 5) hx hb dX12_back_60 ic_5 ?_
        refine sg_iald hx hb hK hP 19 (by decide) 0 rfl rfl (i := 5) (vp_in_iff.mpr (by decide)) dX12_back_61 ?_
        refine lv_topi (fun v_10 ev_10 => ?_)
        refine sl_pM_0_40_12 (x := v_10) hx hb hts hown hh hA hK hP hS dX12_back_62 (fun f_11 H locs ef_11 hP hS => ?_)
        have hI : sgI loM hiM f_11 := by rw [ef_11]; exact sgI.put hI 0 40 (bn_top _)
        have hF : sgK WkX12_back f f_11 := sgK.put hF ef_11 (by rfl)
        refine lv_aload_n hx hb dX12_back_65 rfl (lv_at hl 0 rfl) ?_
        refine lv_aload_n hx hb dX12_back_66 rfl (lv_at hl 0 rfl) ?_
        refine sl_gM_0_44_12 hx hb hts hown hK hP dX12_back_67 ?_
        refine lv_bipush (v := 6) hx hb dX12_back_70 bp_6 ?_
        refine sg_iald hx hb hK hP 19 (by decide) 0 rfl rfl (i := 6) (vp_in_iff.mpr (by decide)) dX12_back_72 ?_
        refine lv_topi (fun v_12 ev_12 => ?_)
        refine sl_pM_0_41_12 (x := v_12) hx hb hts hown hh hA hK hP hS dX12_back_73 (fun f_13 H locs ef_13 hP hS => ?_)
        have hI : sgI loM hiM f_13 := by rw [ef_13]; exact sgI.put hI 0 41 (bn_top _)
        have hF : sgK WkX12_back f f_13 := sgK.put hF ef_13 (by rfl)
        refine lv_aload_n hx hb dX12_back_76 rfl (lv_at hl 0 rfl) ?_
        refine lv_aload_n hx hb dX12_back_77 rfl (lv_at hl 0 rfl) ?_
        refine sl_gM_0_44_12 hx hb hts hown hK hP dX12_back_78 ?_
        refine lv_bipush (v := 7) hx hb dX12_back_81 bp_7 ?_
        refine sg_iald hx hb hK hP 19 (by decide) 0 rfl rfl (i := 7) (vp_in_iff.mpr (by decide)) dX12_back_83 ?_
        refine lv_topi (fun v_14 ev_14 => ?_)
        refine sl_pM_0_42_12 (x := v_14) hx hb hts hown hh hA hK hP hS dX12_back_84 (fun f_15 H locs ef_15 hP hS => ?_)
        have hI : sgI loM hiM f_15 := by rw [ef_15]; exact sgI.put hI 0 42 (bn_top _)
        have hF : sgK WkX12_back f f_15 := sgK.put hF ef_15 (by rfl)
        refine lv_aload_n hx hb dX12_back_87 rfl (lv_at hl 0 rfl) ?_
        refine sl_gM_0_38_12 (v := v_6) hx hb hts hown hK hP (show f_15 0 38 = v_6 from (by rw [ef_15, sg_up_s, sgu_n (by decide)]; exact (by rw [ef_13, sg_up_s, sgu_n (by decide)]; exact (by rw [ef_11, sg_up_s, sgu_n (by decide)]; exact (by rw [ef_9, sg_up_s, sgu_n (by decide)]; exact (by rw [ef_7, sg_up_s, sgu_s])))))) dX12_back_88 ?_
        exact hret _ _ _ _ (v_6) f_15 L Q dX12_back_91 hP hS ⟨⟨hI, hF, rfl, rfl⟩, trivial, (Eq.trans (Eq.symm (hs.trans ((if_neg (Int.not_lt.mpr c_4)).trans (spl_e ev_6 (spl_e ef_7 (spl_e ev_8 (spl_e ef_9 (spl_e ev_10 (spl_e ef_11 (spl_e ev_12 (spl_e ef_13 (spl_e ev_14 (spl_e ef_15 rfl))))))))))))) hsp)⟩
      · skip
        have c_5 : y1_12.toInt < 3 := (by first | exact (cm_nle0 ti_3 c) | (have z := bn_nle c; have k1 : (3 : Int32).toInt = 3 := ti_3; omega))
        refine lv_aload_n hx hb dX12_back_17 rfl (lv_at hl 0 rfl) ?_
        refine sl_gM_0_7_12 hx hb hts hown hK hP dX12_back_18 ?_
        refine lv_iload_n hx hb dX12_back_21 rfl (lv_at hl 1 rfl) ?_
        refine lv_aload_n hx hb dX12_back_22 rfl (lv_at hl 0 rfl) ?_
        refine sl_gM_0_44_12 hx hb hts hown hK hP dX12_back_23 ?_
        refine lv_iload_n hx hb dX12_back_26 rfl (lv_at hl 1 rfl) ?_
        refine sg_iald hx hb hK hP 19 (by decide) 0 rfl rfl (i := y1_12) (vp_in_iff.mpr ⟨by omega, by omega⟩) dX12_back_27 ?_
        refine lv_topi (fun v_16 ev_16 => ?_)
        have q_17 : y1_12.toInt < 3 → v_16.toInt ≤ 60 := by rw [ev_16]; have z1 := segM19_r hI (j := Int32.toNatClampNeg y1_12); have z2 := bn_clI (x := y1_12) (by omega); intro z3; exact (z1.2.2 (by omega)).2
        have q_18 : 0 ≤ v_16.toInt ∧ v_16.toInt ≤ 60 := by rw [ev_16]; have z1 := segM19_r hI (j := Int32.toNatClampNeg y1_12); have z2 := bn_clI (x := y1_12) (by omega); omega
        refine sg_iast hx hb hh hA hK hP hS 5 (by decide) 0 (fun _ => rfl) rfl (i := y1_12) (x := v_16) (vp_in_iff.mpr ⟨by omega, by omega⟩) dX12_back_28 (fun f_19 H locs ef_19 hP hS => ?_)
        have hI : sgI loM hiM f_19 := by rw [ef_19]; exact sgI.put hI 5 y1_12.toNatClampNeg (show 0 ≤ (v_16 : Int32).toInt ∧ (v_16 : Int32).toInt ≤ 60 from q_18)
        have hF : sgK WkX12_back f f_19 := sgK.put hF ef_19 (by rfl)
        obtain ⟨v_20, ev_20⟩ : ∃ z : Int32, z = y1_12 + 1 := ⟨_, rfl⟩
        have q_21 : v_20.toInt = y1_12.toInt + 1 := by rw [ev_20]; exact (bn_addc y1_12 1 (by decide) (by omega) (by omega))
        refine lv_iinc (v := v_20) (lv' := [(1, .int v_20), (0, .ref (h 0))]) hx hb dX12_back_29 hl (k := 1) rfl (by rw [ev_20]; rfl) (by decide) rfl (fun ls hl => ?_)
        refine lv_goto (tgt := 12) hx hb dX12_back_32 (by decide) ?_
        exact ih_12 v_20 f_19 _ _ _ (hs.trans ((if_pos c_5).trans (spl_e ev_16 (spl_e ef_19 (spl_e ev_20 rfl))))) (by omega) (by have zz0_43 : (f_19 0 43).toInt = v_1.toInt := (congrArg Int32.toInt (show f_19 0 43 = v_1 from (by rw [ef_19, sg_up_n (by decide)]; exact ev_1.symm))); exact ⟨by omega, by omega⟩) ⟨by omega, by omega⟩ hI hF hP hS (lv_sub hl [1, 0] rfl)
  refine lv_aload_n hx hb dX12_back_0 rfl (lv_at hl 0 rfl) ?_
  refine sl_gM_0_43_12 (v := (f 0 43)) hx hb hts hown hK hP rfl dX12_back_1 ?_
  refine lv_topi (fun v_22 ev_22 => ?_)
  replace hs := hs.trans (spl_e ev_22 rfl)
  have q_23 : 0 ≤ v_22.toInt ∧ v_22.toInt ≤ 1 := by rw [ev_22]; exact hI 0 43
  refine lv_if_ne (tgt := 10) hx hb dX12_back_4 (by decide) (fun c => ?_) (fun c => ?_)
  · skip
    have c_24 : v_22.toInt ≠ 0 := (by first | exact (cm_ne1 ti_0 c) | (have z := bn_ne c; have k1 : (0 : Int32).toInt = 0 := ti_0; omega))
    refine lv_iconst (v := 0) hx hb dX12_back_10 ic_0 ?_
    refine lv_istore_n (lv' := [(1, .int 0), (0, .ref (h 0))]) hx hb dX12_back_11 rfl hl (by decide) rfl (fun ls hl => ?_)
    exact loop_12 4 0 f _ _ _ (hs.trans ((if_neg c_24).trans rfl)) (by have kc0 : (0 : Int32).toInt = 0 := ti_0; omega) (by have zz0_43 : (f 0 43).toInt = v_22.toInt := (congrArg Int32.toInt (show f 0 43 = v_22 from ev_22.symm)); exact ⟨by omega, by omega⟩) (by decide) hI hF hP hS (lv_sub hl [1, 0] rfl)
  · skip
    have c_25 : v_22.toInt = 0 := (by first | exact (cm_eq1 ti_0 c) | (have z := Int32.toInt_inj.mpr c; have k1 : (0 : Int32).toInt = 0 := ti_0; omega))
    refine lv_bipush (v := (-5)) hx hb dX12_back_7 bp_m5 ?_
    have k99 : ((-5) : Int32).toInt = (-5) := ti_m5
    exact hret _ _ _ _ (-5) f L Q dX12_back_9 hP hS ⟨⟨hI, hF, rfl, rfl⟩, trivial, (Eq.trans (Eq.symm (hs.trans ((if_pos c_25).trans rfl))) hsp)⟩

abbrev WkX12_body : List (Nat × Nat × Option Nat) := [(0, 0, some 45), (20, 20, none)]
set_option maxHeartbeats 4000000 in
set_option maxRecDepth 100000 in
theorem kX12_body (l : Launch) (D : va_G) (ca : Nat → ClassId) (za h : Nat → Nat) (hh : sgH 26 h) (f : sg_F) (L : sg_L) (Q : sg_Q) (hI : sgI loM hiM f) (x0 : Int32) (sz : Nat) : Met l yX12_body gwX12_body { frames := 1, cells := 0, slots := 0, locals := 25 } (sgP D vwCl (tyX ca) 26 h (eM ca h) zcM za f L Q sz [.ref (h 0), .int x0]) (sgQi D vwCl 26 h (eM ca h) sz (fun r f1 L1 Q1 => ((sgI loM hiM f1 ∧ sgK WkX12_body f f1 ∧ L1 = L ∧ Q1 = Q) ∧ ((-3) ≤ r.toInt ∧ r.toInt ≤ 49) ∧ (r, f1) = sX12_body x0 f L))) 0 0 (sgA 26 h sz) := by
  refine sg_ofWi (cc := cX12_body) (maxL := 2) RX12 (by decide) rfl rfl (Nat.le_of_ble_eq_true rfl) ?_
  intro p e s m below meth cd Qz ls hx hb hml hown hts hK hZ hP hS hl hret
  have hA := sgY.self (n := 26) (h := h) (sz := s.heap.size)
  have hl : lv_has ls 2 [(0, .ref (h 0)), (1, .int x0)] := hl
  obtain ⟨H, hH⟩ : ∃ z : Heap, z = s.heap := ⟨_, rfl⟩
  obtain ⟨locs, hlo⟩ : ∃ z : List Loc, z = [] := ⟨_, rfl⟩
  have hP : va_P D vwCl (sgw 26 h (eM ca h) f L Q) H := by rw [hH]; exact hP
  have hS : va_S (sgA 26 h s.heap.size) s.heap H locs := by rw [hH, hlo]; exact hS
  suffices hgo : W p l e ({ frames := 1, cells := 0, slots := 0, locals := 25 }) s m ([.ref (h 0), .int x0] : List Value).toArray below meth cd H locs 0 0 Qz (F0 m 0 ls []) by rw [hH, hlo] at hgo; exact hgo
  clear hH hlo
  obtain ⟨sp, hsp⟩ : ∃ z : Int32 × sg_F, z = sX12_body x0 f L := ⟨_, rfl⟩
  have hs : sp = sX12_body x0 f L := hsp
  have hF : sgK WkX12_body f f := sgK.rf
  refine lv_iload_n hx hb dX12_body_0 rfl (lv_at hl 1 rfl) ?_
  obtain ⟨w_1, ew_1⟩ : ∃ z : Int64, z = Int32.toInt64 x0 := ⟨_, rfl⟩
  have q_2 : w_1.toInt = x0.toInt := by rw [ew_1]; exact Int32.toInt_toInt64 _
  refine lv_i2l (v := w_1) hx hb dX12_body_1 ew_1.symm ?_
  refine lv_lconst (v := 0) hx hb dX12_body_2 (by decide) ?_
  refine lv_ldc2 (v := 7) hx hb hown (hts _ (List.mem_cons_of_mem _ mw_620)) dX12_body_3 ?_
  refine sg_calli (va_runS (As := [.long w_1, .long 0, .long 7]) (rest := []) ⟨hx, hb, hml, hown, hts⟩ (kX12_within l D ca za h hh f L Q hI w_1 0 7 H.size) (va_cwS 3 hts (gw_S (fun _ h => List.mem_cons_of_mem _ h) mw_631 mw_632 mw_619 mw_630) rfl rfl rfl hd_yX12_within.2 ⟨Nat.le_of_ble_eq_true rfl, Nat.le_of_ble_eq_true rfl⟩) (sg_preS hA hK hP hS hZ) rfl rfl hl.1 rfl (lv_room (Nat.le_of_ble_eq_true rfl)) dX12_body_6 ⟨Nat.le_refl _, Nat.le_refl _⟩) hA hS (fun r_6 f_3 L_4 Q_5 H locs hq hP hS => ?_)
  obtain ⟨⟨ef9, eL9, eQ9⟩, hq, u_7⟩ := hq
  replace hs := hs.trans (spl_e ew_1 (spl_e u_7 rfl))
  rw [ef9, eL9, eQ9] at hP; clear ef9 eL9 eQ9
  have k_8 : (0 : Int64).toInt = 0 := by decide
  have k_9 : (7 : Int64).toInt = 7 := by decide
  rcases hq with ⟨rfl, hq⟩ | ⟨rfl, hq⟩
  · skip
    have hc_10 := hq
    refine lv_if_ne (tgt := 14) hx hb dX12_body_9 (by decide) (fun c => ?_) (fun c => absurd c (by decide))
    refine lv_aload_n hx hb dX12_body_14 rfl (lv_at hl 0 rfl) ?_
    refine sl_gM_0_45_12 (v := (f 0 45)) hx hb hts hown hK hP rfl dX12_body_15 ?_
    refine lv_topi (fun v_11 ev_11 => ?_)
    replace hs := hs.trans ((if_pos rfl).trans (spl_e ev_11 rfl))
    have q_12 : 0 ≤ v_11.toInt ∧ v_11.toInt ≤ 50 := by rw [ev_11]; exact hI 0 45
    refine lv_bipush (v := 50) hx hb dX12_body_18 bp_50 ?_
    refine lv_icmp_ne (tgt := 26) hx hb dX12_body_20 (by decide) (fun c => ?_) (fun c => ?_)
    · skip
      have c_13 : v_11.toInt ≠ 50 := (by first | exact (cm_ne1 ti_50 c) | (have z := bn_ne c; have k1 : (50 : Int32).toInt = 50 := ti_50; omega))
      refine lv_aload_n hx hb dX12_body_26 rfl (lv_at hl 0 rfl) ?_
      refine sl_gM_0_46_12 hx hb hts hown hK hP dX12_body_27 ?_
      refine lv_aload_n hx hb dX12_body_30 rfl (lv_at hl 0 rfl) ?_
      refine sl_gM_0_45_12 (v := v_11) hx hb hts hown hK hP (show f 0 45 = v_11 from ev_11.symm) dX12_body_31 ?_
      refine lv_iload_n hx hb dX12_body_34 rfl (lv_at hl 1 rfl) ?_
      refine sg_iast hx hb hh hA hK hP hS 20 (by decide) 0 (fun _ => rfl) rfl (i := v_11) (x := x0) (vp_in_iff.mpr ⟨by omega, by omega⟩) dX12_body_35 (fun f_15 H locs ef_15 hP hS => ?_)
      have hI : sgI loM hiM f_15 := by rw [ef_15]; exact sgI.put hI 20 v_11.toNatClampNeg (show 0 ≤ (x0 : Int32).toInt ∧ (x0 : Int32).toInt ≤ 7 from ⟨by omega, by omega⟩)
      have hF : sgK WkX12_body f f_15 := sgK.put hF ef_15 (by rfl)
      refine lv_aload_n hx hb dX12_body_36 rfl (lv_at hl 0 rfl) ?_
      refine lv_dup hx hb dX12_body_37 rfl ?_
      refine sl_gM_0_45_12 (v := v_11) hx hb hts hown hK hP (show f_15 0 45 = v_11 from (by rw [ef_15, sg_up_n (by decide)]; exact ev_11.symm)) dX12_body_38 ?_
      refine lv_iconst (v := 1) hx hb dX12_body_41 ic_1 ?_
      refine lv_iadd hx hb dX12_body_42 ?_
      refine lv_topi (fun v_16 ev_16 => ?_)
      have q_17 : v_16.toInt = v_11.toInt + 1 := by rw [ev_16]; first | exact cm_add ti_1 (by omega) (by omega) | (have k1 : (1 : Int32).toInt = 1 := ti_1; exact (bn_addI (by omega) (by omega)).trans (by omega))
      refine sl_pM_0_45_12 (x := v_16) hx hb hts hown hh hA hK hP hS dX12_body_43 (fun f_18 H locs ef_18 hP hS => ?_)
      have hI : sgI loM hiM f_18 := by rw [ef_18]; exact sgI.put hI 0 45 (show 0 ≤ (v_16 : Int32).toInt ∧ (v_16 : Int32).toInt ≤ 50 from ⟨by omega, by omega⟩)
      have hF : sgK WkX12_body f f_18 := sgK.put hF ef_18 (by rfl)
      refine lv_aload_n hx hb dX12_body_46 rfl (lv_at hl 0 rfl) ?_
      refine sl_gM_0_45_12 (v := v_16) hx hb hts hown hK hP (show f_18 0 45 = v_16 from (by rw [ef_18, sg_up_s, sgu_s])) dX12_body_47 ?_
      refine lv_iconst (v := 1) hx hb dX12_body_50 ic_1 ?_
      refine lv_isub hx hb dX12_body_51 ?_
      refine lv_topi (fun v_19 ev_19 => ?_)
      have q_20 : v_19.toInt = v_16.toInt - 1 := by rw [ev_19]; first | exact cm_sub ti_1 (by omega) (by omega) | (have k1 : (1 : Int32).toInt = 1 := ti_1; exact (bn_subI (by omega) (by omega)).trans (by omega))
      exact hret _ _ _ _ (v_19) f_18 L Q dX12_body_52 hP hS ⟨⟨hI, hF, rfl, rfl⟩, ⟨by omega, by omega⟩, (Eq.trans (Eq.symm (hs.trans ((if_neg c_13).trans (spl_e ef_15 (spl_e ev_16 (spl_e ef_18 (spl_e ev_19 rfl))))))) hsp)⟩
    · skip
      have c_14 : v_11.toInt = 50 := (by first | exact (cm_eq1 ti_50 c) | (have z := Int32.toInt_inj.mpr c; have k1 : (50 : Int32).toInt = 50 := ti_50; omega))
      refine lv_bipush (v := (-3)) hx hb dX12_body_23 bp_m3 ?_
      have k99 : ((-3) : Int32).toInt = (-3) := ti_m3
      exact hret _ _ _ _ (-3) f L Q dX12_body_25 hP hS ⟨⟨hI, hF, rfl, rfl⟩, (by decide), (Eq.trans (Eq.symm (hs.trans ((if_pos c_14).trans rfl))) hsp)⟩
  · skip
    have hc_10 := hq
    refine lv_if_ne (tgt := 14) hx hb dX12_body_9 (by decide) (fun c => absurd c (by decide)) (fun c => ?_)
    refine lv_iconst (v := (-1)) hx hb dX12_body_12 ic_m1 ?_
    have k99 : ((-1) : Int32).toInt = (-1) := ti_m1
    exact hret _ _ _ _ (-1) f L Q dX12_body_13 hP hS ⟨⟨hI, hF, rfl, rfl⟩, (by decide), (Eq.trans (Eq.symm (hs.trans ((if_neg (by decide)).trans rfl))) hsp)⟩

set_option maxHeartbeats 4000000 in
set_option maxRecDepth 100000 in
theorem kX12_isBody (l : Launch) (D : va_G) (ca : Nat → ClassId) (za h : Nat → Nat) (hh : sgH 26 h) (f : sg_F) (L : sg_L) (Q : sg_Q) (hI : sgI loM hiM f) (x0 : Int32) (sz : Nat) : Met l yX12_isBody gwX12_isBody { frames := 1, cells := 0, slots := 0, locals := 25 } (sgP D vwCl (tyX ca) 26 h (eM ca h) zcM za f L Q sz [.ref (h 0), .int x0]) (sgQi D vwCl 26 h (eM ca h) sz (fun r f1 L1 Q1 => ((f1 = f ∧ L1 = L ∧ Q1 = Q) ∧ ((r = 1 ∧ (0 ≤ x0.toInt ∧ x0.toInt < (f 0 45).toInt)) ∨ (r = 0 ∧ (¬ (0 ≤ x0.toInt ∧ x0.toInt < (f 0 45).toInt)))) ∧ (r) = sX12_isBody x0 f L))) 0 0 (sgA 26 h sz) := by
  refine sg_ofWz (cc := cX12_isBody) (maxL := 2) RX12 (by decide) rfl rfl (Nat.le_of_ble_eq_true rfl) ?_
  intro p e s m below meth cd Qz ls hx hb hml hown hts hK hZ hP hS hl hret
  have hA := sgY.self (n := 26) (h := h) (sz := s.heap.size)
  have hl : lv_has ls 2 [(0, .ref (h 0)), (1, .int x0)] := hl
  obtain ⟨H, hH⟩ : ∃ z : Heap, z = s.heap := ⟨_, rfl⟩
  obtain ⟨locs, hlo⟩ : ∃ z : List Loc, z = [] := ⟨_, rfl⟩
  have hP : va_P D vwCl (sgw 26 h (eM ca h) f L Q) H := by rw [hH]; exact hP
  have hS : va_S (sgA 26 h s.heap.size) s.heap H locs := by rw [hH, hlo]; exact hS
  suffices hgo : W p l e ({ frames := 1, cells := 0, slots := 0, locals := 25 }) s m ([.ref (h 0), .int x0] : List Value).toArray below meth cd H locs 0 0 Qz (F0 m 0 ls []) by rw [hH, hlo] at hgo; exact hgo
  clear hH hlo
  obtain ⟨sp, hsp⟩ : ∃ z : Int32, z = sX12_isBody x0 f L := ⟨_, rfl⟩
  have hs : sp = sX12_isBody x0 f L := hsp
  obtain ⟨v_1, ev_1⟩ : ∃ z : Int32, z = f 0 45 := ⟨_, rfl⟩
  have q_2 : 0 ≤ v_1.toInt ∧ v_1.toInt ≤ 50 := by rw [ev_1]; exact hI 0 45
  have o_3 : (f 0 45).toInt = v_1.toInt := (congrArg Int32.toInt (show f 0 45 = v_1 from ev_1.symm))
  refine lv_iload_n hx hb dX12_isBody_0 rfl (lv_at hl 1 rfl) ?_
  obtain ⟨w_4, ew_4⟩ : ∃ z : Int64, z = Int32.toInt64 x0 := ⟨_, rfl⟩
  have q_5 : w_4.toInt = x0.toInt := by rw [ew_4]; exact Int32.toInt_toInt64 _
  refine lv_i2l (v := w_4) hx hb dX12_isBody_1 ew_4.symm ?_
  refine lv_lconst (v := 0) hx hb dX12_isBody_2 (by decide) ?_
  refine lv_aload_n hx hb dX12_isBody_3 rfl (lv_at hl 0 rfl) ?_
  refine sl_gM_0_45_12 (v := v_1) hx hb hts hown hK hP (show f 0 45 = v_1 from ev_1.symm) dX12_isBody_4 ?_
  refine lv_iconst (v := 1) hx hb dX12_isBody_7 ic_1 ?_
  refine lv_isub hx hb dX12_isBody_8 ?_
  refine lv_topi (fun v_6 ev_6 => ?_)
  have q_7 : v_6.toInt = v_1.toInt - 1 := by rw [ev_6]; first | exact cm_sub ti_1 (by omega) (by omega) | (have k1 : (1 : Int32).toInt = 1 := ti_1; exact (bn_subI (by omega) (by omega)).trans (by omega))
  obtain ⟨w_8, ew_8⟩ : ∃ z : Int64, z = Int32.toInt64 v_6 := ⟨_, rfl⟩
  have q_9 : w_8.toInt = v_6.toInt := by rw [ew_8]; exact Int32.toInt_toInt64 _
  refine lv_i2l (v := w_8) hx hb dX12_isBody_9 ew_8.symm ?_
  refine sg_calli (va_runS (As := [.long w_4, .long 0, .long w_8]) (rest := []) ⟨hx, hb, hml, hown, hts⟩ (kX12_within l D ca za h hh f L Q hI w_4 0 w_8 H.size) (va_cwS 3 hts (gw_S (fun _ h => List.mem_cons_of_mem _ h) mw_631 mw_632 mw_619 mw_630) rfl rfl rfl hd_yX12_within.2 ⟨Nat.le_of_ble_eq_true rfl, Nat.le_of_ble_eq_true rfl⟩) (sg_preS hA hK hP hS hZ) rfl rfl hl.1 rfl (lv_room (Nat.le_of_ble_eq_true rfl)) dX12_isBody_10 ⟨Nat.le_refl _, Nat.le_refl _⟩) hA hS (fun r_13 f_10 L_11 Q_12 H locs hq hP hS => ?_)
  obtain ⟨⟨ef9, eL9, eQ9⟩, hq, u_14⟩ := hq
  replace hs := hs.trans (spl_e ev_1 (spl_e ew_4 (spl_e ev_6 (spl_e ew_8 (spl_e u_14 rfl)))))
  rw [ef9, eL9, eQ9] at hP; clear ef9 eL9 eQ9
  have k_15 : (0 : Int64).toInt = 0 := by decide
  rcases hq with ⟨rfl, hq⟩ | ⟨rfl, hq⟩
  · skip
    have hc_16 := hq
    have k99 : (1 : Int32).toInt = 1 := ti_1
    exact hret _ _ _ _ (1) f L Q dX12_isBody_13 (by decide) hP hS ⟨⟨rfl, rfl, rfl⟩, Or.inl ⟨rfl, by omega⟩, (Eq.trans (Eq.symm (hs.trans ((if_pos rfl).trans rfl))) hsp)⟩
  · skip
    have hc_16 := hq
    have k99 : (0 : Int32).toInt = 0 := ti_0
    exact hret _ _ _ _ (0) f L Q dX12_isBody_13 (by decide) hP hS ⟨⟨rfl, rfl, rfl⟩, Or.inr (⟨rfl, by omega⟩), (Eq.trans (Eq.symm (hs.trans ((if_neg (by decide)).trans rfl))) hsp)⟩

abbrev WkX12_begins_1_f0 : List (Nat × Nat × Option Nat) := [(0, 0, some 48), (21, 21, some 0)]
set_option maxHeartbeats 4000000 in
set_option maxRecDepth 100000 in
theorem kX12_begins_1_f0 (l : Launch) (D : va_G) (ca : Nat → ClassId) (za h : Nat → Nat) (hh : sgH 26 h) (f : sg_F) (L : sg_L) (Q : sg_Q) (hI : sgI loM hiM f) (hf_0_48 : f 0 48 = 0) (p0 : 0 ≤ (f 0 48).toInt ∧ (f 0 48).toInt ≤ 0) (sz : Nat) : Met l yX12_begins gwX12_begins { frames := 0, cells := 0, slots := 0, locals := 0 } (sgP D vwCl (tyX ca) 26 h (eM ca h) zcM za f L Q sz [.ref (h 0), .int 1]) (sgQv D vwCl 26 h (eM ca h) sz (fun f1 L1 Q1 => ((sgI loM hiM f1 ∧ sgK WkX12_begins_1_f0 f f1 ∧ L1 = L ∧ Q1 = Q) ∧ (1 ≤ (f1 0 48).toInt ∧ (f1 0 48).toInt ≤ 1) ∧ (f1) = sX12_begins_1_f0 f L))) 0 0 (sgA 26 h sz) := by
  refine sg_ofWv (cc := cX12_begins) (maxL := 2) RX12 (by decide) rfl rfl (Nat.le_of_ble_eq_true rfl) ?_
  intro p e s m below meth cd Qz ls hx hb hml hown hts hK hZ hP hS hl hret
  have hA := sgY.self (n := 26) (h := h) (sz := s.heap.size)
  have hl : lv_has ls 2 [(0, .ref (h 0)), (1, .int 1)] := hl
  obtain ⟨H, hH⟩ : ∃ z : Heap, z = s.heap := ⟨_, rfl⟩
  obtain ⟨locs, hlo⟩ : ∃ z : List Loc, z = [] := ⟨_, rfl⟩
  have hP : va_P D vwCl (sgw 26 h (eM ca h) f L Q) H := by rw [hH]; exact hP
  have hS : va_S (sgA 26 h s.heap.size) s.heap H locs := by rw [hH, hlo]; exact hS
  suffices hgo : W p l e ({ frames := 0, cells := 0, slots := 0, locals := 0 }) s m ([.ref (h 0), .int 1] : List Value).toArray below meth cd H locs 0 0 Qz (F0 m 0 ls []) by rw [hH, hlo] at hgo; exact hgo
  clear hH hlo
  obtain ⟨sp, hsp⟩ : ∃ z : sg_F, z = sX12_begins_1_f0 f L := ⟨_, rfl⟩
  have hs : sp = sX12_begins_1_f0 f L := hsp
  have o_1 : (f 0 48).toInt = 0 := (congrArg Int32.toInt (show f 0 48 = 0 from hf_0_48)).trans (by decide)
  have hF : sgK WkX12_begins_1_f0 f f := sgK.rf
  have blk_19 : ∀ (fp_19 : sg_F) (H : Heap) (locs : List Loc) (ls : Array Slot), sp = sX12_begins_1_f0_b19 fp_19 L → 0 ≤ (fp_19 0 48).toInt ∧ (fp_19 0 48).toInt ≤ 0 → sgI loM hiM fp_19 → sgK WkX12_begins_1_f0 f fp_19 → va_P D vwCl (sgw 26 h (eM ca h) fp_19 L Q) H → va_S (sgA 26 h s.heap.size) s.heap H locs → lv_has ls 2 [(0, .ref (h 0))] → W p l e ({ frames := 0, cells := 0, slots := 0, locals := 0 }) s m ([.ref (h 0), .int 1] : List Value).toArray below meth cd H locs 0 0 Qz (F0 m 19 ls []) := by
    intro fp_19 H locs ls hs hy0_19 hI hF hP hS hl
    obtain ⟨v_2, ev_2⟩ : ∃ z : Int32, z = fp_19 0 48 := ⟨_, rfl⟩
    have q_3 : 0 ≤ v_2.toInt ∧ v_2.toInt ≤ 19 := by rw [ev_2]; exact hI 0 48
    have q_4 : (fp_19 0 48).toInt = v_2.toInt := by rw [ev_2]
    refine lv_aload_n hx hb dX12_begins_19 rfl (lv_at hl 0 rfl) ?_
    refine lv_dup hx hb dX12_begins_20 rfl ?_
    refine sl_gM_0_48_12 (v := v_2) hx hb hts hown hK hP (show fp_19 0 48 = v_2 from ev_2.symm) dX12_begins_21 ?_
    refine lv_iconst (v := 1) hx hb dX12_begins_24 ic_1 ?_
    refine lv_iadd hx hb dX12_begins_25 ?_
    refine lv_topi (fun v_5 ev_5 => ?_)
    have q_6 : v_5.toInt = v_2.toInt + 1 := by rw [ev_5]; first | exact cm_add ti_1 (by omega) (by omega) | (have k1 : (1 : Int32).toInt = 1 := ti_1; exact (bn_addI (by omega) (by omega)).trans (by omega))
    refine sl_pM_0_48_12 (x := v_5) hx hb hts hown hh hA hK hP hS dX12_begins_26 (fun f_7 H locs ef_7 hP hS => ?_)
    have hI : sgI loM hiM f_7 := by rw [ef_7]; exact sgI.put hI 0 48 (show 0 ≤ (v_5 : Int32).toInt ∧ (v_5 : Int32).toInt ≤ 19 from ⟨by omega, by omega⟩)
    have hF : sgK WkX12_begins_1_f0 f f_7 := sgK.put hF ef_7 (by rfl)
    have q_8 : (f_7 0 48).toInt = v_5.toInt := (congrArg Int32.toInt (show f_7 0 48 = v_5 from (by rw [ef_7, sg_up_s, sgu_s])))
    exact hret _ _ _ _ f_7 L Q dX12_begins_29 hP hS ⟨⟨hI, hF, rfl, rfl⟩, ⟨by omega, by omega⟩, (Eq.trans (Eq.symm (hs.trans ((spl_e ev_2 (spl_e ev_5 (spl_e ef_7 rfl)))))) hsp)⟩
  refine lv_aload_n hx hb dX12_begins_0 rfl (lv_at hl 0 rfl) ?_
  refine sl_gM_0_48_12 (v := 0) hx hb hts hown hK hP (show f 0 48 = 0 from hf_0_48) dX12_begins_1 ?_
  refine lv_bipush (v := 24) hx hb dX12_begins_4 bp_24 ?_
  refine lv_icmp_ge (tgt := 19) hx hb dX12_begins_6 (by decide) (fun c => absurd c (by decide)) (fun c => ?_)
  refine lv_aload_n hx hb dX12_begins_9 rfl (lv_at hl 0 rfl) ?_
  refine sl_gM_0_47_12 hx hb hts hown hK hP dX12_begins_10 ?_
  refine lv_aload_n hx hb dX12_begins_13 rfl (lv_at hl 0 rfl) ?_
  refine sl_gM_0_48_12 (v := 0) hx hb hts hown hK hP (show f 0 48 = 0 from hf_0_48) dX12_begins_14 ?_
  refine lv_iload_n hx hb dX12_begins_17 rfl (lv_at hl 1 rfl) ?_
  refine sg_iast hx hb hh hA hK hP hS 21 (by decide) 0 (fun _ => rfl) rfl (i := 0) (x := 1) (vp_in_iff.mpr (by decide)) dX12_begins_18 (fun f_10 H locs ef_10 hP hS => ?_)
  have ef_10 : f_10 = sg_up f 21 (sgu (f 21) 0 1) := ef_10
  have hI : sgI loM hiM f_10 := by rw [ef_10]; exact sgI.put hI 21 0 (show 0 ≤ (1 : Int32).toInt ∧ (1 : Int32).toInt ≤ 81 from by decide)
  have hF : sgK WkX12_begins_1_f0 f f_10 := sgK.put hF ef_10 (by rfl)
  exact blk_19 f_10 _ _ _ (hs.trans ((spl_e ef_10 rfl))) (by have zz0_48 : (f_10 0 48).toInt = 0 := (congrArg Int32.toInt (show f_10 0 48 = 0 from (by rw [ef_10, sg_up_n (by decide)]; exact hf_0_48))).trans (by decide); exact ⟨by omega, by omega⟩) hI hF hP hS (lv_sub hl [0] rfl)

abbrev WkX12_setsAs_0_f0_f0 : List (Nat × Nat × Option Nat) := [(0, 0, some 48), (21, 21, some 0)]
set_option maxHeartbeats 4000000 in
set_option maxRecDepth 100000 in
theorem kX12_setsAs_0_f0_f0 (l : Launch) (D : va_G) (ca : Nat → ClassId) (za h : Nat → Nat) (hh : sgH 26 h) (f : sg_F) (L : sg_L) (Q : sg_Q) (hI : sgI loM hiM f) (x1 : Int32) (hf_0_48 : f 0 48 = 0) (hf_0_49 : f 0 49 = 0) (p0 : 0 ≤ (f 0 48).toInt ∧ (f 0 48).toInt ≤ 0) (sz : Nat) : Met l yX12_setsAs gwX12_setsAs { frames := 1, cells := 0, slots := 0, locals := 21 } (sgP D vwCl (tyX ca) 26 h (eM ca h) zcM za f L Q sz [.ref (h 0), .int 0, .int x1]) (sgQi D vwCl 26 h (eM ca h) sz (fun r f1 L1 Q1 => ((sgI loM hiM f1 ∧ sgK WkX12_setsAs_0_f0_f0 f f1 ∧ L1 = L ∧ Q1 = Q) ∧ True ∧ (1 ≤ (f1 0 48).toInt ∧ (f1 0 48).toInt ≤ 1) ∧ (r, f1) = sX12_setsAs_0_f0_f0 x1 f L))) 0 0 (sgA 26 h sz) := by
  refine sg_ofWi (cc := cX12_setsAs) (maxL := 3) RX12 (by decide) rfl rfl (Nat.le_of_ble_eq_true rfl) ?_
  intro p e s m below meth cd Qz ls hx hb hml hown hts hK hZ hP hS hl hret
  have hA := sgY.self (n := 26) (h := h) (sz := s.heap.size)
  have hl : lv_has ls 3 [(0, .ref (h 0)), (1, .int 0), (2, .int x1)] := hl
  obtain ⟨H, hH⟩ : ∃ z : Heap, z = s.heap := ⟨_, rfl⟩
  obtain ⟨locs, hlo⟩ : ∃ z : List Loc, z = [] := ⟨_, rfl⟩
  have hP : va_P D vwCl (sgw 26 h (eM ca h) f L Q) H := by rw [hH]; exact hP
  have hS : va_S (sgA 26 h s.heap.size) s.heap H locs := by rw [hH, hlo]; exact hS
  suffices hgo : W p l e ({ frames := 1, cells := 0, slots := 0, locals := 21 }) s m ([.ref (h 0), .int 0, .int x1] : List Value).toArray below meth cd H locs 0 0 Qz (F0 m 0 ls []) by rw [hH, hlo] at hgo; exact hgo
  clear hH hlo
  obtain ⟨sp, hsp⟩ : ∃ z : Int32 × sg_F, z = sX12_setsAs_0_f0_f0 x1 f L := ⟨_, rfl⟩
  have hs : sp = sX12_setsAs_0_f0_f0 x1 f L := hsp
  have o_1 : (f 0 48).toInt = 0 := (congrArg Int32.toInt (show f 0 48 = 0 from hf_0_48)).trans (by decide)
  have hF : sgK WkX12_setsAs_0_f0_f0 f f := sgK.rf
  refine lv_iload_n hx hb dX12_setsAs_0 rfl (lv_at hl 1 rfl) ?_
  refine lv_iconst (v := 1) hx hb dX12_setsAs_1 ic_1 ?_
  refine lv_icmp_eq (tgt := 16) hx hb dX12_setsAs_2 (by decide) (fun c => absurd c (by decide)) (fun c => ?_)
  refine lv_iload_n hx hb dX12_setsAs_5 rfl (lv_at hl 1 rfl) ?_
  refine lv_iconst (v := 4) hx hb dX12_setsAs_6 ic_4 ?_
  refine lv_icmp_eq (tgt := 16) hx hb dX12_setsAs_7 (by decide) (fun c => absurd c (by decide)) (fun c => ?_)
  refine lv_iload_n hx hb dX12_setsAs_10 rfl (lv_at hl 1 rfl) ?_
  refine lv_bipush (v := 7) hx hb dX12_setsAs_11 bp_7 ?_
  refine lv_icmp_ne (tgt := 31) hx hb dX12_setsAs_13 (by decide) (fun c => ?_) (fun c => absurd c (by decide))
  refine lv_iload_n hx hb dX12_setsAs_31 rfl (lv_at hl 1 rfl) ?_
  refine lv_bipush (v := 6) hx hb dX12_setsAs_32 bp_6 ?_
  refine lv_icmp_ne (tgt := 52) hx hb dX12_setsAs_34 (by decide) (fun c => ?_) (fun c => absurd c (by decide))
  refine lv_aload_n hx hb dX12_setsAs_52 rfl (lv_at hl 0 rfl) ?_
  refine lv_iconst (v := 1) hx hb dX12_setsAs_53 ic_1 ?_
  have q_2 : (f 0 48).toInt = 0 := (congrArg Int32.toInt (show f 0 48 = 0 from hf_0_48)).trans (by decide)
  refine sg_callv (va_runV (As := [.int 1]) (rest := []) ⟨hx, hb, hml, hown, hts⟩ (kX12_begins_1_f0 l D ca za h hh f L Q hI hf_0_48 (by have k0 : (1 : Int32).toInt = 1 := ti_1; omega) H.size) (sl_c12_begins_0_0_0_0_12 hts ⟨Nat.le_of_ble_eq_true rfl, Nat.le_of_ble_eq_true rfl⟩) (sl_vM_0 hA hK hP hS hZ) rfl rfl hl.1 rfl (lv_room (Nat.le_of_ble_eq_true rfl)) dX12_setsAs_54 ⟨Nat.le_refl _, Nat.le_refl _⟩) hA hS (fun f_4 L_5 Q_6 H locs hq hP hS => ?_)
  obtain ⟨⟨hI, hk_f_4, eL9, eQ9⟩, p_7, u_8⟩ := hq
  rw [eL9, eQ9] at hP; clear eL9 eQ9
  have hF : sgK WkX12_setsAs_0_f0_f0 f f_4 := sgK.tr hF hk_f_4 (by decide +kernel)
  obtain ⟨v_9, ev_9⟩ : ∃ z : Int32, z = f_4 0 48 := ⟨_, rfl⟩
  have q_10 : 0 ≤ v_9.toInt ∧ v_9.toInt ≤ 19 := by rw [ev_9]; exact hI 0 48
  have q_11 : (f_4 0 48).toInt = v_9.toInt := (congrArg Int32.toInt (show f_4 0 48 = v_9 from ev_9.symm))
  refine lv_iload_n hx hb dX12_setsAs_57 rfl (lv_at hl 2 rfl) ?_
  refine lv_aload_n hx hb dX12_setsAs_58 rfl (lv_at hl 0 rfl) ?_
  refine sl_gM_0_50_12 (v := (f_4 0 50)) hx hb hts hown hK hP rfl dX12_setsAs_59 ?_
  refine lv_topi (fun v_13 ev_13 => ?_)
  have q_14 : 0 ≤ v_13.toInt ∧ v_13.toInt ≤ 49 := by rw [ev_13]; exact hI 0 50
  refine lv_iadd hx hb dX12_setsAs_62 ?_
  refine lv_topi (fun v_15 ev_15 => ?_)
  exact hret _ _ _ _ (v_15) f_4 L Q dX12_setsAs_63 hP hS ⟨⟨hI, hF, rfl, rfl⟩, trivial, ⟨by omega, by omega⟩, (Eq.trans (Eq.symm (hs.trans ((spl_e u_8 (spl_e ev_9 (spl_e ev_13 (spl_e ev_15 rfl))))))) hsp)⟩

abbrev WkX12_begins_20_f0 : List (Nat × Nat × Option Nat) := [(0, 0, some 48), (21, 21, some 0)]
set_option maxHeartbeats 4000000 in
set_option maxRecDepth 100000 in
theorem kX12_begins_20_f0 (l : Launch) (D : va_G) (ca : Nat → ClassId) (za h : Nat → Nat) (hh : sgH 26 h) (f : sg_F) (L : sg_L) (Q : sg_Q) (hI : sgI loM hiM f) (hf_0_48 : f 0 48 = 0) (p0 : 0 ≤ (f 0 48).toInt ∧ (f 0 48).toInt ≤ 0) (sz : Nat) : Met l yX12_begins gwX12_begins { frames := 0, cells := 0, slots := 0, locals := 0 } (sgP D vwCl (tyX ca) 26 h (eM ca h) zcM za f L Q sz [.ref (h 0), .int 20]) (sgQv D vwCl 26 h (eM ca h) sz (fun f1 L1 Q1 => ((sgI loM hiM f1 ∧ sgK WkX12_begins_20_f0 f f1 ∧ L1 = L ∧ Q1 = Q) ∧ (1 ≤ (f1 0 48).toInt ∧ (f1 0 48).toInt ≤ 1) ∧ (f1) = sX12_begins_20_f0 f L))) 0 0 (sgA 26 h sz) := by
  refine sg_ofWv (cc := cX12_begins) (maxL := 2) RX12 (by decide) rfl rfl (Nat.le_of_ble_eq_true rfl) ?_
  intro p e s m below meth cd Qz ls hx hb hml hown hts hK hZ hP hS hl hret
  have hA := sgY.self (n := 26) (h := h) (sz := s.heap.size)
  have hl : lv_has ls 2 [(0, .ref (h 0)), (1, .int 20)] := hl
  obtain ⟨H, hH⟩ : ∃ z : Heap, z = s.heap := ⟨_, rfl⟩
  obtain ⟨locs, hlo⟩ : ∃ z : List Loc, z = [] := ⟨_, rfl⟩
  have hP : va_P D vwCl (sgw 26 h (eM ca h) f L Q) H := by rw [hH]; exact hP
  have hS : va_S (sgA 26 h s.heap.size) s.heap H locs := by rw [hH, hlo]; exact hS
  suffices hgo : W p l e ({ frames := 0, cells := 0, slots := 0, locals := 0 }) s m ([.ref (h 0), .int 20] : List Value).toArray below meth cd H locs 0 0 Qz (F0 m 0 ls []) by rw [hH, hlo] at hgo; exact hgo
  clear hH hlo
  obtain ⟨sp, hsp⟩ : ∃ z : sg_F, z = sX12_begins_20_f0 f L := ⟨_, rfl⟩
  have hs : sp = sX12_begins_20_f0 f L := hsp
  have o_1 : (f 0 48).toInt = 0 := (congrArg Int32.toInt (show f 0 48 = 0 from hf_0_48)).trans (by decide)
  have hF : sgK WkX12_begins_20_f0 f f := sgK.rf
  have blk_19 : ∀ (fp_19 : sg_F) (H : Heap) (locs : List Loc) (ls : Array Slot), sp = sX12_begins_20_f0_b19 fp_19 L → 0 ≤ (fp_19 0 48).toInt ∧ (fp_19 0 48).toInt ≤ 0 → sgI loM hiM fp_19 → sgK WkX12_begins_20_f0 f fp_19 → va_P D vwCl (sgw 26 h (eM ca h) fp_19 L Q) H → va_S (sgA 26 h s.heap.size) s.heap H locs → lv_has ls 2 [(0, .ref (h 0))] → W p l e ({ frames := 0, cells := 0, slots := 0, locals := 0 }) s m ([.ref (h 0), .int 20] : List Value).toArray below meth cd H locs 0 0 Qz (F0 m 19 ls []) := by
    intro fp_19 H locs ls hs hy0_19 hI hF hP hS hl
    obtain ⟨v_2, ev_2⟩ : ∃ z : Int32, z = fp_19 0 48 := ⟨_, rfl⟩
    have q_3 : 0 ≤ v_2.toInt ∧ v_2.toInt ≤ 19 := by rw [ev_2]; exact hI 0 48
    have q_4 : (fp_19 0 48).toInt = v_2.toInt := by rw [ev_2]
    refine lv_aload_n hx hb dX12_begins_19 rfl (lv_at hl 0 rfl) ?_
    refine lv_dup hx hb dX12_begins_20 rfl ?_
    refine sl_gM_0_48_12 (v := v_2) hx hb hts hown hK hP (show fp_19 0 48 = v_2 from ev_2.symm) dX12_begins_21 ?_
    refine lv_iconst (v := 1) hx hb dX12_begins_24 ic_1 ?_
    refine lv_iadd hx hb dX12_begins_25 ?_
    refine lv_topi (fun v_5 ev_5 => ?_)
    have q_6 : v_5.toInt = v_2.toInt + 1 := by rw [ev_5]; first | exact cm_add ti_1 (by omega) (by omega) | (have k1 : (1 : Int32).toInt = 1 := ti_1; exact (bn_addI (by omega) (by omega)).trans (by omega))
    refine sl_pM_0_48_12 (x := v_5) hx hb hts hown hh hA hK hP hS dX12_begins_26 (fun f_7 H locs ef_7 hP hS => ?_)
    have hI : sgI loM hiM f_7 := by rw [ef_7]; exact sgI.put hI 0 48 (show 0 ≤ (v_5 : Int32).toInt ∧ (v_5 : Int32).toInt ≤ 19 from ⟨by omega, by omega⟩)
    have hF : sgK WkX12_begins_20_f0 f f_7 := sgK.put hF ef_7 (by rfl)
    have q_8 : (f_7 0 48).toInt = v_5.toInt := (congrArg Int32.toInt (show f_7 0 48 = v_5 from (by rw [ef_7, sg_up_s, sgu_s])))
    exact hret _ _ _ _ f_7 L Q dX12_begins_29 hP hS ⟨⟨hI, hF, rfl, rfl⟩, ⟨by omega, by omega⟩, (Eq.trans (Eq.symm (hs.trans ((spl_e ev_2 (spl_e ev_5 (spl_e ef_7 rfl)))))) hsp)⟩
  refine lv_aload_n hx hb dX12_begins_0 rfl (lv_at hl 0 rfl) ?_
  refine sl_gM_0_48_12 (v := 0) hx hb hts hown hK hP (show f 0 48 = 0 from hf_0_48) dX12_begins_1 ?_
  refine lv_bipush (v := 24) hx hb dX12_begins_4 bp_24 ?_
  refine lv_icmp_ge (tgt := 19) hx hb dX12_begins_6 (by decide) (fun c => absurd c (by decide)) (fun c => ?_)
  refine lv_aload_n hx hb dX12_begins_9 rfl (lv_at hl 0 rfl) ?_
  refine sl_gM_0_47_12 hx hb hts hown hK hP dX12_begins_10 ?_
  refine lv_aload_n hx hb dX12_begins_13 rfl (lv_at hl 0 rfl) ?_
  refine sl_gM_0_48_12 (v := 0) hx hb hts hown hK hP (show f 0 48 = 0 from hf_0_48) dX12_begins_14 ?_
  refine lv_iload_n hx hb dX12_begins_17 rfl (lv_at hl 1 rfl) ?_
  refine sg_iast hx hb hh hA hK hP hS 21 (by decide) 0 (fun _ => rfl) rfl (i := 0) (x := 20) (vp_in_iff.mpr (by decide)) dX12_begins_18 (fun f_10 H locs ef_10 hP hS => ?_)
  have ef_10 : f_10 = sg_up f 21 (sgu (f 21) 0 20) := ef_10
  have hI : sgI loM hiM f_10 := by rw [ef_10]; exact sgI.put hI 21 0 (show 0 ≤ (20 : Int32).toInt ∧ (20 : Int32).toInt ≤ 81 from by decide)
  have hF : sgK WkX12_begins_20_f0 f f_10 := sgK.put hF ef_10 (by rfl)
  exact blk_19 f_10 _ _ _ (hs.trans ((spl_e ef_10 rfl))) (by have zz0_48 : (f_10 0 48).toInt = 0 := (congrArg Int32.toInt (show f_10 0 48 = 0 from (by rw [ef_10, sg_up_n (by decide)]; exact hf_0_48))).trans (by decide); exact ⟨by omega, by omega⟩) hI hF hP hS (lv_sub hl [0] rfl)

abbrev WkX12_begins_1_f1 : List (Nat × Nat × Option Nat) := [(0, 0, some 48), (21, 21, some 1)]
set_option maxHeartbeats 4000000 in
set_option maxRecDepth 100000 in
theorem kX12_begins_1_f1 (l : Launch) (D : va_G) (ca : Nat → ClassId) (za h : Nat → Nat) (hh : sgH 26 h) (f : sg_F) (L : sg_L) (Q : sg_Q) (hI : sgI loM hiM f) (hf_0_48 : f 0 48 = 1) (p0 : 1 ≤ (f 0 48).toInt ∧ (f 0 48).toInt ≤ 1) (sz : Nat) : Met l yX12_begins gwX12_begins { frames := 0, cells := 0, slots := 0, locals := 0 } (sgP D vwCl (tyX ca) 26 h (eM ca h) zcM za f L Q sz [.ref (h 0), .int 1]) (sgQv D vwCl 26 h (eM ca h) sz (fun f1 L1 Q1 => ((sgI loM hiM f1 ∧ sgK WkX12_begins_1_f1 f f1 ∧ L1 = L ∧ Q1 = Q) ∧ (2 ≤ (f1 0 48).toInt ∧ (f1 0 48).toInt ≤ 2) ∧ (f1) = sX12_begins_1_f1 f L))) 0 0 (sgA 26 h sz) := by
  refine sg_ofWv (cc := cX12_begins) (maxL := 2) RX12 (by decide) rfl rfl (Nat.le_of_ble_eq_true rfl) ?_
  intro p e s m below meth cd Qz ls hx hb hml hown hts hK hZ hP hS hl hret
  have hA := sgY.self (n := 26) (h := h) (sz := s.heap.size)
  have hl : lv_has ls 2 [(0, .ref (h 0)), (1, .int 1)] := hl
  obtain ⟨H, hH⟩ : ∃ z : Heap, z = s.heap := ⟨_, rfl⟩
  obtain ⟨locs, hlo⟩ : ∃ z : List Loc, z = [] := ⟨_, rfl⟩
  have hP : va_P D vwCl (sgw 26 h (eM ca h) f L Q) H := by rw [hH]; exact hP
  have hS : va_S (sgA 26 h s.heap.size) s.heap H locs := by rw [hH, hlo]; exact hS
  suffices hgo : W p l e ({ frames := 0, cells := 0, slots := 0, locals := 0 }) s m ([.ref (h 0), .int 1] : List Value).toArray below meth cd H locs 0 0 Qz (F0 m 0 ls []) by rw [hH, hlo] at hgo; exact hgo
  clear hH hlo
  obtain ⟨sp, hsp⟩ : ∃ z : sg_F, z = sX12_begins_1_f1 f L := ⟨_, rfl⟩
  have hs : sp = sX12_begins_1_f1 f L := hsp
  have o_1 : (f 0 48).toInt = 1 := (congrArg Int32.toInt (show f 0 48 = 1 from hf_0_48)).trans (by decide)
  have hF : sgK WkX12_begins_1_f1 f f := sgK.rf
  have blk_19 : ∀ (fp_19 : sg_F) (H : Heap) (locs : List Loc) (ls : Array Slot), sp = sX12_begins_1_f1_b19 fp_19 L → 1 ≤ (fp_19 0 48).toInt ∧ (fp_19 0 48).toInt ≤ 1 → sgI loM hiM fp_19 → sgK WkX12_begins_1_f1 f fp_19 → va_P D vwCl (sgw 26 h (eM ca h) fp_19 L Q) H → va_S (sgA 26 h s.heap.size) s.heap H locs → lv_has ls 2 [(0, .ref (h 0))] → W p l e ({ frames := 0, cells := 0, slots := 0, locals := 0 }) s m ([.ref (h 0), .int 1] : List Value).toArray below meth cd H locs 0 0 Qz (F0 m 19 ls []) := by
    intro fp_19 H locs ls hs hy0_19 hI hF hP hS hl
    obtain ⟨v_2, ev_2⟩ : ∃ z : Int32, z = fp_19 0 48 := ⟨_, rfl⟩
    have q_3 : 0 ≤ v_2.toInt ∧ v_2.toInt ≤ 19 := by rw [ev_2]; exact hI 0 48
    have q_4 : (fp_19 0 48).toInt = v_2.toInt := by rw [ev_2]
    refine lv_aload_n hx hb dX12_begins_19 rfl (lv_at hl 0 rfl) ?_
    refine lv_dup hx hb dX12_begins_20 rfl ?_
    refine sl_gM_0_48_12 (v := v_2) hx hb hts hown hK hP (show fp_19 0 48 = v_2 from ev_2.symm) dX12_begins_21 ?_
    refine lv_iconst (v := 1) hx hb dX12_begins_24 ic_1 ?_
    refine lv_iadd hx hb dX12_begins_25 ?_
    refine lv_topi (fun v_5 ev_5 => ?_)
    have q_6 : v_5.toInt = v_2.toInt + 1 := by rw [ev_5]; first | exact cm_add ti_1 (by omega) (by omega) | (have k1 : (1 : Int32).toInt = 1 := ti_1; exact (bn_addI (by omega) (by omega)).trans (by omega))
    refine sl_pM_0_48_12 (x := v_5) hx hb hts hown hh hA hK hP hS dX12_begins_26 (fun f_7 H locs ef_7 hP hS => ?_)
    have hI : sgI loM hiM f_7 := by rw [ef_7]; exact sgI.put hI 0 48 (show 0 ≤ (v_5 : Int32).toInt ∧ (v_5 : Int32).toInt ≤ 19 from ⟨by omega, by omega⟩)
    have hF : sgK WkX12_begins_1_f1 f f_7 := sgK.put hF ef_7 (by rfl)
    have q_8 : (f_7 0 48).toInt = v_5.toInt := (congrArg Int32.toInt (show f_7 0 48 = v_5 from (by rw [ef_7, sg_up_s, sgu_s])))
    exact hret _ _ _ _ f_7 L Q dX12_begins_29 hP hS ⟨⟨hI, hF, rfl, rfl⟩, ⟨by omega, by omega⟩, (Eq.trans (Eq.symm (hs.trans ((spl_e ev_2 (spl_e ev_5 (spl_e ef_7 rfl)))))) hsp)⟩
  refine lv_aload_n hx hb dX12_begins_0 rfl (lv_at hl 0 rfl) ?_
  refine sl_gM_0_48_12 (v := 1) hx hb hts hown hK hP (show f 0 48 = 1 from hf_0_48) dX12_begins_1 ?_
  refine lv_bipush (v := 24) hx hb dX12_begins_4 bp_24 ?_
  refine lv_icmp_ge (tgt := 19) hx hb dX12_begins_6 (by decide) (fun c => absurd c (by decide)) (fun c => ?_)
  refine lv_aload_n hx hb dX12_begins_9 rfl (lv_at hl 0 rfl) ?_
  refine sl_gM_0_47_12 hx hb hts hown hK hP dX12_begins_10 ?_
  refine lv_aload_n hx hb dX12_begins_13 rfl (lv_at hl 0 rfl) ?_
  refine sl_gM_0_48_12 (v := 1) hx hb hts hown hK hP (show f 0 48 = 1 from hf_0_48) dX12_begins_14 ?_
  refine lv_iload_n hx hb dX12_begins_17 rfl (lv_at hl 1 rfl) ?_
  refine sg_iast hx hb hh hA hK hP hS 21 (by decide) 0 (fun _ => rfl) rfl (i := 1) (x := 1) (vp_in_iff.mpr (by decide)) dX12_begins_18 (fun f_10 H locs ef_10 hP hS => ?_)
  have ef_10 : f_10 = sg_up f 21 (sgu (f 21) 1 1) := ef_10
  have hI : sgI loM hiM f_10 := by rw [ef_10]; exact sgI.put hI 21 1 (show 0 ≤ (1 : Int32).toInt ∧ (1 : Int32).toInt ≤ 81 from by decide)
  have hF : sgK WkX12_begins_1_f1 f f_10 := sgK.put hF ef_10 (by rfl)
  exact blk_19 f_10 _ _ _ (hs.trans ((spl_e ef_10 rfl))) (by have zz0_48 : (f_10 0 48).toInt = 1 := (congrArg Int32.toInt (show f_10 0 48 = 1 from (by rw [ef_10, sg_up_n (by decide)]; exact hf_0_48))).trans (by decide); exact ⟨by omega, by omega⟩) hI hF hP hS (lv_sub hl [0] rfl)

abbrev WkX12_setsAs_0_f1_f1 : List (Nat × Nat × Option Nat) := [(0, 0, some 48), (21, 21, some 1)]
set_option maxHeartbeats 4000000 in
set_option maxRecDepth 100000 in
theorem kX12_setsAs_0_f1_f1 (l : Launch) (D : va_G) (ca : Nat → ClassId) (za h : Nat → Nat) (hh : sgH 26 h) (f : sg_F) (L : sg_L) (Q : sg_Q) (hI : sgI loM hiM f) (x1 : Int32) (hf_0_48 : f 0 48 = 1) (hf_0_49 : f 0 49 = 1) (p0 : 1 ≤ (f 0 48).toInt ∧ (f 0 48).toInt ≤ 1) (sz : Nat) : Met l yX12_setsAs gwX12_setsAs { frames := 1, cells := 0, slots := 0, locals := 21 } (sgP D vwCl (tyX ca) 26 h (eM ca h) zcM za f L Q sz [.ref (h 0), .int 0, .int x1]) (sgQi D vwCl 26 h (eM ca h) sz (fun r f1 L1 Q1 => ((sgI loM hiM f1 ∧ sgK WkX12_setsAs_0_f1_f1 f f1 ∧ L1 = L ∧ Q1 = Q) ∧ True ∧ (2 ≤ (f1 0 48).toInt ∧ (f1 0 48).toInt ≤ 2) ∧ (r, f1) = sX12_setsAs_0_f1_f1 x1 f L))) 0 0 (sgA 26 h sz) := by
  refine sg_ofWi (cc := cX12_setsAs) (maxL := 3) RX12 (by decide) rfl rfl (Nat.le_of_ble_eq_true rfl) ?_
  intro p e s m below meth cd Qz ls hx hb hml hown hts hK hZ hP hS hl hret
  have hA := sgY.self (n := 26) (h := h) (sz := s.heap.size)
  have hl : lv_has ls 3 [(0, .ref (h 0)), (1, .int 0), (2, .int x1)] := hl
  obtain ⟨H, hH⟩ : ∃ z : Heap, z = s.heap := ⟨_, rfl⟩
  obtain ⟨locs, hlo⟩ : ∃ z : List Loc, z = [] := ⟨_, rfl⟩
  have hP : va_P D vwCl (sgw 26 h (eM ca h) f L Q) H := by rw [hH]; exact hP
  have hS : va_S (sgA 26 h s.heap.size) s.heap H locs := by rw [hH, hlo]; exact hS
  suffices hgo : W p l e ({ frames := 1, cells := 0, slots := 0, locals := 21 }) s m ([.ref (h 0), .int 0, .int x1] : List Value).toArray below meth cd H locs 0 0 Qz (F0 m 0 ls []) by rw [hH, hlo] at hgo; exact hgo
  clear hH hlo
  obtain ⟨sp, hsp⟩ : ∃ z : Int32 × sg_F, z = sX12_setsAs_0_f1_f1 x1 f L := ⟨_, rfl⟩
  have hs : sp = sX12_setsAs_0_f1_f1 x1 f L := hsp
  have o_1 : (f 0 48).toInt = 1 := (congrArg Int32.toInt (show f 0 48 = 1 from hf_0_48)).trans (by decide)
  have hF : sgK WkX12_setsAs_0_f1_f1 f f := sgK.rf
  refine lv_iload_n hx hb dX12_setsAs_0 rfl (lv_at hl 1 rfl) ?_
  refine lv_iconst (v := 1) hx hb dX12_setsAs_1 ic_1 ?_
  refine lv_icmp_eq (tgt := 16) hx hb dX12_setsAs_2 (by decide) (fun c => absurd c (by decide)) (fun c => ?_)
  refine lv_iload_n hx hb dX12_setsAs_5 rfl (lv_at hl 1 rfl) ?_
  refine lv_iconst (v := 4) hx hb dX12_setsAs_6 ic_4 ?_
  refine lv_icmp_eq (tgt := 16) hx hb dX12_setsAs_7 (by decide) (fun c => absurd c (by decide)) (fun c => ?_)
  refine lv_iload_n hx hb dX12_setsAs_10 rfl (lv_at hl 1 rfl) ?_
  refine lv_bipush (v := 7) hx hb dX12_setsAs_11 bp_7 ?_
  refine lv_icmp_ne (tgt := 31) hx hb dX12_setsAs_13 (by decide) (fun c => ?_) (fun c => absurd c (by decide))
  refine lv_iload_n hx hb dX12_setsAs_31 rfl (lv_at hl 1 rfl) ?_
  refine lv_bipush (v := 6) hx hb dX12_setsAs_32 bp_6 ?_
  refine lv_icmp_ne (tgt := 52) hx hb dX12_setsAs_34 (by decide) (fun c => ?_) (fun c => absurd c (by decide))
  refine lv_aload_n hx hb dX12_setsAs_52 rfl (lv_at hl 0 rfl) ?_
  refine lv_iconst (v := 1) hx hb dX12_setsAs_53 ic_1 ?_
  have q_2 : (f 0 48).toInt = 1 := (congrArg Int32.toInt (show f 0 48 = 1 from hf_0_48)).trans (by decide)
  refine sg_callv (va_runV (As := [.int 1]) (rest := []) ⟨hx, hb, hml, hown, hts⟩ (kX12_begins_1_f1 l D ca za h hh f L Q hI hf_0_48 (by have k0 : (1 : Int32).toInt = 1 := ti_1; omega) H.size) (sl_c12_begins_0_0_0_0_12 hts ⟨Nat.le_of_ble_eq_true rfl, Nat.le_of_ble_eq_true rfl⟩) (sl_vM_0 hA hK hP hS hZ) rfl rfl hl.1 rfl (lv_room (Nat.le_of_ble_eq_true rfl)) dX12_setsAs_54 ⟨Nat.le_refl _, Nat.le_refl _⟩) hA hS (fun f_4 L_5 Q_6 H locs hq hP hS => ?_)
  obtain ⟨⟨hI, hk_f_4, eL9, eQ9⟩, p_7, u_8⟩ := hq
  rw [eL9, eQ9] at hP; clear eL9 eQ9
  have hF : sgK WkX12_setsAs_0_f1_f1 f f_4 := sgK.tr hF hk_f_4 (by decide +kernel)
  obtain ⟨v_9, ev_9⟩ : ∃ z : Int32, z = f_4 0 48 := ⟨_, rfl⟩
  have q_10 : 0 ≤ v_9.toInt ∧ v_9.toInt ≤ 19 := by rw [ev_9]; exact hI 0 48
  have q_11 : (f_4 0 48).toInt = v_9.toInt := (congrArg Int32.toInt (show f_4 0 48 = v_9 from ev_9.symm))
  refine lv_iload_n hx hb dX12_setsAs_57 rfl (lv_at hl 2 rfl) ?_
  refine lv_aload_n hx hb dX12_setsAs_58 rfl (lv_at hl 0 rfl) ?_
  refine sl_gM_0_50_12 (v := (f_4 0 50)) hx hb hts hown hK hP rfl dX12_setsAs_59 ?_
  refine lv_topi (fun v_13 ev_13 => ?_)
  have q_14 : 0 ≤ v_13.toInt ∧ v_13.toInt ≤ 49 := by rw [ev_13]; exact hI 0 50
  refine lv_iadd hx hb dX12_setsAs_62 ?_
  refine lv_topi (fun v_15 ev_15 => ?_)
  exact hret _ _ _ _ (v_15) f_4 L Q dX12_setsAs_63 hP hS ⟨⟨hI, hF, rfl, rfl⟩, trivial, ⟨by omega, by omega⟩, (Eq.trans (Eq.symm (hs.trans ((spl_e u_8 (spl_e ev_9 (spl_e ev_13 (spl_e ev_15 rfl))))))) hsp)⟩

abbrev WkX12_setsAs_1_f0_f1 : List (Nat × Nat × Option Nat) := [(0, 0, some 48), (21, 21, some 0), (21, 21, some 1)]
set_option maxHeartbeats 4000000 in
set_option maxRecDepth 100000 in
theorem kX12_setsAs_1_f0_f1 (l : Launch) (D : va_G) (ca : Nat → ClassId) (za h : Nat → Nat) (hh : sgH 26 h) (f : sg_F) (L : sg_L) (Q : sg_Q) (hI : sgI loM hiM f) (x1 : Int32) (hf_0_48 : f 0 48 = 0) (hf_0_49 : f 0 49 = 1) (p0 : 0 ≤ (f 0 48).toInt ∧ (f 0 48).toInt ≤ 0) (sz : Nat) : Met l yX12_setsAs gwX12_setsAs { frames := 2, cells := 0, slots := 0, locals := 43 } (sgP D vwCl (tyX ca) 26 h (eM ca h) zcM za f L Q sz [.ref (h 0), .int 1, .int x1]) (sgQi D vwCl 26 h (eM ca h) sz (fun r f1 L1 Q1 => ((sgI loM hiM f1 ∧ sgK WkX12_setsAs_1_f0_f1 f f1 ∧ L1 = L ∧ Q1 = Q) ∧ True ∧ (2 ≤ (f1 0 48).toInt ∧ (f1 0 48).toInt ≤ 2) ∧ (r, f1) = sX12_setsAs_1_f0_f1 x1 f L))) 0 0 (sgA 26 h sz) := by
  refine sg_ofWi (cc := cX12_setsAs) (maxL := 3) RX12 (by decide) rfl rfl (Nat.le_of_ble_eq_true rfl) ?_
  intro p e s m below meth cd Qz ls hx hb hml hown hts hK hZ hP hS hl hret
  have hA := sgY.self (n := 26) (h := h) (sz := s.heap.size)
  have hl : lv_has ls 3 [(0, .ref (h 0)), (1, .int 1), (2, .int x1)] := hl
  obtain ⟨H, hH⟩ : ∃ z : Heap, z = s.heap := ⟨_, rfl⟩
  obtain ⟨locs, hlo⟩ : ∃ z : List Loc, z = [] := ⟨_, rfl⟩
  have hP : va_P D vwCl (sgw 26 h (eM ca h) f L Q) H := by rw [hH]; exact hP
  have hS : va_S (sgA 26 h s.heap.size) s.heap H locs := by rw [hH, hlo]; exact hS
  suffices hgo : W p l e ({ frames := 2, cells := 0, slots := 0, locals := 43 }) s m ([.ref (h 0), .int 1, .int x1] : List Value).toArray below meth cd H locs 0 0 Qz (F0 m 0 ls []) by rw [hH, hlo] at hgo; exact hgo
  clear hH hlo
  obtain ⟨sp, hsp⟩ : ∃ z : Int32 × sg_F, z = sX12_setsAs_1_f0_f1 x1 f L := ⟨_, rfl⟩
  have hs : sp = sX12_setsAs_1_f0_f1 x1 f L := hsp
  have o_1 : (f 0 48).toInt = 0 := (congrArg Int32.toInt (show f 0 48 = 0 from hf_0_48)).trans (by decide)
  have hF : sgK WkX12_setsAs_1_f0_f1 f f := sgK.rf
  have blk_16 : ∀ (fp_16 : sg_F) (H : Heap) (locs : List Loc) (ls : Array Slot), sp = sX12_setsAs_1_f0_f1_b16 x1 fp_16 L → 0 ≤ (fp_16 0 48).toInt ∧ (fp_16 0 48).toInt ≤ 0 → 1 ≤ (fp_16 0 49).toInt ∧ (fp_16 0 49).toInt ≤ 1 → sgI loM hiM fp_16 → sgK WkX12_setsAs_1_f0_f1 f fp_16 → va_P D vwCl (sgw 26 h (eM ca h) fp_16 L Q) H → va_S (sgA 26 h s.heap.size) s.heap H locs → lv_has ls 3 [(0, .ref (h 0)), (2, .int x1)] → W p l e ({ frames := 2, cells := 0, slots := 0, locals := 43 }) s m ([.ref (h 0), .int 1, .int x1] : List Value).toArray below meth cd H locs 0 0 Qz (F0 m 16 ls []) := by
    intro fp_16 H locs ls hs hy0_16 hy1_16 hI hF hP hS hl
    obtain ⟨v_2, ev_2⟩ : ∃ z : Int32, z = fp_16 0 48 := ⟨_, rfl⟩
    have q_3 : 0 ≤ v_2.toInt ∧ v_2.toInt ≤ 19 := by rw [ev_2]; exact hI 0 48
    have q_4 : (fp_16 0 48).toInt = v_2.toInt := by rw [ev_2]
    obtain ⟨v_5, ev_5⟩ : ∃ z : Int32, z = fp_16 0 49 := ⟨_, rfl⟩
    have q_6 : 0 ≤ v_5.toInt ∧ v_5.toInt ≤ 7 := by rw [ev_5]; exact hI 0 49
    have q_7 : (fp_16 0 49).toInt = v_5.toInt := by rw [ev_5]
    have m_8 : fp_16 0 49 = 1 := (hF 0 49 (by decide)).trans hf_0_49
    refine lv_aload_n hx hb dX12_setsAs_16 rfl (lv_at hl 0 rfl) ?_
    refine lv_bipush (v := 20) hx hb dX12_setsAs_17 bp_20 ?_
    have c_9 : v_2 = 0 := Int32.toInt_inj.mp (by have k9 : (0 : Int32).toInt = 0 := ti_0; omega)
    have q_10 : (fp_16 0 48).toInt = 0 := (congrArg Int32.toInt (show fp_16 0 48 = 0 from (Eq.trans ev_2.symm c_9))).trans (by decide)
    refine sg_callv (va_runV (As := [.int 20]) (rest := []) ⟨hx, hb, hml, hown, hts⟩ (kX12_begins_20_f0 l D ca za h hh fp_16 L Q hI (Eq.trans ev_2.symm c_9) (by have k0 : (20 : Int32).toInt = 20 := ti_20; omega) H.size) (sl_c12_begins_0_0_0_0_12 hts ⟨Nat.le_of_ble_eq_true rfl, Nat.le_of_ble_eq_true rfl⟩) (sl_vM_0 hA hK hP hS hZ) rfl rfl hl.1 rfl (lv_room (Nat.le_of_ble_eq_true rfl)) dX12_setsAs_19 ⟨Nat.le_refl _, Nat.le_refl _⟩) hA hS (fun f_12 L_13 Q_14 H locs hq hP hS => ?_)
    obtain ⟨⟨hI, hk_f_12, eL9, eQ9⟩, p_15, u_16⟩ := hq
    rw [eL9, eQ9] at hP; clear eL9 eQ9
    have hF : sgK WkX12_setsAs_1_f0_f1 f f_12 := sgK.tr hF hk_f_12 (by decide +kernel)
    obtain ⟨v_17, ev_17⟩ : ∃ z : Int32, z = f_12 0 48 := ⟨_, rfl⟩
    have q_18 : 0 ≤ v_17.toInt ∧ v_17.toInt ≤ 19 := by rw [ev_17]; exact hI 0 48
    have q_19 : (f_12 0 48).toInt = v_17.toInt := (congrArg Int32.toInt (show f_12 0 48 = v_17 from ev_17.symm))
    refine lv_aload_n hx hb dX12_setsAs_22 rfl (lv_at hl 0 rfl) ?_
    refine lv_iconst (v := 0) hx hb dX12_setsAs_23 ic_0 ?_
    refine lv_iload_n hx hb dX12_setsAs_24 rfl (lv_at hl 1 rfl) ?_
    have c_21 : v_17 = 1 := Int32.toInt_inj.mp (by have k9 : (1 : Int32).toInt = 1 := ti_1; omega)
    have q_22 : (f_12 0 48).toInt = 1 := (congrArg Int32.toInt (show f_12 0 48 = 1 from (Eq.trans ev_17.symm c_21))).trans (by decide)
    refine sg_calli (va_runV (As := [.int 0, .int x1]) (rest := []) ⟨hx, hb, hml, hown, hts⟩ (kX12_setsAs_0_f1_f1 l D ca za h hh f_12 L Q hI x1 (Eq.trans ev_17.symm c_21) ((hk_f_12 0 49 (by decide)).trans m_8) (by have k0 : (0 : Int32).toInt = 0 := ti_0; omega) H.size) (sl_c12_setsAs_1_0_0_21_12 hts ⟨Nat.le_of_ble_eq_true rfl, Nat.le_of_ble_eq_true rfl⟩) (sl_vM_0 hA hK hP hS hZ) rfl rfl hl.1 rfl (lv_room (Nat.le_of_ble_eq_true rfl)) dX12_setsAs_25 ⟨Nat.le_refl _, Nat.le_refl _⟩) hA hS (fun r_27 f_24 L_25 Q_26 H locs hq hP hS => ?_)
    obtain ⟨⟨hI, hk_f_24, eL9, eQ9⟩, hq, p_28, u_29⟩ := hq
    rw [eL9, eQ9] at hP; clear eL9 eQ9
    have hF : sgK WkX12_setsAs_1_f0_f1 f f_24 := sgK.tr hF hk_f_24 (by decide +kernel)
    obtain ⟨v_30, ev_30⟩ : ∃ z : Int32, z = f_24 0 48 := ⟨_, rfl⟩
    have q_31 : 0 ≤ v_30.toInt ∧ v_30.toInt ≤ 19 := by rw [ev_30]; exact hI 0 48
    have q_32 : (f_24 0 48).toInt = v_30.toInt := (congrArg Int32.toInt (show f_24 0 48 = v_30 from ev_30.symm))
    have k_34 : (0 : Int32).toInt = 0 := by decide
    refine lv_iconst (v := 3) hx hb dX12_setsAs_28 ic_3 ?_
    refine lv_iadd hx hb dX12_setsAs_29 ?_
    refine lv_topi (fun v_35 ev_35 => ?_)
    exact hret _ _ _ _ (v_35) f_24 L Q dX12_setsAs_30 hP hS ⟨⟨hI, hF, rfl, rfl⟩, trivial, ⟨by omega, by omega⟩, (Eq.trans (Eq.symm (hs.trans ((spl_e ev_2 (spl_e ev_5 (spl_e u_16 (spl_e ev_17 (spl2_e u_29 (spl_e ev_30 (spl_e ev_35 rfl)))))))))) hsp)⟩
  refine lv_iload_n hx hb dX12_setsAs_0 rfl (lv_at hl 1 rfl) ?_
  refine lv_iconst (v := 1) hx hb dX12_setsAs_1 ic_1 ?_
  refine lv_icmp_eq (tgt := 16) hx hb dX12_setsAs_2 (by decide) (fun c => ?_) (fun c => absurd c (by decide))
  exact blk_16 f _ _ _ hs (by have zz0_48 : (f 0 48).toInt = 0 := (congrArg Int32.toInt (show f 0 48 = 0 from hf_0_48)).trans (by decide); exact ⟨by omega, by omega⟩) (by have zz0_49 : (f 0 49).toInt = 1 := (congrArg Int32.toInt (show f 0 49 = 1 from hf_0_49)).trans (by decide); exact ⟨by omega, by omega⟩) hI hF hP hS (lv_sub hl [0, 2] rfl)

abbrev WkX12_setsAs_2_f0_f2 : List (Nat × Nat × Option Nat) := [(0, 0, some 48), (21, 21, some 0)]
set_option maxHeartbeats 4000000 in
set_option maxRecDepth 100000 in
theorem kX12_setsAs_2_f0_f2 (l : Launch) (D : va_G) (ca : Nat → ClassId) (za h : Nat → Nat) (hh : sgH 26 h) (f : sg_F) (L : sg_L) (Q : sg_Q) (hI : sgI loM hiM f) (x1 : Int32) (hf_0_48 : f 0 48 = 0) (hf_0_49 : f 0 49 = 2) (p0 : 0 ≤ (f 0 48).toInt ∧ (f 0 48).toInt ≤ 0) (sz : Nat) : Met l yX12_setsAs gwX12_setsAs { frames := 1, cells := 0, slots := 0, locals := 21 } (sgP D vwCl (tyX ca) 26 h (eM ca h) zcM za f L Q sz [.ref (h 0), .int 2, .int x1]) (sgQi D vwCl 26 h (eM ca h) sz (fun r f1 L1 Q1 => ((sgI loM hiM f1 ∧ sgK WkX12_setsAs_2_f0_f2 f f1 ∧ L1 = L ∧ Q1 = Q) ∧ True ∧ (1 ≤ (f1 0 48).toInt ∧ (f1 0 48).toInt ≤ 1) ∧ (r, f1) = sX12_setsAs_2_f0_f2 x1 f L))) 0 0 (sgA 26 h sz) := by
  refine sg_ofWi (cc := cX12_setsAs) (maxL := 3) RX12 (by decide) rfl rfl (Nat.le_of_ble_eq_true rfl) ?_
  intro p e s m below meth cd Qz ls hx hb hml hown hts hK hZ hP hS hl hret
  have hA := sgY.self (n := 26) (h := h) (sz := s.heap.size)
  have hl : lv_has ls 3 [(0, .ref (h 0)), (1, .int 2), (2, .int x1)] := hl
  obtain ⟨H, hH⟩ : ∃ z : Heap, z = s.heap := ⟨_, rfl⟩
  obtain ⟨locs, hlo⟩ : ∃ z : List Loc, z = [] := ⟨_, rfl⟩
  have hP : va_P D vwCl (sgw 26 h (eM ca h) f L Q) H := by rw [hH]; exact hP
  have hS : va_S (sgA 26 h s.heap.size) s.heap H locs := by rw [hH, hlo]; exact hS
  suffices hgo : W p l e ({ frames := 1, cells := 0, slots := 0, locals := 21 }) s m ([.ref (h 0), .int 2, .int x1] : List Value).toArray below meth cd H locs 0 0 Qz (F0 m 0 ls []) by rw [hH, hlo] at hgo; exact hgo
  clear hH hlo
  obtain ⟨sp, hsp⟩ : ∃ z : Int32 × sg_F, z = sX12_setsAs_2_f0_f2 x1 f L := ⟨_, rfl⟩
  have hs : sp = sX12_setsAs_2_f0_f2 x1 f L := hsp
  have o_1 : (f 0 48).toInt = 0 := (congrArg Int32.toInt (show f 0 48 = 0 from hf_0_48)).trans (by decide)
  have hF : sgK WkX12_setsAs_2_f0_f2 f f := sgK.rf
  refine lv_iload_n hx hb dX12_setsAs_0 rfl (lv_at hl 1 rfl) ?_
  refine lv_iconst (v := 1) hx hb dX12_setsAs_1 ic_1 ?_
  refine lv_icmp_eq (tgt := 16) hx hb dX12_setsAs_2 (by decide) (fun c => absurd c (by decide)) (fun c => ?_)
  refine lv_iload_n hx hb dX12_setsAs_5 rfl (lv_at hl 1 rfl) ?_
  refine lv_iconst (v := 4) hx hb dX12_setsAs_6 ic_4 ?_
  refine lv_icmp_eq (tgt := 16) hx hb dX12_setsAs_7 (by decide) (fun c => absurd c (by decide)) (fun c => ?_)
  refine lv_iload_n hx hb dX12_setsAs_10 rfl (lv_at hl 1 rfl) ?_
  refine lv_bipush (v := 7) hx hb dX12_setsAs_11 bp_7 ?_
  refine lv_icmp_ne (tgt := 31) hx hb dX12_setsAs_13 (by decide) (fun c => ?_) (fun c => absurd c (by decide))
  refine lv_iload_n hx hb dX12_setsAs_31 rfl (lv_at hl 1 rfl) ?_
  refine lv_bipush (v := 6) hx hb dX12_setsAs_32 bp_6 ?_
  refine lv_icmp_ne (tgt := 52) hx hb dX12_setsAs_34 (by decide) (fun c => ?_) (fun c => absurd c (by decide))
  refine lv_aload_n hx hb dX12_setsAs_52 rfl (lv_at hl 0 rfl) ?_
  refine lv_iconst (v := 1) hx hb dX12_setsAs_53 ic_1 ?_
  have q_2 : (f 0 48).toInt = 0 := (congrArg Int32.toInt (show f 0 48 = 0 from hf_0_48)).trans (by decide)
  refine sg_callv (va_runV (As := [.int 1]) (rest := []) ⟨hx, hb, hml, hown, hts⟩ (kX12_begins_1_f0 l D ca za h hh f L Q hI hf_0_48 (by have k0 : (1 : Int32).toInt = 1 := ti_1; omega) H.size) (sl_c12_begins_0_0_0_0_12 hts ⟨Nat.le_of_ble_eq_true rfl, Nat.le_of_ble_eq_true rfl⟩) (sl_vM_0 hA hK hP hS hZ) rfl rfl hl.1 rfl (lv_room (Nat.le_of_ble_eq_true rfl)) dX12_setsAs_54 ⟨Nat.le_refl _, Nat.le_refl _⟩) hA hS (fun f_4 L_5 Q_6 H locs hq hP hS => ?_)
  obtain ⟨⟨hI, hk_f_4, eL9, eQ9⟩, p_7, u_8⟩ := hq
  rw [eL9, eQ9] at hP; clear eL9 eQ9
  have hF : sgK WkX12_setsAs_2_f0_f2 f f_4 := sgK.tr hF hk_f_4 (by decide +kernel)
  obtain ⟨v_9, ev_9⟩ : ∃ z : Int32, z = f_4 0 48 := ⟨_, rfl⟩
  have q_10 : 0 ≤ v_9.toInt ∧ v_9.toInt ≤ 19 := by rw [ev_9]; exact hI 0 48
  have q_11 : (f_4 0 48).toInt = v_9.toInt := (congrArg Int32.toInt (show f_4 0 48 = v_9 from ev_9.symm))
  refine lv_iload_n hx hb dX12_setsAs_57 rfl (lv_at hl 2 rfl) ?_
  refine lv_aload_n hx hb dX12_setsAs_58 rfl (lv_at hl 0 rfl) ?_
  refine sl_gM_0_50_12 (v := (f_4 0 50)) hx hb hts hown hK hP rfl dX12_setsAs_59 ?_
  refine lv_topi (fun v_13 ev_13 => ?_)
  have q_14 : 0 ≤ v_13.toInt ∧ v_13.toInt ≤ 49 := by rw [ev_13]; exact hI 0 50
  refine lv_iadd hx hb dX12_setsAs_62 ?_
  refine lv_topi (fun v_15 ev_15 => ?_)
  exact hret _ _ _ _ (v_15) f_4 L Q dX12_setsAs_63 hP hS ⟨⟨hI, hF, rfl, rfl⟩, trivial, ⟨by omega, by omega⟩, (Eq.trans (Eq.symm (hs.trans ((spl_e u_8 (spl_e ev_9 (spl_e ev_13 (spl_e ev_15 rfl))))))) hsp)⟩

abbrev WkX12_setsAs_3_f0_f3 : List (Nat × Nat × Option Nat) := [(0, 0, some 48), (21, 21, some 0)]
set_option maxHeartbeats 4000000 in
set_option maxRecDepth 100000 in
theorem kX12_setsAs_3_f0_f3 (l : Launch) (D : va_G) (ca : Nat → ClassId) (za h : Nat → Nat) (hh : sgH 26 h) (f : sg_F) (L : sg_L) (Q : sg_Q) (hI : sgI loM hiM f) (x1 : Int32) (hf_0_48 : f 0 48 = 0) (hf_0_49 : f 0 49 = 3) (p0 : 0 ≤ (f 0 48).toInt ∧ (f 0 48).toInt ≤ 0) (sz : Nat) : Met l yX12_setsAs gwX12_setsAs { frames := 1, cells := 0, slots := 0, locals := 21 } (sgP D vwCl (tyX ca) 26 h (eM ca h) zcM za f L Q sz [.ref (h 0), .int 3, .int x1]) (sgQi D vwCl 26 h (eM ca h) sz (fun r f1 L1 Q1 => ((sgI loM hiM f1 ∧ sgK WkX12_setsAs_3_f0_f3 f f1 ∧ L1 = L ∧ Q1 = Q) ∧ True ∧ (1 ≤ (f1 0 48).toInt ∧ (f1 0 48).toInt ≤ 1) ∧ (r, f1) = sX12_setsAs_3_f0_f3 x1 f L))) 0 0 (sgA 26 h sz) := by
  refine sg_ofWi (cc := cX12_setsAs) (maxL := 3) RX12 (by decide) rfl rfl (Nat.le_of_ble_eq_true rfl) ?_
  intro p e s m below meth cd Qz ls hx hb hml hown hts hK hZ hP hS hl hret
  have hA := sgY.self (n := 26) (h := h) (sz := s.heap.size)
  have hl : lv_has ls 3 [(0, .ref (h 0)), (1, .int 3), (2, .int x1)] := hl
  obtain ⟨H, hH⟩ : ∃ z : Heap, z = s.heap := ⟨_, rfl⟩
  obtain ⟨locs, hlo⟩ : ∃ z : List Loc, z = [] := ⟨_, rfl⟩
  have hP : va_P D vwCl (sgw 26 h (eM ca h) f L Q) H := by rw [hH]; exact hP
  have hS : va_S (sgA 26 h s.heap.size) s.heap H locs := by rw [hH, hlo]; exact hS
  suffices hgo : W p l e ({ frames := 1, cells := 0, slots := 0, locals := 21 }) s m ([.ref (h 0), .int 3, .int x1] : List Value).toArray below meth cd H locs 0 0 Qz (F0 m 0 ls []) by rw [hH, hlo] at hgo; exact hgo
  clear hH hlo
  obtain ⟨sp, hsp⟩ : ∃ z : Int32 × sg_F, z = sX12_setsAs_3_f0_f3 x1 f L := ⟨_, rfl⟩
  have hs : sp = sX12_setsAs_3_f0_f3 x1 f L := hsp
  have o_1 : (f 0 48).toInt = 0 := (congrArg Int32.toInt (show f 0 48 = 0 from hf_0_48)).trans (by decide)
  have hF : sgK WkX12_setsAs_3_f0_f3 f f := sgK.rf
  refine lv_iload_n hx hb dX12_setsAs_0 rfl (lv_at hl 1 rfl) ?_
  refine lv_iconst (v := 1) hx hb dX12_setsAs_1 ic_1 ?_
  refine lv_icmp_eq (tgt := 16) hx hb dX12_setsAs_2 (by decide) (fun c => absurd c (by decide)) (fun c => ?_)
  refine lv_iload_n hx hb dX12_setsAs_5 rfl (lv_at hl 1 rfl) ?_
  refine lv_iconst (v := 4) hx hb dX12_setsAs_6 ic_4 ?_
  refine lv_icmp_eq (tgt := 16) hx hb dX12_setsAs_7 (by decide) (fun c => absurd c (by decide)) (fun c => ?_)
  refine lv_iload_n hx hb dX12_setsAs_10 rfl (lv_at hl 1 rfl) ?_
  refine lv_bipush (v := 7) hx hb dX12_setsAs_11 bp_7 ?_
  refine lv_icmp_ne (tgt := 31) hx hb dX12_setsAs_13 (by decide) (fun c => ?_) (fun c => absurd c (by decide))
  refine lv_iload_n hx hb dX12_setsAs_31 rfl (lv_at hl 1 rfl) ?_
  refine lv_bipush (v := 6) hx hb dX12_setsAs_32 bp_6 ?_
  refine lv_icmp_ne (tgt := 52) hx hb dX12_setsAs_34 (by decide) (fun c => ?_) (fun c => absurd c (by decide))
  refine lv_aload_n hx hb dX12_setsAs_52 rfl (lv_at hl 0 rfl) ?_
  refine lv_iconst (v := 1) hx hb dX12_setsAs_53 ic_1 ?_
  have q_2 : (f 0 48).toInt = 0 := (congrArg Int32.toInt (show f 0 48 = 0 from hf_0_48)).trans (by decide)
  refine sg_callv (va_runV (As := [.int 1]) (rest := []) ⟨hx, hb, hml, hown, hts⟩ (kX12_begins_1_f0 l D ca za h hh f L Q hI hf_0_48 (by have k0 : (1 : Int32).toInt = 1 := ti_1; omega) H.size) (sl_c12_begins_0_0_0_0_12 hts ⟨Nat.le_of_ble_eq_true rfl, Nat.le_of_ble_eq_true rfl⟩) (sl_vM_0 hA hK hP hS hZ) rfl rfl hl.1 rfl (lv_room (Nat.le_of_ble_eq_true rfl)) dX12_setsAs_54 ⟨Nat.le_refl _, Nat.le_refl _⟩) hA hS (fun f_4 L_5 Q_6 H locs hq hP hS => ?_)
  obtain ⟨⟨hI, hk_f_4, eL9, eQ9⟩, p_7, u_8⟩ := hq
  rw [eL9, eQ9] at hP; clear eL9 eQ9
  have hF : sgK WkX12_setsAs_3_f0_f3 f f_4 := sgK.tr hF hk_f_4 (by decide +kernel)
  obtain ⟨v_9, ev_9⟩ : ∃ z : Int32, z = f_4 0 48 := ⟨_, rfl⟩
  have q_10 : 0 ≤ v_9.toInt ∧ v_9.toInt ≤ 19 := by rw [ev_9]; exact hI 0 48
  have q_11 : (f_4 0 48).toInt = v_9.toInt := (congrArg Int32.toInt (show f_4 0 48 = v_9 from ev_9.symm))
  refine lv_iload_n hx hb dX12_setsAs_57 rfl (lv_at hl 2 rfl) ?_
  refine lv_aload_n hx hb dX12_setsAs_58 rfl (lv_at hl 0 rfl) ?_
  refine sl_gM_0_50_12 (v := (f_4 0 50)) hx hb hts hown hK hP rfl dX12_setsAs_59 ?_
  refine lv_topi (fun v_13 ev_13 => ?_)
  have q_14 : 0 ≤ v_13.toInt ∧ v_13.toInt ≤ 49 := by rw [ev_13]; exact hI 0 50
  refine lv_iadd hx hb dX12_setsAs_62 ?_
  refine lv_topi (fun v_15 ev_15 => ?_)
  exact hret _ _ _ _ (v_15) f_4 L Q dX12_setsAs_63 hP hS ⟨⟨hI, hF, rfl, rfl⟩, trivial, ⟨by omega, by omega⟩, (Eq.trans (Eq.symm (hs.trans ((spl_e u_8 (spl_e ev_9 (spl_e ev_13 (spl_e ev_15 rfl))))))) hsp)⟩

abbrev WkX12_setsAs_0_f1_f4 : List (Nat × Nat × Option Nat) := [(0, 0, some 48), (21, 21, some 1)]
set_option maxHeartbeats 4000000 in
set_option maxRecDepth 100000 in
theorem kX12_setsAs_0_f1_f4 (l : Launch) (D : va_G) (ca : Nat → ClassId) (za h : Nat → Nat) (hh : sgH 26 h) (f : sg_F) (L : sg_L) (Q : sg_Q) (hI : sgI loM hiM f) (x1 : Int32) (hf_0_48 : f 0 48 = 1) (hf_0_49 : f 0 49 = 4) (p0 : 1 ≤ (f 0 48).toInt ∧ (f 0 48).toInt ≤ 1) (sz : Nat) : Met l yX12_setsAs gwX12_setsAs { frames := 1, cells := 0, slots := 0, locals := 21 } (sgP D vwCl (tyX ca) 26 h (eM ca h) zcM za f L Q sz [.ref (h 0), .int 0, .int x1]) (sgQi D vwCl 26 h (eM ca h) sz (fun r f1 L1 Q1 => ((sgI loM hiM f1 ∧ sgK WkX12_setsAs_0_f1_f4 f f1 ∧ L1 = L ∧ Q1 = Q) ∧ True ∧ (2 ≤ (f1 0 48).toInt ∧ (f1 0 48).toInt ≤ 2) ∧ (r, f1) = sX12_setsAs_0_f1_f4 x1 f L))) 0 0 (sgA 26 h sz) := by
  refine sg_ofWi (cc := cX12_setsAs) (maxL := 3) RX12 (by decide) rfl rfl (Nat.le_of_ble_eq_true rfl) ?_
  intro p e s m below meth cd Qz ls hx hb hml hown hts hK hZ hP hS hl hret
  have hA := sgY.self (n := 26) (h := h) (sz := s.heap.size)
  have hl : lv_has ls 3 [(0, .ref (h 0)), (1, .int 0), (2, .int x1)] := hl
  obtain ⟨H, hH⟩ : ∃ z : Heap, z = s.heap := ⟨_, rfl⟩
  obtain ⟨locs, hlo⟩ : ∃ z : List Loc, z = [] := ⟨_, rfl⟩
  have hP : va_P D vwCl (sgw 26 h (eM ca h) f L Q) H := by rw [hH]; exact hP
  have hS : va_S (sgA 26 h s.heap.size) s.heap H locs := by rw [hH, hlo]; exact hS
  suffices hgo : W p l e ({ frames := 1, cells := 0, slots := 0, locals := 21 }) s m ([.ref (h 0), .int 0, .int x1] : List Value).toArray below meth cd H locs 0 0 Qz (F0 m 0 ls []) by rw [hH, hlo] at hgo; exact hgo
  clear hH hlo
  obtain ⟨sp, hsp⟩ : ∃ z : Int32 × sg_F, z = sX12_setsAs_0_f1_f4 x1 f L := ⟨_, rfl⟩
  have hs : sp = sX12_setsAs_0_f1_f4 x1 f L := hsp
  have o_1 : (f 0 48).toInt = 1 := (congrArg Int32.toInt (show f 0 48 = 1 from hf_0_48)).trans (by decide)
  have hF : sgK WkX12_setsAs_0_f1_f4 f f := sgK.rf
  refine lv_iload_n hx hb dX12_setsAs_0 rfl (lv_at hl 1 rfl) ?_
  refine lv_iconst (v := 1) hx hb dX12_setsAs_1 ic_1 ?_
  refine lv_icmp_eq (tgt := 16) hx hb dX12_setsAs_2 (by decide) (fun c => absurd c (by decide)) (fun c => ?_)
  refine lv_iload_n hx hb dX12_setsAs_5 rfl (lv_at hl 1 rfl) ?_
  refine lv_iconst (v := 4) hx hb dX12_setsAs_6 ic_4 ?_
  refine lv_icmp_eq (tgt := 16) hx hb dX12_setsAs_7 (by decide) (fun c => absurd c (by decide)) (fun c => ?_)
  refine lv_iload_n hx hb dX12_setsAs_10 rfl (lv_at hl 1 rfl) ?_
  refine lv_bipush (v := 7) hx hb dX12_setsAs_11 bp_7 ?_
  refine lv_icmp_ne (tgt := 31) hx hb dX12_setsAs_13 (by decide) (fun c => ?_) (fun c => absurd c (by decide))
  refine lv_iload_n hx hb dX12_setsAs_31 rfl (lv_at hl 1 rfl) ?_
  refine lv_bipush (v := 6) hx hb dX12_setsAs_32 bp_6 ?_
  refine lv_icmp_ne (tgt := 52) hx hb dX12_setsAs_34 (by decide) (fun c => ?_) (fun c => absurd c (by decide))
  refine lv_aload_n hx hb dX12_setsAs_52 rfl (lv_at hl 0 rfl) ?_
  refine lv_iconst (v := 1) hx hb dX12_setsAs_53 ic_1 ?_
  have q_2 : (f 0 48).toInt = 1 := (congrArg Int32.toInt (show f 0 48 = 1 from hf_0_48)).trans (by decide)
  refine sg_callv (va_runV (As := [.int 1]) (rest := []) ⟨hx, hb, hml, hown, hts⟩ (kX12_begins_1_f1 l D ca za h hh f L Q hI hf_0_48 (by have k0 : (1 : Int32).toInt = 1 := ti_1; omega) H.size) (sl_c12_begins_0_0_0_0_12 hts ⟨Nat.le_of_ble_eq_true rfl, Nat.le_of_ble_eq_true rfl⟩) (sl_vM_0 hA hK hP hS hZ) rfl rfl hl.1 rfl (lv_room (Nat.le_of_ble_eq_true rfl)) dX12_setsAs_54 ⟨Nat.le_refl _, Nat.le_refl _⟩) hA hS (fun f_4 L_5 Q_6 H locs hq hP hS => ?_)
  obtain ⟨⟨hI, hk_f_4, eL9, eQ9⟩, p_7, u_8⟩ := hq
  rw [eL9, eQ9] at hP; clear eL9 eQ9
  have hF : sgK WkX12_setsAs_0_f1_f4 f f_4 := sgK.tr hF hk_f_4 (by decide +kernel)
  obtain ⟨v_9, ev_9⟩ : ∃ z : Int32, z = f_4 0 48 := ⟨_, rfl⟩
  have q_10 : 0 ≤ v_9.toInt ∧ v_9.toInt ≤ 19 := by rw [ev_9]; exact hI 0 48
  have q_11 : (f_4 0 48).toInt = v_9.toInt := (congrArg Int32.toInt (show f_4 0 48 = v_9 from ev_9.symm))
  refine lv_iload_n hx hb dX12_setsAs_57 rfl (lv_at hl 2 rfl) ?_
  refine lv_aload_n hx hb dX12_setsAs_58 rfl (lv_at hl 0 rfl) ?_
  refine sl_gM_0_50_12 (v := (f_4 0 50)) hx hb hts hown hK hP rfl dX12_setsAs_59 ?_
  refine lv_topi (fun v_13 ev_13 => ?_)
  have q_14 : 0 ≤ v_13.toInt ∧ v_13.toInt ≤ 49 := by rw [ev_13]; exact hI 0 50
  refine lv_iadd hx hb dX12_setsAs_62 ?_
  refine lv_topi (fun v_15 ev_15 => ?_)
  exact hret _ _ _ _ (v_15) f_4 L Q dX12_setsAs_63 hP hS ⟨⟨hI, hF, rfl, rfl⟩, trivial, ⟨by omega, by omega⟩, (Eq.trans (Eq.symm (hs.trans ((spl_e u_8 (spl_e ev_9 (spl_e ev_13 (spl_e ev_15 rfl))))))) hsp)⟩

abbrev WkX12_setsAs_4_f0_f4 : List (Nat × Nat × Option Nat) := [(0, 0, some 48), (21, 21, some 0), (21, 21, some 1)]
set_option maxHeartbeats 4000000 in
set_option maxRecDepth 100000 in
theorem kX12_setsAs_4_f0_f4 (l : Launch) (D : va_G) (ca : Nat → ClassId) (za h : Nat → Nat) (hh : sgH 26 h) (f : sg_F) (L : sg_L) (Q : sg_Q) (hI : sgI loM hiM f) (x1 : Int32) (hf_0_48 : f 0 48 = 0) (hf_0_49 : f 0 49 = 4) (p0 : 0 ≤ (f 0 48).toInt ∧ (f 0 48).toInt ≤ 0) (sz : Nat) : Met l yX12_setsAs gwX12_setsAs { frames := 2, cells := 0, slots := 0, locals := 43 } (sgP D vwCl (tyX ca) 26 h (eM ca h) zcM za f L Q sz [.ref (h 0), .int 4, .int x1]) (sgQi D vwCl 26 h (eM ca h) sz (fun r f1 L1 Q1 => ((sgI loM hiM f1 ∧ sgK WkX12_setsAs_4_f0_f4 f f1 ∧ L1 = L ∧ Q1 = Q) ∧ True ∧ (2 ≤ (f1 0 48).toInt ∧ (f1 0 48).toInt ≤ 2) ∧ (r, f1) = sX12_setsAs_4_f0_f4 x1 f L))) 0 0 (sgA 26 h sz) := by
  refine sg_ofWi (cc := cX12_setsAs) (maxL := 3) RX12 (by decide) rfl rfl (Nat.le_of_ble_eq_true rfl) ?_
  intro p e s m below meth cd Qz ls hx hb hml hown hts hK hZ hP hS hl hret
  have hA := sgY.self (n := 26) (h := h) (sz := s.heap.size)
  have hl : lv_has ls 3 [(0, .ref (h 0)), (1, .int 4), (2, .int x1)] := hl
  obtain ⟨H, hH⟩ : ∃ z : Heap, z = s.heap := ⟨_, rfl⟩
  obtain ⟨locs, hlo⟩ : ∃ z : List Loc, z = [] := ⟨_, rfl⟩
  have hP : va_P D vwCl (sgw 26 h (eM ca h) f L Q) H := by rw [hH]; exact hP
  have hS : va_S (sgA 26 h s.heap.size) s.heap H locs := by rw [hH, hlo]; exact hS
  suffices hgo : W p l e ({ frames := 2, cells := 0, slots := 0, locals := 43 }) s m ([.ref (h 0), .int 4, .int x1] : List Value).toArray below meth cd H locs 0 0 Qz (F0 m 0 ls []) by rw [hH, hlo] at hgo; exact hgo
  clear hH hlo
  obtain ⟨sp, hsp⟩ : ∃ z : Int32 × sg_F, z = sX12_setsAs_4_f0_f4 x1 f L := ⟨_, rfl⟩
  have hs : sp = sX12_setsAs_4_f0_f4 x1 f L := hsp
  have o_1 : (f 0 48).toInt = 0 := (congrArg Int32.toInt (show f 0 48 = 0 from hf_0_48)).trans (by decide)
  have hF : sgK WkX12_setsAs_4_f0_f4 f f := sgK.rf
  have blk_16 : ∀ (fp_16 : sg_F) (H : Heap) (locs : List Loc) (ls : Array Slot), sp = sX12_setsAs_4_f0_f4_b16 x1 fp_16 L → 0 ≤ (fp_16 0 48).toInt ∧ (fp_16 0 48).toInt ≤ 0 → 4 ≤ (fp_16 0 49).toInt ∧ (fp_16 0 49).toInt ≤ 4 → sgI loM hiM fp_16 → sgK WkX12_setsAs_4_f0_f4 f fp_16 → va_P D vwCl (sgw 26 h (eM ca h) fp_16 L Q) H → va_S (sgA 26 h s.heap.size) s.heap H locs → lv_has ls 3 [(0, .ref (h 0)), (2, .int x1)] → W p l e ({ frames := 2, cells := 0, slots := 0, locals := 43 }) s m ([.ref (h 0), .int 4, .int x1] : List Value).toArray below meth cd H locs 0 0 Qz (F0 m 16 ls []) := by
    intro fp_16 H locs ls hs hy0_16 hy1_16 hI hF hP hS hl
    obtain ⟨v_2, ev_2⟩ : ∃ z : Int32, z = fp_16 0 48 := ⟨_, rfl⟩
    have q_3 : 0 ≤ v_2.toInt ∧ v_2.toInt ≤ 19 := by rw [ev_2]; exact hI 0 48
    have q_4 : (fp_16 0 48).toInt = v_2.toInt := by rw [ev_2]
    obtain ⟨v_5, ev_5⟩ : ∃ z : Int32, z = fp_16 0 49 := ⟨_, rfl⟩
    have q_6 : 0 ≤ v_5.toInt ∧ v_5.toInt ≤ 7 := by rw [ev_5]; exact hI 0 49
    have q_7 : (fp_16 0 49).toInt = v_5.toInt := by rw [ev_5]
    have m_8 : fp_16 0 49 = 4 := (hF 0 49 (by decide)).trans hf_0_49
    refine lv_aload_n hx hb dX12_setsAs_16 rfl (lv_at hl 0 rfl) ?_
    refine lv_bipush (v := 20) hx hb dX12_setsAs_17 bp_20 ?_
    have c_9 : v_2 = 0 := Int32.toInt_inj.mp (by have k9 : (0 : Int32).toInt = 0 := ti_0; omega)
    have q_10 : (fp_16 0 48).toInt = 0 := (congrArg Int32.toInt (show fp_16 0 48 = 0 from (Eq.trans ev_2.symm c_9))).trans (by decide)
    refine sg_callv (va_runV (As := [.int 20]) (rest := []) ⟨hx, hb, hml, hown, hts⟩ (kX12_begins_20_f0 l D ca za h hh fp_16 L Q hI (Eq.trans ev_2.symm c_9) (by have k0 : (20 : Int32).toInt = 20 := ti_20; omega) H.size) (sl_c12_begins_0_0_0_0_12 hts ⟨Nat.le_of_ble_eq_true rfl, Nat.le_of_ble_eq_true rfl⟩) (sl_vM_0 hA hK hP hS hZ) rfl rfl hl.1 rfl (lv_room (Nat.le_of_ble_eq_true rfl)) dX12_setsAs_19 ⟨Nat.le_refl _, Nat.le_refl _⟩) hA hS (fun f_12 L_13 Q_14 H locs hq hP hS => ?_)
    obtain ⟨⟨hI, hk_f_12, eL9, eQ9⟩, p_15, u_16⟩ := hq
    rw [eL9, eQ9] at hP; clear eL9 eQ9
    have hF : sgK WkX12_setsAs_4_f0_f4 f f_12 := sgK.tr hF hk_f_12 (by decide +kernel)
    obtain ⟨v_17, ev_17⟩ : ∃ z : Int32, z = f_12 0 48 := ⟨_, rfl⟩
    have q_18 : 0 ≤ v_17.toInt ∧ v_17.toInt ≤ 19 := by rw [ev_17]; exact hI 0 48
    have q_19 : (f_12 0 48).toInt = v_17.toInt := (congrArg Int32.toInt (show f_12 0 48 = v_17 from ev_17.symm))
    refine lv_aload_n hx hb dX12_setsAs_22 rfl (lv_at hl 0 rfl) ?_
    refine lv_iconst (v := 0) hx hb dX12_setsAs_23 ic_0 ?_
    refine lv_iload_n hx hb dX12_setsAs_24 rfl (lv_at hl 1 rfl) ?_
    have c_21 : v_17 = 1 := Int32.toInt_inj.mp (by have k9 : (1 : Int32).toInt = 1 := ti_1; omega)
    have q_22 : (f_12 0 48).toInt = 1 := (congrArg Int32.toInt (show f_12 0 48 = 1 from (Eq.trans ev_17.symm c_21))).trans (by decide)
    refine sg_calli (va_runV (As := [.int 0, .int x1]) (rest := []) ⟨hx, hb, hml, hown, hts⟩ (kX12_setsAs_0_f1_f4 l D ca za h hh f_12 L Q hI x1 (Eq.trans ev_17.symm c_21) ((hk_f_12 0 49 (by decide)).trans m_8) (by have k0 : (0 : Int32).toInt = 0 := ti_0; omega) H.size) (sl_c12_setsAs_1_0_0_21_12 hts ⟨Nat.le_of_ble_eq_true rfl, Nat.le_of_ble_eq_true rfl⟩) (sl_vM_0 hA hK hP hS hZ) rfl rfl hl.1 rfl (lv_room (Nat.le_of_ble_eq_true rfl)) dX12_setsAs_25 ⟨Nat.le_refl _, Nat.le_refl _⟩) hA hS (fun r_27 f_24 L_25 Q_26 H locs hq hP hS => ?_)
    obtain ⟨⟨hI, hk_f_24, eL9, eQ9⟩, hq, p_28, u_29⟩ := hq
    rw [eL9, eQ9] at hP; clear eL9 eQ9
    have hF : sgK WkX12_setsAs_4_f0_f4 f f_24 := sgK.tr hF hk_f_24 (by decide +kernel)
    obtain ⟨v_30, ev_30⟩ : ∃ z : Int32, z = f_24 0 48 := ⟨_, rfl⟩
    have q_31 : 0 ≤ v_30.toInt ∧ v_30.toInt ≤ 19 := by rw [ev_30]; exact hI 0 48
    have q_32 : (f_24 0 48).toInt = v_30.toInt := (congrArg Int32.toInt (show f_24 0 48 = v_30 from ev_30.symm))
    have k_34 : (0 : Int32).toInt = 0 := by decide
    refine lv_iconst (v := 3) hx hb dX12_setsAs_28 ic_3 ?_
    refine lv_iadd hx hb dX12_setsAs_29 ?_
    refine lv_topi (fun v_35 ev_35 => ?_)
    exact hret _ _ _ _ (v_35) f_24 L Q dX12_setsAs_30 hP hS ⟨⟨hI, hF, rfl, rfl⟩, trivial, ⟨by omega, by omega⟩, (Eq.trans (Eq.symm (hs.trans ((spl_e ev_2 (spl_e ev_5 (spl_e u_16 (spl_e ev_17 (spl2_e u_29 (spl_e ev_30 (spl_e ev_35 rfl)))))))))) hsp)⟩
  refine lv_iload_n hx hb dX12_setsAs_0 rfl (lv_at hl 1 rfl) ?_
  refine lv_iconst (v := 1) hx hb dX12_setsAs_1 ic_1 ?_
  refine lv_icmp_eq (tgt := 16) hx hb dX12_setsAs_2 (by decide) (fun c => absurd c (by decide)) (fun c => ?_)
  refine lv_iload_n hx hb dX12_setsAs_5 rfl (lv_at hl 1 rfl) ?_
  refine lv_iconst (v := 4) hx hb dX12_setsAs_6 ic_4 ?_
  refine lv_icmp_eq (tgt := 16) hx hb dX12_setsAs_7 (by decide) (fun c => ?_) (fun c => absurd c (by decide))
  exact blk_16 f _ _ _ hs (by have zz0_48 : (f 0 48).toInt = 0 := (congrArg Int32.toInt (show f 0 48 = 0 from hf_0_48)).trans (by decide); exact ⟨by omega, by omega⟩) (by have zz0_49 : (f 0 49).toInt = 4 := (congrArg Int32.toInt (show f 0 49 = 4 from hf_0_49)).trans (by decide); exact ⟨by omega, by omega⟩) hI hF hP hS (lv_sub hl [0, 2] rfl)

abbrev WkX12_setsAs_5_f0_f5 : List (Nat × Nat × Option Nat) := [(0, 0, some 48), (21, 21, some 0)]
set_option maxHeartbeats 4000000 in
set_option maxRecDepth 100000 in
theorem kX12_setsAs_5_f0_f5 (l : Launch) (D : va_G) (ca : Nat → ClassId) (za h : Nat → Nat) (hh : sgH 26 h) (f : sg_F) (L : sg_L) (Q : sg_Q) (hI : sgI loM hiM f) (x1 : Int32) (hf_0_48 : f 0 48 = 0) (hf_0_49 : f 0 49 = 5) (p0 : 0 ≤ (f 0 48).toInt ∧ (f 0 48).toInt ≤ 0) (sz : Nat) : Met l yX12_setsAs gwX12_setsAs { frames := 1, cells := 0, slots := 0, locals := 21 } (sgP D vwCl (tyX ca) 26 h (eM ca h) zcM za f L Q sz [.ref (h 0), .int 5, .int x1]) (sgQi D vwCl 26 h (eM ca h) sz (fun r f1 L1 Q1 => ((sgI loM hiM f1 ∧ sgK WkX12_setsAs_5_f0_f5 f f1 ∧ L1 = L ∧ Q1 = Q) ∧ True ∧ (1 ≤ (f1 0 48).toInt ∧ (f1 0 48).toInt ≤ 1) ∧ (r, f1) = sX12_setsAs_5_f0_f5 x1 f L))) 0 0 (sgA 26 h sz) := by
  refine sg_ofWi (cc := cX12_setsAs) (maxL := 3) RX12 (by decide) rfl rfl (Nat.le_of_ble_eq_true rfl) ?_
  intro p e s m below meth cd Qz ls hx hb hml hown hts hK hZ hP hS hl hret
  have hA := sgY.self (n := 26) (h := h) (sz := s.heap.size)
  have hl : lv_has ls 3 [(0, .ref (h 0)), (1, .int 5), (2, .int x1)] := hl
  obtain ⟨H, hH⟩ : ∃ z : Heap, z = s.heap := ⟨_, rfl⟩
  obtain ⟨locs, hlo⟩ : ∃ z : List Loc, z = [] := ⟨_, rfl⟩
  have hP : va_P D vwCl (sgw 26 h (eM ca h) f L Q) H := by rw [hH]; exact hP
  have hS : va_S (sgA 26 h s.heap.size) s.heap H locs := by rw [hH, hlo]; exact hS
  suffices hgo : W p l e ({ frames := 1, cells := 0, slots := 0, locals := 21 }) s m ([.ref (h 0), .int 5, .int x1] : List Value).toArray below meth cd H locs 0 0 Qz (F0 m 0 ls []) by rw [hH, hlo] at hgo; exact hgo
  clear hH hlo
  obtain ⟨sp, hsp⟩ : ∃ z : Int32 × sg_F, z = sX12_setsAs_5_f0_f5 x1 f L := ⟨_, rfl⟩
  have hs : sp = sX12_setsAs_5_f0_f5 x1 f L := hsp
  have o_1 : (f 0 48).toInt = 0 := (congrArg Int32.toInt (show f 0 48 = 0 from hf_0_48)).trans (by decide)
  have hF : sgK WkX12_setsAs_5_f0_f5 f f := sgK.rf
  refine lv_iload_n hx hb dX12_setsAs_0 rfl (lv_at hl 1 rfl) ?_
  refine lv_iconst (v := 1) hx hb dX12_setsAs_1 ic_1 ?_
  refine lv_icmp_eq (tgt := 16) hx hb dX12_setsAs_2 (by decide) (fun c => absurd c (by decide)) (fun c => ?_)
  refine lv_iload_n hx hb dX12_setsAs_5 rfl (lv_at hl 1 rfl) ?_
  refine lv_iconst (v := 4) hx hb dX12_setsAs_6 ic_4 ?_
  refine lv_icmp_eq (tgt := 16) hx hb dX12_setsAs_7 (by decide) (fun c => absurd c (by decide)) (fun c => ?_)
  refine lv_iload_n hx hb dX12_setsAs_10 rfl (lv_at hl 1 rfl) ?_
  refine lv_bipush (v := 7) hx hb dX12_setsAs_11 bp_7 ?_
  refine lv_icmp_ne (tgt := 31) hx hb dX12_setsAs_13 (by decide) (fun c => ?_) (fun c => absurd c (by decide))
  refine lv_iload_n hx hb dX12_setsAs_31 rfl (lv_at hl 1 rfl) ?_
  refine lv_bipush (v := 6) hx hb dX12_setsAs_32 bp_6 ?_
  refine lv_icmp_ne (tgt := 52) hx hb dX12_setsAs_34 (by decide) (fun c => ?_) (fun c => absurd c (by decide))
  refine lv_aload_n hx hb dX12_setsAs_52 rfl (lv_at hl 0 rfl) ?_
  refine lv_iconst (v := 1) hx hb dX12_setsAs_53 ic_1 ?_
  have q_2 : (f 0 48).toInt = 0 := (congrArg Int32.toInt (show f 0 48 = 0 from hf_0_48)).trans (by decide)
  refine sg_callv (va_runV (As := [.int 1]) (rest := []) ⟨hx, hb, hml, hown, hts⟩ (kX12_begins_1_f0 l D ca za h hh f L Q hI hf_0_48 (by have k0 : (1 : Int32).toInt = 1 := ti_1; omega) H.size) (sl_c12_begins_0_0_0_0_12 hts ⟨Nat.le_of_ble_eq_true rfl, Nat.le_of_ble_eq_true rfl⟩) (sl_vM_0 hA hK hP hS hZ) rfl rfl hl.1 rfl (lv_room (Nat.le_of_ble_eq_true rfl)) dX12_setsAs_54 ⟨Nat.le_refl _, Nat.le_refl _⟩) hA hS (fun f_4 L_5 Q_6 H locs hq hP hS => ?_)
  obtain ⟨⟨hI, hk_f_4, eL9, eQ9⟩, p_7, u_8⟩ := hq
  rw [eL9, eQ9] at hP; clear eL9 eQ9
  have hF : sgK WkX12_setsAs_5_f0_f5 f f_4 := sgK.tr hF hk_f_4 (by decide +kernel)
  obtain ⟨v_9, ev_9⟩ : ∃ z : Int32, z = f_4 0 48 := ⟨_, rfl⟩
  have q_10 : 0 ≤ v_9.toInt ∧ v_9.toInt ≤ 19 := by rw [ev_9]; exact hI 0 48
  have q_11 : (f_4 0 48).toInt = v_9.toInt := (congrArg Int32.toInt (show f_4 0 48 = v_9 from ev_9.symm))
  refine lv_iload_n hx hb dX12_setsAs_57 rfl (lv_at hl 2 rfl) ?_
  refine lv_aload_n hx hb dX12_setsAs_58 rfl (lv_at hl 0 rfl) ?_
  refine sl_gM_0_50_12 (v := (f_4 0 50)) hx hb hts hown hK hP rfl dX12_setsAs_59 ?_
  refine lv_topi (fun v_13 ev_13 => ?_)
  have q_14 : 0 ≤ v_13.toInt ∧ v_13.toInt ≤ 49 := by rw [ev_13]; exact hI 0 50
  refine lv_iadd hx hb dX12_setsAs_62 ?_
  refine lv_topi (fun v_15 ev_15 => ?_)
  exact hret _ _ _ _ (v_15) f_4 L Q dX12_setsAs_63 hP hS ⟨⟨hI, hF, rfl, rfl⟩, trivial, ⟨by omega, by omega⟩, (Eq.trans (Eq.symm (hs.trans ((spl_e u_8 (spl_e ev_9 (spl_e ev_13 (spl_e ev_15 rfl))))))) hsp)⟩

abbrev WkX12_begins_70_f0 : List (Nat × Nat × Option Nat) := [(0, 0, some 48), (21, 21, some 0)]
set_option maxHeartbeats 4000000 in
set_option maxRecDepth 100000 in
theorem kX12_begins_70_f0 (l : Launch) (D : va_G) (ca : Nat → ClassId) (za h : Nat → Nat) (hh : sgH 26 h) (f : sg_F) (L : sg_L) (Q : sg_Q) (hI : sgI loM hiM f) (hf_0_48 : f 0 48 = 0) (p0 : 0 ≤ (f 0 48).toInt ∧ (f 0 48).toInt ≤ 0) (sz : Nat) : Met l yX12_begins gwX12_begins { frames := 0, cells := 0, slots := 0, locals := 0 } (sgP D vwCl (tyX ca) 26 h (eM ca h) zcM za f L Q sz [.ref (h 0), .int 70]) (sgQv D vwCl 26 h (eM ca h) sz (fun f1 L1 Q1 => ((sgI loM hiM f1 ∧ sgK WkX12_begins_70_f0 f f1 ∧ L1 = L ∧ Q1 = Q) ∧ (1 ≤ (f1 0 48).toInt ∧ (f1 0 48).toInt ≤ 1) ∧ (f1) = sX12_begins_70_f0 f L))) 0 0 (sgA 26 h sz) := by
  refine sg_ofWv (cc := cX12_begins) (maxL := 2) RX12 (by decide) rfl rfl (Nat.le_of_ble_eq_true rfl) ?_
  intro p e s m below meth cd Qz ls hx hb hml hown hts hK hZ hP hS hl hret
  have hA := sgY.self (n := 26) (h := h) (sz := s.heap.size)
  have hl : lv_has ls 2 [(0, .ref (h 0)), (1, .int 70)] := hl
  obtain ⟨H, hH⟩ : ∃ z : Heap, z = s.heap := ⟨_, rfl⟩
  obtain ⟨locs, hlo⟩ : ∃ z : List Loc, z = [] := ⟨_, rfl⟩
  have hP : va_P D vwCl (sgw 26 h (eM ca h) f L Q) H := by rw [hH]; exact hP
  have hS : va_S (sgA 26 h s.heap.size) s.heap H locs := by rw [hH, hlo]; exact hS
  suffices hgo : W p l e ({ frames := 0, cells := 0, slots := 0, locals := 0 }) s m ([.ref (h 0), .int 70] : List Value).toArray below meth cd H locs 0 0 Qz (F0 m 0 ls []) by rw [hH, hlo] at hgo; exact hgo
  clear hH hlo
  obtain ⟨sp, hsp⟩ : ∃ z : sg_F, z = sX12_begins_70_f0 f L := ⟨_, rfl⟩
  have hs : sp = sX12_begins_70_f0 f L := hsp
  have o_1 : (f 0 48).toInt = 0 := (congrArg Int32.toInt (show f 0 48 = 0 from hf_0_48)).trans (by decide)
  have hF : sgK WkX12_begins_70_f0 f f := sgK.rf
  have blk_19 : ∀ (fp_19 : sg_F) (H : Heap) (locs : List Loc) (ls : Array Slot), sp = sX12_begins_70_f0_b19 fp_19 L → 0 ≤ (fp_19 0 48).toInt ∧ (fp_19 0 48).toInt ≤ 0 → sgI loM hiM fp_19 → sgK WkX12_begins_70_f0 f fp_19 → va_P D vwCl (sgw 26 h (eM ca h) fp_19 L Q) H → va_S (sgA 26 h s.heap.size) s.heap H locs → lv_has ls 2 [(0, .ref (h 0))] → W p l e ({ frames := 0, cells := 0, slots := 0, locals := 0 }) s m ([.ref (h 0), .int 70] : List Value).toArray below meth cd H locs 0 0 Qz (F0 m 19 ls []) := by
    intro fp_19 H locs ls hs hy0_19 hI hF hP hS hl
    obtain ⟨v_2, ev_2⟩ : ∃ z : Int32, z = fp_19 0 48 := ⟨_, rfl⟩
    have q_3 : 0 ≤ v_2.toInt ∧ v_2.toInt ≤ 19 := by rw [ev_2]; exact hI 0 48
    have q_4 : (fp_19 0 48).toInt = v_2.toInt := by rw [ev_2]
    refine lv_aload_n hx hb dX12_begins_19 rfl (lv_at hl 0 rfl) ?_
    refine lv_dup hx hb dX12_begins_20 rfl ?_
    refine sl_gM_0_48_12 (v := v_2) hx hb hts hown hK hP (show fp_19 0 48 = v_2 from ev_2.symm) dX12_begins_21 ?_
    refine lv_iconst (v := 1) hx hb dX12_begins_24 ic_1 ?_
    refine lv_iadd hx hb dX12_begins_25 ?_
    refine lv_topi (fun v_5 ev_5 => ?_)
    have q_6 : v_5.toInt = v_2.toInt + 1 := by rw [ev_5]; first | exact cm_add ti_1 (by omega) (by omega) | (have k1 : (1 : Int32).toInt = 1 := ti_1; exact (bn_addI (by omega) (by omega)).trans (by omega))
    refine sl_pM_0_48_12 (x := v_5) hx hb hts hown hh hA hK hP hS dX12_begins_26 (fun f_7 H locs ef_7 hP hS => ?_)
    have hI : sgI loM hiM f_7 := by rw [ef_7]; exact sgI.put hI 0 48 (show 0 ≤ (v_5 : Int32).toInt ∧ (v_5 : Int32).toInt ≤ 19 from ⟨by omega, by omega⟩)
    have hF : sgK WkX12_begins_70_f0 f f_7 := sgK.put hF ef_7 (by rfl)
    have q_8 : (f_7 0 48).toInt = v_5.toInt := (congrArg Int32.toInt (show f_7 0 48 = v_5 from (by rw [ef_7, sg_up_s, sgu_s])))
    exact hret _ _ _ _ f_7 L Q dX12_begins_29 hP hS ⟨⟨hI, hF, rfl, rfl⟩, ⟨by omega, by omega⟩, (Eq.trans (Eq.symm (hs.trans ((spl_e ev_2 (spl_e ev_5 (spl_e ef_7 rfl)))))) hsp)⟩
  refine lv_aload_n hx hb dX12_begins_0 rfl (lv_at hl 0 rfl) ?_
  refine sl_gM_0_48_12 (v := 0) hx hb hts hown hK hP (show f 0 48 = 0 from hf_0_48) dX12_begins_1 ?_
  refine lv_bipush (v := 24) hx hb dX12_begins_4 bp_24 ?_
  refine lv_icmp_ge (tgt := 19) hx hb dX12_begins_6 (by decide) (fun c => absurd c (by decide)) (fun c => ?_)
  refine lv_aload_n hx hb dX12_begins_9 rfl (lv_at hl 0 rfl) ?_
  refine sl_gM_0_47_12 hx hb hts hown hK hP dX12_begins_10 ?_
  refine lv_aload_n hx hb dX12_begins_13 rfl (lv_at hl 0 rfl) ?_
  refine sl_gM_0_48_12 (v := 0) hx hb hts hown hK hP (show f 0 48 = 0 from hf_0_48) dX12_begins_14 ?_
  refine lv_iload_n hx hb dX12_begins_17 rfl (lv_at hl 1 rfl) ?_
  refine sg_iast hx hb hh hA hK hP hS 21 (by decide) 0 (fun _ => rfl) rfl (i := 0) (x := 70) (vp_in_iff.mpr (by decide)) dX12_begins_18 (fun f_10 H locs ef_10 hP hS => ?_)
  have ef_10 : f_10 = sg_up f 21 (sgu (f 21) 0 70) := ef_10
  have hI : sgI loM hiM f_10 := by rw [ef_10]; exact sgI.put hI 21 0 (show 0 ≤ (70 : Int32).toInt ∧ (70 : Int32).toInt ≤ 81 from by decide)
  have hF : sgK WkX12_begins_70_f0 f f_10 := sgK.put hF ef_10 (by rfl)
  exact blk_19 f_10 _ _ _ (hs.trans ((spl_e ef_10 rfl))) (by have zz0_48 : (f_10 0 48).toInt = 0 := (congrArg Int32.toInt (show f_10 0 48 = 0 from (by rw [ef_10, sg_up_n (by decide)]; exact hf_0_48))).trans (by decide); exact ⟨by omega, by omega⟩) hI hF hP hS (lv_sub hl [0] rfl)

abbrev WkX12_setsAs_0_f1_f6 : List (Nat × Nat × Option Nat) := [(0, 0, some 48), (21, 21, some 1)]
set_option maxHeartbeats 4000000 in
set_option maxRecDepth 100000 in
theorem kX12_setsAs_0_f1_f6 (l : Launch) (D : va_G) (ca : Nat → ClassId) (za h : Nat → Nat) (hh : sgH 26 h) (f : sg_F) (L : sg_L) (Q : sg_Q) (hI : sgI loM hiM f) (x1 : Int32) (hf_0_48 : f 0 48 = 1) (hf_0_49 : f 0 49 = 6) (p0 : 1 ≤ (f 0 48).toInt ∧ (f 0 48).toInt ≤ 1) (sz : Nat) : Met l yX12_setsAs gwX12_setsAs { frames := 1, cells := 0, slots := 0, locals := 21 } (sgP D vwCl (tyX ca) 26 h (eM ca h) zcM za f L Q sz [.ref (h 0), .int 0, .int x1]) (sgQi D vwCl 26 h (eM ca h) sz (fun r f1 L1 Q1 => ((sgI loM hiM f1 ∧ sgK WkX12_setsAs_0_f1_f6 f f1 ∧ L1 = L ∧ Q1 = Q) ∧ True ∧ (2 ≤ (f1 0 48).toInt ∧ (f1 0 48).toInt ≤ 2) ∧ (r, f1) = sX12_setsAs_0_f1_f6 x1 f L))) 0 0 (sgA 26 h sz) := by
  refine sg_ofWi (cc := cX12_setsAs) (maxL := 3) RX12 (by decide) rfl rfl (Nat.le_of_ble_eq_true rfl) ?_
  intro p e s m below meth cd Qz ls hx hb hml hown hts hK hZ hP hS hl hret
  have hA := sgY.self (n := 26) (h := h) (sz := s.heap.size)
  have hl : lv_has ls 3 [(0, .ref (h 0)), (1, .int 0), (2, .int x1)] := hl
  obtain ⟨H, hH⟩ : ∃ z : Heap, z = s.heap := ⟨_, rfl⟩
  obtain ⟨locs, hlo⟩ : ∃ z : List Loc, z = [] := ⟨_, rfl⟩
  have hP : va_P D vwCl (sgw 26 h (eM ca h) f L Q) H := by rw [hH]; exact hP
  have hS : va_S (sgA 26 h s.heap.size) s.heap H locs := by rw [hH, hlo]; exact hS
  suffices hgo : W p l e ({ frames := 1, cells := 0, slots := 0, locals := 21 }) s m ([.ref (h 0), .int 0, .int x1] : List Value).toArray below meth cd H locs 0 0 Qz (F0 m 0 ls []) by rw [hH, hlo] at hgo; exact hgo
  clear hH hlo
  obtain ⟨sp, hsp⟩ : ∃ z : Int32 × sg_F, z = sX12_setsAs_0_f1_f6 x1 f L := ⟨_, rfl⟩
  have hs : sp = sX12_setsAs_0_f1_f6 x1 f L := hsp
  have o_1 : (f 0 48).toInt = 1 := (congrArg Int32.toInt (show f 0 48 = 1 from hf_0_48)).trans (by decide)
  have hF : sgK WkX12_setsAs_0_f1_f6 f f := sgK.rf
  refine lv_iload_n hx hb dX12_setsAs_0 rfl (lv_at hl 1 rfl) ?_
  refine lv_iconst (v := 1) hx hb dX12_setsAs_1 ic_1 ?_
  refine lv_icmp_eq (tgt := 16) hx hb dX12_setsAs_2 (by decide) (fun c => absurd c (by decide)) (fun c => ?_)
  refine lv_iload_n hx hb dX12_setsAs_5 rfl (lv_at hl 1 rfl) ?_
  refine lv_iconst (v := 4) hx hb dX12_setsAs_6 ic_4 ?_
  refine lv_icmp_eq (tgt := 16) hx hb dX12_setsAs_7 (by decide) (fun c => absurd c (by decide)) (fun c => ?_)
  refine lv_iload_n hx hb dX12_setsAs_10 rfl (lv_at hl 1 rfl) ?_
  refine lv_bipush (v := 7) hx hb dX12_setsAs_11 bp_7 ?_
  refine lv_icmp_ne (tgt := 31) hx hb dX12_setsAs_13 (by decide) (fun c => ?_) (fun c => absurd c (by decide))
  refine lv_iload_n hx hb dX12_setsAs_31 rfl (lv_at hl 1 rfl) ?_
  refine lv_bipush (v := 6) hx hb dX12_setsAs_32 bp_6 ?_
  refine lv_icmp_ne (tgt := 52) hx hb dX12_setsAs_34 (by decide) (fun c => ?_) (fun c => absurd c (by decide))
  refine lv_aload_n hx hb dX12_setsAs_52 rfl (lv_at hl 0 rfl) ?_
  refine lv_iconst (v := 1) hx hb dX12_setsAs_53 ic_1 ?_
  have q_2 : (f 0 48).toInt = 1 := (congrArg Int32.toInt (show f 0 48 = 1 from hf_0_48)).trans (by decide)
  refine sg_callv (va_runV (As := [.int 1]) (rest := []) ⟨hx, hb, hml, hown, hts⟩ (kX12_begins_1_f1 l D ca za h hh f L Q hI hf_0_48 (by have k0 : (1 : Int32).toInt = 1 := ti_1; omega) H.size) (sl_c12_begins_0_0_0_0_12 hts ⟨Nat.le_of_ble_eq_true rfl, Nat.le_of_ble_eq_true rfl⟩) (sl_vM_0 hA hK hP hS hZ) rfl rfl hl.1 rfl (lv_room (Nat.le_of_ble_eq_true rfl)) dX12_setsAs_54 ⟨Nat.le_refl _, Nat.le_refl _⟩) hA hS (fun f_4 L_5 Q_6 H locs hq hP hS => ?_)
  obtain ⟨⟨hI, hk_f_4, eL9, eQ9⟩, p_7, u_8⟩ := hq
  rw [eL9, eQ9] at hP; clear eL9 eQ9
  have hF : sgK WkX12_setsAs_0_f1_f6 f f_4 := sgK.tr hF hk_f_4 (by decide +kernel)
  obtain ⟨v_9, ev_9⟩ : ∃ z : Int32, z = f_4 0 48 := ⟨_, rfl⟩
  have q_10 : 0 ≤ v_9.toInt ∧ v_9.toInt ≤ 19 := by rw [ev_9]; exact hI 0 48
  have q_11 : (f_4 0 48).toInt = v_9.toInt := (congrArg Int32.toInt (show f_4 0 48 = v_9 from ev_9.symm))
  refine lv_iload_n hx hb dX12_setsAs_57 rfl (lv_at hl 2 rfl) ?_
  refine lv_aload_n hx hb dX12_setsAs_58 rfl (lv_at hl 0 rfl) ?_
  refine sl_gM_0_50_12 (v := (f_4 0 50)) hx hb hts hown hK hP rfl dX12_setsAs_59 ?_
  refine lv_topi (fun v_13 ev_13 => ?_)
  have q_14 : 0 ≤ v_13.toInt ∧ v_13.toInt ≤ 49 := by rw [ev_13]; exact hI 0 50
  refine lv_iadd hx hb dX12_setsAs_62 ?_
  refine lv_topi (fun v_15 ev_15 => ?_)
  exact hret _ _ _ _ (v_15) f_4 L Q dX12_setsAs_63 hP hS ⟨⟨hI, hF, rfl, rfl⟩, trivial, ⟨by omega, by omega⟩, (Eq.trans (Eq.symm (hs.trans ((spl_e u_8 (spl_e ev_9 (spl_e ev_13 (spl_e ev_15 rfl))))))) hsp)⟩

abbrev WkX12_setsAs_6_f0_f6 : List (Nat × Nat × Option Nat) := [(0, 0, some 48), (21, 21, some 0), (21, 21, some 1)]
set_option maxHeartbeats 4000000 in
set_option maxRecDepth 100000 in
theorem kX12_setsAs_6_f0_f6 (l : Launch) (D : va_G) (ca : Nat → ClassId) (za h : Nat → Nat) (hh : sgH 26 h) (f : sg_F) (L : sg_L) (Q : sg_Q) (hI : sgI loM hiM f) (x1 : Int32) (hf_0_48 : f 0 48 = 0) (hf_0_49 : f 0 49 = 6) (p0 : 0 ≤ (f 0 48).toInt ∧ (f 0 48).toInt ≤ 0) (sz : Nat) : Met l yX12_setsAs gwX12_setsAs { frames := 2, cells := 0, slots := 0, locals := 43 } (sgP D vwCl (tyX ca) 26 h (eM ca h) zcM za f L Q sz [.ref (h 0), .int 6, .int x1]) (sgQi D vwCl 26 h (eM ca h) sz (fun r f1 L1 Q1 => ((sgI loM hiM f1 ∧ sgK WkX12_setsAs_6_f0_f6 f f1 ∧ L1 = L ∧ Q1 = Q) ∧ True ∧ (2 ≤ (f1 0 48).toInt ∧ (f1 0 48).toInt ≤ 2) ∧ (r, f1) = sX12_setsAs_6_f0_f6 x1 f L))) 0 0 (sgA 26 h sz) := by
  refine sg_ofWi (cc := cX12_setsAs) (maxL := 3) RX12 (by decide) rfl rfl (Nat.le_of_ble_eq_true rfl) ?_
  intro p e s m below meth cd Qz ls hx hb hml hown hts hK hZ hP hS hl hret
  have hA := sgY.self (n := 26) (h := h) (sz := s.heap.size)
  have hl : lv_has ls 3 [(0, .ref (h 0)), (1, .int 6), (2, .int x1)] := hl
  obtain ⟨H, hH⟩ : ∃ z : Heap, z = s.heap := ⟨_, rfl⟩
  obtain ⟨locs, hlo⟩ : ∃ z : List Loc, z = [] := ⟨_, rfl⟩
  have hP : va_P D vwCl (sgw 26 h (eM ca h) f L Q) H := by rw [hH]; exact hP
  have hS : va_S (sgA 26 h s.heap.size) s.heap H locs := by rw [hH, hlo]; exact hS
  suffices hgo : W p l e ({ frames := 2, cells := 0, slots := 0, locals := 43 }) s m ([.ref (h 0), .int 6, .int x1] : List Value).toArray below meth cd H locs 0 0 Qz (F0 m 0 ls []) by rw [hH, hlo] at hgo; exact hgo
  clear hH hlo
  obtain ⟨sp, hsp⟩ : ∃ z : Int32 × sg_F, z = sX12_setsAs_6_f0_f6 x1 f L := ⟨_, rfl⟩
  have hs : sp = sX12_setsAs_6_f0_f6 x1 f L := hsp
  have o_1 : (f 0 48).toInt = 0 := (congrArg Int32.toInt (show f 0 48 = 0 from hf_0_48)).trans (by decide)
  have hF : sgK WkX12_setsAs_6_f0_f6 f f := sgK.rf
  refine lv_iload_n hx hb dX12_setsAs_0 rfl (lv_at hl 1 rfl) ?_
  refine lv_iconst (v := 1) hx hb dX12_setsAs_1 ic_1 ?_
  refine lv_icmp_eq (tgt := 16) hx hb dX12_setsAs_2 (by decide) (fun c => absurd c (by decide)) (fun c => ?_)
  refine lv_iload_n hx hb dX12_setsAs_5 rfl (lv_at hl 1 rfl) ?_
  refine lv_iconst (v := 4) hx hb dX12_setsAs_6 ic_4 ?_
  refine lv_icmp_eq (tgt := 16) hx hb dX12_setsAs_7 (by decide) (fun c => absurd c (by decide)) (fun c => ?_)
  refine lv_iload_n hx hb dX12_setsAs_10 rfl (lv_at hl 1 rfl) ?_
  refine lv_bipush (v := 7) hx hb dX12_setsAs_11 bp_7 ?_
  refine lv_icmp_ne (tgt := 31) hx hb dX12_setsAs_13 (by decide) (fun c => ?_) (fun c => absurd c (by decide))
  refine lv_iload_n hx hb dX12_setsAs_31 rfl (lv_at hl 1 rfl) ?_
  refine lv_bipush (v := 6) hx hb dX12_setsAs_32 bp_6 ?_
  refine lv_icmp_ne (tgt := 52) hx hb dX12_setsAs_34 (by decide) (fun c => absurd c (by decide)) (fun c => ?_)
  refine lv_aload_n hx hb dX12_setsAs_37 rfl (lv_at hl 0 rfl) ?_
  refine lv_bipush (v := 70) hx hb dX12_setsAs_38 bp_70 ?_
  have q_2 : (f 0 48).toInt = 0 := (congrArg Int32.toInt (show f 0 48 = 0 from hf_0_48)).trans (by decide)
  refine sg_callv (va_runV (As := [.int 70]) (rest := []) ⟨hx, hb, hml, hown, hts⟩ (kX12_begins_70_f0 l D ca za h hh f L Q hI hf_0_48 (by have k0 : (70 : Int32).toInt = 70 := ti_70; omega) H.size) (sl_c12_begins_0_0_0_0_12 hts ⟨Nat.le_of_ble_eq_true rfl, Nat.le_of_ble_eq_true rfl⟩) (sl_vM_0 hA hK hP hS hZ) rfl rfl hl.1 rfl (lv_room (Nat.le_of_ble_eq_true rfl)) dX12_setsAs_40 ⟨Nat.le_refl _, Nat.le_refl _⟩) hA hS (fun f_4 L_5 Q_6 H locs hq hP hS => ?_)
  obtain ⟨⟨hI, hk_f_4, eL9, eQ9⟩, p_7, u_8⟩ := hq
  rw [eL9, eQ9] at hP; clear eL9 eQ9
  have hF : sgK WkX12_setsAs_6_f0_f6 f f_4 := sgK.tr hF hk_f_4 (by decide +kernel)
  obtain ⟨v_9, ev_9⟩ : ∃ z : Int32, z = f_4 0 48 := ⟨_, rfl⟩
  have q_10 : 0 ≤ v_9.toInt ∧ v_9.toInt ≤ 19 := by rw [ev_9]; exact hI 0 48
  have q_11 : (f_4 0 48).toInt = v_9.toInt := (congrArg Int32.toInt (show f_4 0 48 = v_9 from ev_9.symm))
  refine lv_aload_n hx hb dX12_setsAs_43 rfl (lv_at hl 0 rfl) ?_
  refine lv_iconst (v := 0) hx hb dX12_setsAs_44 ic_0 ?_
  refine lv_iload_n hx hb dX12_setsAs_45 rfl (lv_at hl 2 rfl) ?_
  have c_13 : v_9 = 1 := Int32.toInt_inj.mp (by have k9 : (1 : Int32).toInt = 1 := ti_1; omega)
  have q_14 : (f_4 0 48).toInt = 1 := (congrArg Int32.toInt (show f_4 0 48 = 1 from (Eq.trans ev_9.symm c_13))).trans (by decide)
  refine sg_calli (va_runV (As := [.int 0, .int x1]) (rest := []) ⟨hx, hb, hml, hown, hts⟩ (kX12_setsAs_0_f1_f6 l D ca za h hh f_4 L Q hI x1 (Eq.trans ev_9.symm c_13) ((hk_f_4 0 49 (by decide)).trans hf_0_49) (by have k0 : (0 : Int32).toInt = 0 := ti_0; omega) H.size) (sl_c12_setsAs_1_0_0_21_12 hts ⟨Nat.le_of_ble_eq_true rfl, Nat.le_of_ble_eq_true rfl⟩) (sl_vM_0 hA hK hP hS hZ) rfl rfl hl.1 rfl (lv_room (Nat.le_of_ble_eq_true rfl)) dX12_setsAs_46 ⟨Nat.le_refl _, Nat.le_refl _⟩) hA hS (fun r_19 f_16 L_17 Q_18 H locs hq hP hS => ?_)
  obtain ⟨⟨hI, hk_f_16, eL9, eQ9⟩, hq, p_20, u_21⟩ := hq
  rw [eL9, eQ9] at hP; clear eL9 eQ9
  have hF : sgK WkX12_setsAs_6_f0_f6 f f_16 := sgK.tr hF hk_f_16 (by decide +kernel)
  obtain ⟨v_22, ev_22⟩ : ∃ z : Int32, z = f_16 0 48 := ⟨_, rfl⟩
  have q_23 : 0 ≤ v_22.toInt ∧ v_22.toInt ≤ 19 := by rw [ev_22]; exact hI 0 48
  have q_24 : (f_16 0 48).toInt = v_22.toInt := (congrArg Int32.toInt (show f_16 0 48 = v_22 from ev_22.symm))
  have k_26 : (0 : Int32).toInt = 0 := by decide
  refine lv_iconst (v := 2) hx hb dX12_setsAs_49 ic_2 ?_
  refine lv_imul hx hb dX12_setsAs_50 ?_
  refine lv_topi (fun v_27 ev_27 => ?_)
  exact hret _ _ _ _ (v_27) f_16 L Q dX12_setsAs_51 hP hS ⟨⟨hI, hF, rfl, rfl⟩, trivial, ⟨by omega, by omega⟩, (Eq.trans (Eq.symm (hs.trans ((spl_e u_8 (spl_e ev_9 (spl2_e u_21 (spl_e ev_22 (spl_e ev_27 rfl)))))))) hsp)⟩
