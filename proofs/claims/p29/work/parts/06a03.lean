/-! contracts of any state. Laid by a program (wip/tool) -/
abbrev WkX4_leaves : List (Nat × Nat × Option Nat) := [(13, 13, some 6), (14, 14, none), (15, 15, none)]
set_option maxHeartbeats 4000000 in
set_option maxRecDepth 100000 in
theorem kX4_leaves (l : Launch) (D : va_G) (ca : Nat → ClassId) (za h : Nat → Nat) (hh : sgH 52 h) (f : sg_F) (L : sg_L) (Q : sg_Q) (hI : sgI loX hiX f) (sz : Nat) : Met l yX4_leaves gwX4_leaves { frames := 2, cells := 0, slots := 0, locals := 45 } (sgP D vwCl (tyX ca) 52 h (eX ca h) zcX za f L Q sz [.ref (h 13)]) (sgQv D vwCl 52 h (eX ca h) sz (fun f1 L1 Q1 => ((sgI loX hiX f1 ∧ sgK WkX4_leaves f f1 ∧ L1 = L ∧ Q1 = Q) ∧ (f1) = sX4_leaves f L))) 0 0 (sgA 52 h sz) := by
  refine sg_ofWv (cc := cX4_leaves) (maxL := 2) RX4 (by decide) rfl rfl (Nat.le_of_ble_eq_true rfl) ?_
  intro p e s m below meth cd Qz ls hx hb hml hown hts hK hZ hP hS hl hret
  have hA := sgY.self (n := 52) (h := h) (sz := s.heap.size)
  have hl : lv_has ls 2 [(0, .ref (h 13))] := hl
  obtain ⟨H, hH⟩ : ∃ z : Heap, z = s.heap := ⟨_, rfl⟩
  obtain ⟨locs, hlo⟩ : ∃ z : List Loc, z = [] := ⟨_, rfl⟩
  have hP : va_P D vwCl (sgw 52 h (eX ca h) f L Q) H := by rw [hH]; exact hP
  have hS : va_S (sgA 52 h s.heap.size) s.heap H locs := by rw [hH, hlo]; exact hS
  suffices hgo : W p l e ({ frames := 2, cells := 0, slots := 0, locals := 45 }) s m ([.ref (h 13)] : List Value).toArray below meth cd H locs 0 0 Qz (F0 m 0 ls []) by rw [hH, hlo] at hgo; exact hgo
  clear hH hlo
  obtain ⟨sp, hsp⟩ : ∃ z : sg_F, z = sX4_leaves f L := ⟨_, rfl⟩
  have hs : sp = sX4_leaves f L := hsp
  have hF : sgK WkX4_leaves f f := sgK.rf
  have loop_2 : ∀ (n_2 : Nat) (y1_2 : Int32) (fp_2 : sg_F) (H : Heap) (locs : List Loc) (ls : Array Slot), sp = sX4_leaves_l2 n_2 y1_2 fp_2 L → 3 - y1_2.toInt < (n_2 : Int) → 0 ≤ y1_2.toInt ∧ y1_2.toInt ≤ 3 → sgI loX hiX fp_2 → sgK WkX4_leaves f fp_2 → va_P D vwCl (sgw 52 h (eX ca h) fp_2 L Q) H → va_S (sgA 52 h s.heap.size) s.heap H locs → lv_has ls 2 [(0, .ref (h 13)), (1, .int y1_2)] → W p l e ({ frames := 2, cells := 0, slots := 0, locals := 45 }) s m ([.ref (h 13)] : List Value).toArray below meth cd H locs 0 0 Qz (F0 m 2 ls []) := by
    intro n_2
    induction n_2 with
    | zero => intro y1_2 fp_2 H locs ls hs hm_2 hy0_2 hI hF hP hS hl; exact absurd hm_2 (by omega)
    | succ n_2 ih_2 =>
      intro y1_2 fp_2 H locs ls hs hm_2 hy0_2 hI hF hP hS hl
      have hs : sp = sX4_leaves_h2 (sX4_leaves_l2 n_2) y1_2 fp_2 L := hs
      refine lv_iload_n hx hb dX4_leaves_2 rfl (lv_at hl 1 rfl) ?_
      refine lv_iconst (v := 3) hx hb dX4_leaves_3 ic_3 ?_
      refine lv_icmp_ge (tgt := 23) hx hb dX4_leaves_4 (by decide) (fun c => ?_) (fun c => ?_)
      · skip
        have c_1 : 3 ≤ y1_2.toInt := (by first | exact (cm_le0 ti_3 c) | (have z := bn_le c; have k1 : (3 : Int32).toInt = 3 := ti_3; omega))
        exact hret _ _ _ _ fp_2 L Q dX4_leaves_23 hP hS ⟨⟨hI, hF, rfl, rfl⟩, (Eq.trans (Eq.symm (hs.trans (((if_neg (Int.not_lt.mpr c_1)).trans rfl)))) hsp)⟩
      · skip
        have c_2 : y1_2.toInt < 3 := (by first | exact (cm_nle0 ti_3 c) | (have z := bn_nle c; have k1 : (3 : Int32).toInt = 3 := ti_3; omega))
        refine lv_aload_n hx hb dX4_leaves_7 rfl (lv_at hl 0 rfl) ?_
        refine lv_iload_n hx hb dX4_leaves_8 rfl (lv_at hl 1 rfl) ?_
        refine lv_aload_n hx hb dX4_leaves_9 rfl (lv_at hl 0 rfl) ?_
        refine sl_gX_13_10_4 (v := (fp_2 13 10)) hx hb hts hown hK hP rfl dX4_leaves_10 ?_
        refine lv_topi (fun v_3 ev_3 => ?_)
        have q_4 : 0 ≤ v_3.toInt ∧ v_3.toInt ≤ 60 := by rw [ev_3]; exact hI 13 10
        refine sg_calli (va_runV (As := [.int y1_2, .int v_3]) (rest := []) ⟨hx, hb, hml, hown, hts⟩ (kX4_turnTo l D ca za h hh fp_2 L Q hI y1_2 v_3 ⟨by omega, by omega⟩ q_4 H.size) (sl_c4_turnTo_1_0_0_21_4 hts ⟨Nat.le_of_ble_eq_true rfl, Nat.le_of_ble_eq_true rfl⟩) (sl_vX_13 hA hK hP hS hZ) rfl rfl hl.1 rfl (lv_room (Nat.le_of_ble_eq_true rfl)) dX4_leaves_13 ⟨Nat.le_refl _, Nat.le_refl _⟩) hA hS (fun r_8 f_5 L_6 Q_7 H locs hq hP hS => ?_)
        obtain ⟨⟨hI, hk_f_5, eL9, eQ9⟩, hq, u_9⟩ := hq
        rw [eL9, eQ9] at hP; clear eL9 eQ9
        have hF : sgK WkX4_leaves f f_5 := sgK.tr hF hk_f_5 (by decide +kernel)
        refine lv_pop hx hb dX4_leaves_16 rfl ?_
        obtain ⟨v_10, ev_10⟩ : ∃ z : Int32, z = y1_2 + 1 := ⟨_, rfl⟩
        have q_11 : v_10.toInt = y1_2.toInt + 1 := by rw [ev_10]; exact (bn_addc y1_2 1 (by decide) (by omega) (by omega))
        refine lv_iinc (v := v_10) (lv' := [(1, .int v_10), (0, .ref (h 13))]) hx hb dX4_leaves_17 hl (k := 1) rfl (by rw [ev_10]; rfl) (by decide) rfl (fun ls hl => ?_)
        refine lv_goto (tgt := 2) hx hb dX4_leaves_20 (by decide) ?_
        exact ih_2 v_10 f_5 _ _ _ (hs.trans (((if_pos c_2).trans (spl_e ev_3 (spl2_e u_9 (spl_e ev_10 rfl)))))) (by omega) ⟨by omega, by omega⟩ hI hF hP hS (lv_sub hl [1, 0] rfl)
  refine lv_iconst (v := 0) hx hb dX4_leaves_0 ic_0 ?_
  refine lv_istore_n (lv' := [(1, .int 0), (0, .ref (h 13))]) hx hb dX4_leaves_1 rfl hl (by decide) rfl (fun ls hl => ?_)
  exact loop_2 4 0 f _ _ _ hs (by have kc0 : (0 : Int32).toInt = 0 := ti_0; omega) (by decide) hI hF hP hS (lv_sub hl [1, 0] rfl)

abbrev WkX4_pass : List (Nat × Nat × Option Nat) := [(8, 8, none), (9, 9, none), (13, 13, some 5), (13, 13, some 6), (14, 14, none), (15, 15, none), (16, 16, none)]
set_option maxHeartbeats 4000000 in
set_option maxRecDepth 100000 in
theorem kX4_pass (l : Launch) (D : va_G) (ca : Nat → ClassId) (za h : Nat → Nat) (hh : sgH 52 h) (f : sg_F) (L : sg_L) (Q : sg_Q) (hI : sgI loX hiX f) (x0 : Int32) (b0 : (-1) ≤ x0.toInt ∧ x0.toInt ≤ 7) (sz : Nat) : Met l yX4_pass gwX4_pass { frames := 5, cells := 0, slots := 0, locals := 127 } (sgP D vwCl (tyX ca) 52 h (eX ca h) zcX za f L Q sz [.ref (h 13), .int x0]) (sgQv D vwCl 52 h (eX ca h) sz (fun f1 L1 Q1 => ((sgI loX hiX f1 ∧ sgK WkX4_pass f f1 ∧ L1 = L ∧ Q1 = Q) ∧ (f1) = sX4_pass x0 f L))) 0 0 (sgA 52 h sz) := by
  refine sg_ofWv (cc := cX4_pass) (maxL := 2) RX4 (by decide) rfl rfl (Nat.le_of_ble_eq_true rfl) ?_
  intro p e s m below meth cd Qz ls hx hb hml hown hts hK hZ hP hS hl hret
  have hA := sgY.self (n := 52) (h := h) (sz := s.heap.size)
  have hl : lv_has ls 2 [(0, .ref (h 13)), (1, .int x0)] := hl
  obtain ⟨H, hH⟩ : ∃ z : Heap, z = s.heap := ⟨_, rfl⟩
  obtain ⟨locs, hlo⟩ : ∃ z : List Loc, z = [] := ⟨_, rfl⟩
  have hP : va_P D vwCl (sgw 52 h (eX ca h) f L Q) H := by rw [hH]; exact hP
  have hS : va_S (sgA 52 h s.heap.size) s.heap H locs := by rw [hH, hlo]; exact hS
  suffices hgo : W p l e ({ frames := 5, cells := 0, slots := 0, locals := 127 }) s m ([.ref (h 13), .int x0] : List Value).toArray below meth cd H locs 0 0 Qz (F0 m 0 ls []) by rw [hH, hlo] at hgo; exact hgo
  clear hH hlo
  obtain ⟨sp, hsp⟩ : ∃ z : sg_F, z = sX4_pass x0 f L := ⟨_, rfl⟩
  have hs : sp = sX4_pass x0 f L := hsp
  have hF : sgK WkX4_pass f f := sgK.rf
  have blk_22 : ∀ (fp_22 : sg_F) (H : Heap) (locs : List Loc) (ls : Array Slot), sp = sX4_pass_b22 x0 fp_22 L → sgI loX hiX fp_22 → sgK WkX4_pass f fp_22 → va_P D vwCl (sgw 52 h (eX ca h) fp_22 L Q) H → va_S (sgA 52 h s.heap.size) s.heap H locs → lv_has ls 2 [(0, .ref (h 13))] → W p l e ({ frames := 5, cells := 0, slots := 0, locals := 127 }) s m ([.ref (h 13), .int x0] : List Value).toArray below meth cd H locs 0 0 Qz (F0 m 22 ls []) := by
    intro fp_22 H locs ls hs hI hF hP hS hl
    refine lv_aload_n hx hb dX4_pass_22 rfl (lv_at hl 0 rfl) ?_
    refine sg_callv (va_runV (As := []) (rest := []) ⟨hx, hb, hml, hown, hts⟩ (kX4_slip l D ca za h hh fp_22 L Q hI H.size) (sl_c4_slip_2_0_0_43_4 hts ⟨Nat.le_of_ble_eq_true rfl, Nat.le_of_ble_eq_true rfl⟩) (sl_vX_13 hA hK hP hS hZ) rfl rfl hl.1 rfl (lv_room (Nat.le_of_ble_eq_true rfl)) dX4_pass_23 ⟨Nat.le_refl _, Nat.le_refl _⟩) hA hS (fun f_1 L_2 Q_3 H locs hq hP hS => ?_)
    obtain ⟨⟨hI, hk_f_1, eL9, eQ9⟩, u_4⟩ := hq
    rw [eL9, eQ9] at hP; clear eL9 eQ9
    have hF : sgK WkX4_pass f f_1 := sgK.tr hF hk_f_1 (by decide +kernel)
    exact hret _ _ _ _ f_1 L Q dX4_pass_26 hP hS ⟨⟨hI, hF, rfl, rfl⟩, (Eq.trans (Eq.symm (hs.trans ((spl_e u_4 rfl)))) hsp)⟩
  refine lv_iload_n hx hb dX4_pass_0 rfl (lv_at hl 1 rfl) ?_
  refine lv_iconst (v := (-1)) hx hb dX4_pass_1 ic_m1 ?_
  refine lv_icmp_eq (tgt := 22) hx hb dX4_pass_2 (by decide) (fun c => ?_) (fun c => ?_)
  · skip
    have c_5 : x0.toInt = (-1) := (by first | exact (cm_eq1 ti_m1 c) | (have z := Int32.toInt_inj.mpr c; have k1 : ((-1) : Int32).toInt = (-1) := ti_m1; omega))
    exact blk_22 f _ _ _ (hs.trans (((if_pos c_5).trans rfl))) hI hF hP hS (lv_sub hl [0] rfl)
  · skip
    have c_6 : x0.toInt ≠ (-1) := (by first | exact (cm_ne1 ti_m1 c) | (have z := bn_ne c; have k1 : ((-1) : Int32).toInt = (-1) := ti_m1; omega))
    refine lv_aload_n hx hb dX4_pass_5 rfl (lv_at hl 0 rfl) ?_
    refine lv_iload_n hx hb dX4_pass_6 rfl (lv_at hl 1 rfl) ?_
    refine sg_callv (va_runV (As := [.int x0]) (rest := []) ⟨hx, hb, hml, hown, hts⟩ (kX4_comes l D ca za h hh f L Q hI x0 ⟨by omega, by omega⟩ H.size) (sl_c4_comes_4_0_0_102_4 hts ⟨Nat.le_of_ble_eq_true rfl, Nat.le_of_ble_eq_true rfl⟩) (sl_vX_13 hA hK hP hS hZ) rfl rfl hl.1 rfl (lv_room (Nat.le_of_ble_eq_true rfl)) dX4_pass_7 ⟨Nat.le_refl _, Nat.le_refl _⟩) hA hS (fun f_7 L_8 Q_9 H locs hq hP hS => ?_)
    obtain ⟨⟨hI, hk_f_7, eL9, eQ9⟩, u_10⟩ := hq
    rw [eL9, eQ9] at hP; clear eL9 eQ9
    have hF : sgK WkX4_pass f f_7 := sgK.tr hF hk_f_7 (by decide +kernel)
    refine lv_iload_n hx hb dX4_pass_10 rfl (lv_at hl 1 rfl) ?_
    refine lv_aload_n hx hb dX4_pass_11 rfl (lv_at hl 0 rfl) ?_
    refine sl_gX_13_9_4 (v := (f_7 13 9)) hx hb hts hown hK hP rfl dX4_pass_12 ?_
    refine lv_topi (fun v_11 ev_11 => ?_)
    replace hs := hs.trans ((if_neg c_6).trans (spl_e u_10 (spl_e ev_11 rfl)))
    have q_12 : (-1) ≤ v_11.toInt ∧ v_11.toInt ≤ 7 := by rw [ev_11]; exact hI 13 9
    refine lv_icmp_ne (tgt := 22) hx hb dX4_pass_15 (by decide) (fun c => ?_) (fun c => ?_)
    · skip
      have c_13 : x0.toInt ≠ v_11.toInt := (by first | exact (bn_ne c) | (have z := bn_ne c; omega))
      exact blk_22 f_7 _ _ _ (hs.trans ((if_neg c_13).trans rfl)) hI hF hP hS (lv_sub hl [0] rfl)
    · skip
      have c_14 : x0.toInt = v_11.toInt := (by first | exact (Int32.toInt_inj.mpr c) | (have z := Int32.toInt_inj.mpr c; omega))
      refine lv_aload_n hx hb dX4_pass_18 rfl (lv_at hl 0 rfl) ?_
      refine sg_callv (va_runV (As := []) (rest := []) ⟨hx, hb, hml, hown, hts⟩ (kX4_leaves l D ca za h hh f_7 L Q hI H.size) (sl_c4_leaves_2_0_0_45_4 hts ⟨Nat.le_of_ble_eq_true rfl, Nat.le_of_ble_eq_true rfl⟩) (sl_vX_13 hA hK hP hS hZ) rfl rfl hl.1 rfl (lv_room (Nat.le_of_ble_eq_true rfl)) dX4_pass_19 ⟨Nat.le_refl _, Nat.le_refl _⟩) hA hS (fun f_15 L_16 Q_17 H locs hq hP hS => ?_)
      obtain ⟨⟨hI, hk_f_15, eL9, eQ9⟩, u_18⟩ := hq
      rw [eL9, eQ9] at hP; clear eL9 eQ9
      have hF : sgK WkX4_pass f f_15 := sgK.tr hF hk_f_15 (by decide +kernel)
      exact blk_22 f_15 _ _ _ (hs.trans ((if_pos c_14).trans (spl_e u_18 rfl))) hI hF hP hS (lv_sub hl [0] rfl)

abbrev WkX4_live : List (Nat × Nat × Option Nat) := [(8, 8, none), (9, 9, none), (13, 13, some 5), (13, 13, some 6), (14, 14, none), (15, 15, none), (16, 16, none)]
set_option maxHeartbeats 4000000 in
set_option maxRecDepth 100000 in
theorem kX4_live (l : Launch) (D : va_G) (ca : Nat → ClassId) (za h : Nat → Nat) (hh : sgH 52 h) (f : sg_F) (L : sg_L) (Q : sg_Q) (hI : sgI loX hiX f) (x0 : Int32) (b0 : 0 ≤ x0.toInt ∧ x0.toInt ≤ 21) (sz : Nat) : Met l yX4_live gwX4_live { frames := 6, cells := 0, slots := 0, locals := 148 } (sgP D vwCl (tyX ca) 52 h (eX ca h) zcX za f L Q sz [.ref (h 13), .int x0]) (sgQv D vwCl 52 h (eX ca h) sz (fun f1 L1 Q1 => ((sgI loX hiX f1 ∧ sgK WkX4_live f f1 ∧ L1 = L ∧ Q1 = Q) ∧ (f1) = sX4_live x0 f L))) 0 0 (sgA 52 h sz) := by
  refine sg_ofWv (cc := cX4_live) (maxL := 3) RX4 (by decide) rfl rfl (Nat.le_of_ble_eq_true rfl) ?_
  intro p e s m below meth cd Qz ls hx hb hml hown hts hK hZ hP hS hl hret
  have hA := sgY.self (n := 52) (h := h) (sz := s.heap.size)
  have hl : lv_has ls 3 [(0, .ref (h 13)), (1, .int x0)] := hl
  obtain ⟨H, hH⟩ : ∃ z : Heap, z = s.heap := ⟨_, rfl⟩
  obtain ⟨locs, hlo⟩ : ∃ z : List Loc, z = [] := ⟨_, rfl⟩
  have hP : va_P D vwCl (sgw 52 h (eX ca h) f L Q) H := by rw [hH]; exact hP
  have hS : va_S (sgA 52 h s.heap.size) s.heap H locs := by rw [hH, hlo]; exact hS
  suffices hgo : W p l e ({ frames := 6, cells := 0, slots := 0, locals := 148 }) s m ([.ref (h 13), .int x0] : List Value).toArray below meth cd H locs 0 0 Qz (F0 m 0 ls []) by rw [hH, hlo] at hgo; exact hgo
  clear hH hlo
  obtain ⟨sp, hsp⟩ : ∃ z : sg_F, z = sX4_live x0 f L := ⟨_, rfl⟩
  have hs : sp = sX4_live x0 f L := hsp
  have hF : sgK WkX4_live f f := sgK.rf
  have loop_6 : ∀ (n_6 : Nat) (y2_6 : Int32) (fp_6 : sg_F) (H : Heap) (locs : List Loc) (ls : Array Slot), sp = sX4_live_l6 x0 n_6 y2_6 fp_6 L → 21 - y2_6.toInt < (n_6 : Int) → 0 ≤ y2_6.toInt ∧ y2_6.toInt ≤ 21 → sgI loX hiX fp_6 → sgK WkX4_live f fp_6 → va_P D vwCl (sgw 52 h (eX ca h) fp_6 L Q) H → va_S (sgA 52 h s.heap.size) s.heap H locs → lv_has ls 3 [(0, .ref (h 13)), (1, .int x0), (2, .int y2_6)] → W p l e ({ frames := 6, cells := 0, slots := 0, locals := 148 }) s m ([.ref (h 13), .int x0] : List Value).toArray below meth cd H locs 0 0 Qz (F0 m 6 ls []) := by
    intro n_6
    induction n_6 with
    | zero => intro y2_6 fp_6 H locs ls hs hm_6 hy0_6 hI hF hP hS hl; exact absurd hm_6 (by omega)
    | succ n_6 ih_6 =>
      intro y2_6 fp_6 H locs ls hs hm_6 hy0_6 hI hF hP hS hl
      have hs : sp = sX4_live_h6 x0 (sX4_live_l6 x0 n_6) y2_6 fp_6 L := hs
      refine lv_iload_n hx hb dX4_live_6 rfl (lv_at hl 2 rfl) ?_
      refine lv_iload_n hx hb dX4_live_7 rfl (lv_at hl 1 rfl) ?_
      refine lv_icmp_ge (tgt := 30) hx hb dX4_live_8 (by decide) (fun c => ?_) (fun c => ?_)
      · skip
        have c_1 : x0.toInt ≤ y2_6.toInt := (by first | exact (bn_le c) | (have z := bn_le c; omega))
        exact hret _ _ _ _ fp_6 L Q dX4_live_30 hP hS ⟨⟨hI, hF, rfl, rfl⟩, (Eq.trans (Eq.symm (hs.trans (((if_neg (Int.not_lt.mpr c_1)).trans rfl)))) hsp)⟩
      · skip
        have c_2 : y2_6.toInt < x0.toInt := (by first | exact (bn_nle c) | (have z := bn_nle c; omega))
        refine lv_aload_n hx hb dX4_live_11 rfl (lv_at hl 0 rfl) ?_
        refine lv_aload_n hx hb dX4_live_12 rfl (lv_at hl 0 rfl) ?_
        refine sl_gX_13_1_4 hx hb hts hown hK hP dX4_live_13 ?_
        refine sl_gX_10_0_4 hx hb hts hown hK hP dX4_live_16 ?_
        refine lv_iload_n hx hb dX4_live_19 rfl (lv_at hl 2 rfl) ?_
        refine sg_iald hx hb hK hP 11 (by decide) 0 rfl rfl (i := y2_6) (vp_in_iff.mpr ⟨by omega, by omega⟩) dX4_live_20 ?_
        refine lv_topi (fun v_3 ev_3 => ?_)
        have q_4 : (-1) ≤ v_3.toInt ∧ v_3.toInt ≤ 7 := by rw [ev_3]; exact hI 11 _
        refine sg_callv (va_runV (As := [.int v_3]) (rest := []) ⟨hx, hb, hml, hown, hts⟩ (kX4_pass l D ca za h hh fp_6 L Q hI v_3 q_4 H.size) (sl_c4_pass_5_0_0_127_4 hts ⟨Nat.le_of_ble_eq_true rfl, Nat.le_of_ble_eq_true rfl⟩) (sl_vX_13 hA hK hP hS hZ) rfl rfl hl.1 rfl (lv_room (Nat.le_of_ble_eq_true rfl)) dX4_live_21 ⟨Nat.le_refl _, Nat.le_refl _⟩) hA hS (fun f_5 L_6 Q_7 H locs hq hP hS => ?_)
        obtain ⟨⟨hI, hk_f_5, eL9, eQ9⟩, u_8⟩ := hq
        rw [eL9, eQ9] at hP; clear eL9 eQ9
        have hF : sgK WkX4_live f f_5 := sgK.tr hF hk_f_5 (by decide +kernel)
        obtain ⟨v_9, ev_9⟩ : ∃ z : Int32, z = y2_6 + 1 := ⟨_, rfl⟩
        have q_10 : v_9.toInt = y2_6.toInt + 1 := by rw [ev_9]; exact (bn_addc y2_6 1 (by decide) (by omega) (by omega))
        refine lv_iinc (v := v_9) (lv' := [(2, .int v_9), (0, .ref (h 13)), (1, .int x0)]) hx hb dX4_live_24 hl (k := 2) rfl (by rw [ev_9]; rfl) (by decide) rfl (fun ls hl => ?_)
        refine lv_goto (tgt := 6) hx hb dX4_live_27 (by decide) ?_
        exact ih_6 v_9 f_5 _ _ _ (hs.trans (((if_pos c_2).trans (spl_e ev_3 (spl_e u_8 (spl_e ev_9 rfl)))))) (by omega) ⟨by omega, by omega⟩ hI hF hP hS (lv_sub hl [1, 2, 0] rfl)
  refine lv_aload_n hx hb dX4_live_0 rfl (lv_at hl 0 rfl) ?_
  refine sg_callv (va_runV (As := []) (rest := []) ⟨hx, hb, hml, hown, hts⟩ (kX4_begin l D ca za h hh f L Q hI H.size) (sl_c4_begin_1_0_0_21_4 hts ⟨Nat.le_of_ble_eq_true rfl, Nat.le_of_ble_eq_true rfl⟩) (sl_vX_13 hA hK hP hS hZ) rfl rfl hl.1 rfl (lv_room (Nat.le_of_ble_eq_true rfl)) dX4_live_1 ⟨Nat.le_refl _, Nat.le_refl _⟩) hA hS (fun f_11 L_12 Q_13 H locs hq hP hS => ?_)
  obtain ⟨⟨hI, hk_f_11, eL9, eQ9⟩, u_14⟩ := hq
  rw [eL9, eQ9] at hP; clear eL9 eQ9
  have hF : sgK WkX4_live f f_11 := sgK.tr hF hk_f_11 (by decide +kernel)
  refine lv_iconst (v := 0) hx hb dX4_live_4 ic_0 ?_
  refine lv_istore_n (lv' := [(2, .int 0), (0, .ref (h 13)), (1, .int x0)]) hx hb dX4_live_5 rfl hl (by decide) rfl (fun ls hl => ?_)
  exact loop_6 22 0 f_11 _ _ _ (hs.trans ((spl_e u_14 rfl))) (by have kc0 : (0 : Int32).toInt = 0 := ti_0; omega) (by decide) hI hF hP hS (lv_sub hl [1, 2, 0] rfl)

set_option maxHeartbeats 4000000 in
set_option maxRecDepth 100000 in
theorem kX4_allTurns (l : Launch) (D : va_G) (ca : Nat → ClassId) (za h : Nat → Nat) (hh : sgH 52 h) (f : sg_F) (L : sg_L) (Q : sg_Q) (hI : sgI loX hiX f) (sz : Nat) : Met l yX4_allTurns gwX4_allTurns { frames := 0, cells := 0, slots := 0, locals := 0 } (sgP D vwCl (tyX ca) 52 h (eX ca h) zcX za f L Q sz [.ref (h 13)]) (sgQi D vwCl 52 h (eX ca h) sz (fun r f1 L1 Q1 => ((f1 = f ∧ L1 = L ∧ Q1 = Q) ∧ True ∧ (r) = sX4_allTurns f L))) 0 0 (sgA 52 h sz) := by
  refine sg_ofWi (cc := cX4_allTurns) (maxL := 3) RX4 (by decide) rfl rfl (Nat.le_of_ble_eq_true rfl) ?_
  intro p e s m below meth cd Qz ls hx hb hml hown hts hK hZ hP hS hl hret
  have hA := sgY.self (n := 52) (h := h) (sz := s.heap.size)
  have hl : lv_has ls 3 [(0, .ref (h 13))] := hl
  obtain ⟨H, hH⟩ : ∃ z : Heap, z = s.heap := ⟨_, rfl⟩
  obtain ⟨locs, hlo⟩ : ∃ z : List Loc, z = [] := ⟨_, rfl⟩
  have hP : va_P D vwCl (sgw 52 h (eX ca h) f L Q) H := by rw [hH]; exact hP
  have hS : va_S (sgA 52 h s.heap.size) s.heap H locs := by rw [hH, hlo]; exact hS
  suffices hgo : W p l e ({ frames := 0, cells := 0, slots := 0, locals := 0 }) s m ([.ref (h 13)] : List Value).toArray below meth cd H locs 0 0 Qz (F0 m 0 ls []) by rw [hH, hlo] at hgo; exact hgo
  clear hH hlo
  obtain ⟨sp, hsp⟩ : ∃ z : Int32, z = sX4_allTurns f L := ⟨_, rfl⟩
  have hs : sp = sX4_allTurns f L := hsp
  have loop_4 : ∀ (n_4 : Nat) (y1_4 : Int32) (y2_4 : Int32) (H : Heap) (locs : List Loc) (ls : Array Slot), sp = sX4_allTurns_l4 n_4 y1_4 y2_4 f L → 3 - y2_4.toInt < (n_4 : Int) → 0 ≤ y2_4.toInt ∧ y2_4.toInt ≤ 3 → va_P D vwCl (sgw 52 h (eX ca h) f L Q) H → va_S (sgA 52 h s.heap.size) s.heap H locs → lv_has ls 3 [(0, .ref (h 13)), (1, .int y1_4), (2, .int y2_4)] → W p l e ({ frames := 0, cells := 0, slots := 0, locals := 0 }) s m ([.ref (h 13)] : List Value).toArray below meth cd H locs 0 0 Qz (F0 m 4 ls []) := by
    intro n_4
    induction n_4 with
    | zero => intro y1_4 y2_4 H locs ls hs hm_4 hy0_4 hP hS hl; exact absurd hm_4 (by omega)
    | succ n_4 ih_4 =>
      intro y1_4 y2_4 H locs ls hs hm_4 hy0_4 hP hS hl
      have hs : sp = sX4_allTurns_h4 (sX4_allTurns_l4 n_4) y1_4 y2_4 f L := hs
      refine lv_iload_n hx hb dX4_allTurns_4 rfl (lv_at hl 2 rfl) ?_
      refine lv_iconst (v := 3) hx hb dX4_allTurns_5 ic_3 ?_
      refine lv_icmp_ge (tgt := 24) hx hb dX4_allTurns_6 (by decide) (fun c => ?_) (fun c => ?_)
      · skip
        have c_1 : 3 ≤ y2_4.toInt := (by first | exact (cm_le0 ti_3 c) | (have z := bn_le c; have k1 : (3 : Int32).toInt = 3 := ti_3; omega))
        refine lv_iload_n hx hb dX4_allTurns_24 rfl (lv_at hl 1 rfl) ?_
        exact hret _ _ _ _ (y1_4) f L Q dX4_allTurns_25 hP hS ⟨⟨rfl, rfl, rfl⟩, trivial, (Eq.trans (Eq.symm (hs.trans (((if_neg (Int.not_lt.mpr c_1)).trans rfl)))) hsp)⟩
      · skip
        have c_2 : y2_4.toInt < 3 := (by first | exact (cm_nle0 ti_3 c) | (have z := bn_nle c; have k1 : (3 : Int32).toInt = 3 := ti_3; omega))
        refine lv_iload_n hx hb dX4_allTurns_9 rfl (lv_at hl 1 rfl) ?_
        refine lv_aload_n hx hb dX4_allTurns_10 rfl (lv_at hl 0 rfl) ?_
        refine sl_gX_13_3_4 hx hb hts hown hK hP dX4_allTurns_11 ?_
        refine lv_iload_n hx hb dX4_allTurns_14 rfl (lv_at hl 2 rfl) ?_
        refine sg_iald hx hb hK hP 15 (by decide) 0 rfl rfl (i := y2_4) (vp_in_iff.mpr ⟨by omega, by omega⟩) dX4_allTurns_15 ?_
        refine lv_topi (fun v_3 ev_3 => ?_)
        refine lv_iadd hx hb dX4_allTurns_16 ?_
        refine lv_topi (fun v_4 ev_4 => ?_)
        refine lv_istore_n (lv' := [(1, .int v_4), (0, .ref (h 13)), (2, .int y2_4)]) hx hb dX4_allTurns_17 rfl hl (by decide) rfl (fun ls hl => ?_)
        obtain ⟨v_5, ev_5⟩ : ∃ z : Int32, z = y2_4 + 1 := ⟨_, rfl⟩
        have q_6 : v_5.toInt = y2_4.toInt + 1 := by rw [ev_5]; exact (bn_addc y2_4 1 (by decide) (by omega) (by omega))
        refine lv_iinc (v := v_5) (lv' := [(2, .int v_5), (1, .int v_4), (0, .ref (h 13))]) hx hb dX4_allTurns_18 hl (k := 2) rfl (by rw [ev_5]; rfl) (by decide) rfl (fun ls hl => ?_)
        refine lv_goto (tgt := 4) hx hb dX4_allTurns_21 (by decide) ?_
        exact ih_4 v_4 v_5 _ _ _ (hs.trans (((if_pos c_2).trans (spl_e ev_3 (spl_e ev_4 (spl_e ev_5 rfl)))))) (by omega) ⟨by omega, by omega⟩ hP hS (lv_sub hl [2, 1, 0] rfl)
  refine lv_iconst (v := 0) hx hb dX4_allTurns_0 ic_0 ?_
  refine lv_istore_n (lv' := [(1, .int 0), (0, .ref (h 13))]) hx hb dX4_allTurns_1 rfl hl (by decide) rfl (fun ls hl => ?_)
  refine lv_iconst (v := 0) hx hb dX4_allTurns_2 ic_0 ?_
  refine lv_istore_n (lv' := [(2, .int 0), (1, .int 0), (0, .ref (h 13))]) hx hb dX4_allTurns_3 rfl hl (by decide) rfl (fun ls hl => ?_)
  exact loop_4 4 0 0 _ _ _ hs (by have kc0 : (0 : Int32).toInt = 0 := ti_0; have kc1 : (0 : Int32).toInt = 0 := ti_0; omega) (by decide) hP hS (lv_sub hl [2, 1, 0] rfl)

abbrev WkX11_week : List (Nat × Nat × Option Nat) := [(8, 8, none), (9, 9, none), (10, 10, some 2), (10, 10, some 3), (11, 11, none), (12, 12, none), (13, 13, some 5), (13, 13, some 6), (14, 14, none), (15, 15, none), (16, 16, none)]
set_option maxHeartbeats 4000000 in
set_option maxRecDepth 100000 in
theorem kX11_week (l : Launch) (D : va_G) (ca : Nat → ClassId) (za h : Nat → Nat) (hh : sgH 52 h) (f : sg_F) (L : sg_L) (Q : sg_Q) (hI : sgI loX hiX f) (x0 : Int32) (x1 : Int32) (sz : Nat) : Met l yX11_week gwX11_week { frames := 7, cells := 0, slots := 0, locals := 170 } (sgP D vwCl (tyX ca) 52 h (eX ca h) zcX za f L Q sz [.ref (h 0), .int x0, .int x1]) (sgQi D vwCl 52 h (eX ca h) sz (fun r f1 L1 Q1 => ((sgI loX hiX f1 ∧ sgK WkX11_week f f1 ∧ L1 = L ∧ Q1 = Q) ∧ True ∧ (r, f1) = sX11_week x0 x1 f L))) 0 0 (sgA 52 h sz) := by
  refine sg_ofWi (cc := cX11_week) (maxL := 4) RX11 (by decide) rfl rfl (Nat.le_of_ble_eq_true rfl) ?_
  intro p e s m below meth cd Qz ls hx hb hml hown hts hK hZ hP hS hl hret
  have hA := sgY.self (n := 52) (h := h) (sz := s.heap.size)
  have hl : lv_has ls 4 [(0, .ref (h 0)), (1, .int x0), (2, .int x1)] := hl
  obtain ⟨H, hH⟩ : ∃ z : Heap, z = s.heap := ⟨_, rfl⟩
  obtain ⟨locs, hlo⟩ : ∃ z : List Loc, z = [] := ⟨_, rfl⟩
  have hP : va_P D vwCl (sgw 52 h (eX ca h) f L Q) H := by rw [hH]; exact hP
  have hS : va_S (sgA 52 h s.heap.size) s.heap H locs := by rw [hH, hlo]; exact hS
  suffices hgo : W p l e ({ frames := 7, cells := 0, slots := 0, locals := 170 }) s m ([.ref (h 0), .int x0, .int x1] : List Value).toArray below meth cd H locs 0 0 Qz (F0 m 0 ls []) by rw [hH, hlo] at hgo; exact hgo
  clear hH hlo
  obtain ⟨sp, hsp⟩ : ∃ z : Int32 × sg_F, z = sX11_week x0 x1 f L := ⟨_, rfl⟩
  have hs : sp = sX11_week x0 x1 f L := hsp
  have hF : sgK WkX11_week f f := sgK.rf
  refine lv_iload_n hx hb dX11_week_0 rfl (lv_at hl 1 rfl) ?_
  refine sg_calli (va_runS (As := [.int x0]) (rest := []) ⟨hx, hb, hml, hown, hts⟩ (kX11_isShelf l D ca za h hh f L Q hI x0 H.size) (va_cwS 1 hts (gw_S (fun _ h => List.mem_cons_of_mem _ h) mw_35 mw_36 mw_37 mw_34) rfl rfl rfl hd_yX11_isShelf.2 ⟨Nat.le_of_ble_eq_true rfl, Nat.le_of_ble_eq_true rfl⟩) (sg_preS hA hK hP hS hZ) rfl rfl hl.1 rfl (lv_room (Nat.le_of_ble_eq_true rfl)) dX11_week_1 ⟨Nat.le_refl _, Nat.le_refl _⟩) hA hS (fun r_4 f_1 L_2 Q_3 H locs hq hP hS => ?_)
  obtain ⟨⟨ef9, eL9, eQ9⟩, hq, u_5⟩ := hq
  replace hs := hs.trans (spl_e u_5 rfl)
  rw [ef9, eL9, eQ9] at hP; clear ef9 eL9 eQ9
  rcases hq with ⟨rfl, hq⟩ | ⟨rfl, hq⟩
  · skip
    have hc_6 := hq
    refine lv_if_eq (tgt := 16) hx hb dX11_week_4 (by decide) (fun c => absurd c (by decide)) (fun c => ?_)
    refine lv_iload_n hx hb dX11_week_7 rfl (lv_at hl 2 rfl) ?_
    refine lv_if_lt (tgt := 16) hx hb dX11_week_8 (by decide) (fun c => ?_) (fun c => ?_)
    · skip
      have c_7 : x1.toInt < 0 := (by first | exact (cm_lt1 ti_0 c) | (have z := bn_lt c; have k1 : (0 : Int32).toInt = 0 := ti_0; omega))
      refine lv_iconst (v := (-1)) hx hb dX11_week_16 ic_m1 ?_
      have k99 : ((-1) : Int32).toInt = (-1) := ti_m1
      exact hret _ _ _ _ (-1) f L Q dX11_week_17 hP hS ⟨⟨hI, hF, rfl, rfl⟩, trivial, (Eq.trans (Eq.symm (hs.trans ((if_pos rfl).trans ((if_pos c_7).trans rfl)))) hsp)⟩
    · skip
      have c_8 : 0 ≤ x1.toInt := (by first | exact (cm_nlt1 ti_0 c) | (have z := bn_nlt c; have k1 : (0 : Int32).toInt = 0 := ti_0; omega))
      replace hs := hs.trans ((if_pos rfl).trans ((if_neg (Int.not_lt.mpr c_8)).trans rfl))
      refine lv_iload_n hx hb dX11_week_11 rfl (lv_at hl 2 rfl) ?_
      refine lv_iconst (v := 2) hx hb dX11_week_12 ic_2 ?_
      refine lv_icmp_le (tgt := 18) hx hb dX11_week_13 (by decide) (fun c => ?_) (fun c => ?_)
      · skip
        have c_9 : x1.toInt ≤ 2 := (by first | exact (cm_le1 ti_2 c) | (have z := bn_le c; have k1 : (2 : Int32).toInt = 2 := ti_2; omega))
        refine lv_aload_n hx hb dX11_week_18 rfl (lv_at hl 0 rfl) ?_
        refine lv_iload_n hx hb dX11_week_19 rfl (lv_at hl 1 rfl) ?_
        refine sg_calli (va_runV (As := [.int x0]) (rest := []) ⟨hx, hb, hml, hown, hts⟩ (kX11_readWeek l D ca za h hh f L Q hI x0 ⟨by omega, by omega⟩ H.size) (sl_c11_readWeek_2_0_0_45_11 hts ⟨Nat.le_of_ble_eq_true rfl, Nat.le_of_ble_eq_true rfl⟩) (sl_vX_0 hA hK hP hS hZ) rfl rfl hl.1 rfl (lv_room (Nat.le_of_ble_eq_true rfl)) dX11_week_20 ⟨Nat.le_refl _, Nat.le_refl _⟩) hA hS (fun r_14 f_11 L_12 Q_13 H locs hq hP hS => ?_)
        obtain ⟨⟨hI, hk_f_11, eL9, eQ9⟩, hq, u_15⟩ := hq
        replace hs := hs.trans ((if_neg (Int.not_lt.mpr c_9)).trans (spl2_e u_15 rfl))
        rw [eL9, eQ9] at hP; clear eL9 eQ9
        have hF : sgK WkX11_week f f_11 := sgK.tr hF hk_f_11 (by decide +kernel)
        refine lv_istore_n (lv' := [(3, .int r_14), (0, .ref (h 0)), (1, .int x0), (2, .int x1)]) hx hb dX11_week_23 rfl hl (by decide) rfl (fun ls hl => ?_)
        refine lv_iload_n hx hb dX11_week_24 rfl (lv_at hl 0 rfl) ?_
        refine lv_if_eq (tgt := 30) hx hb dX11_week_25 (by decide) (fun c => ?_) (fun c => ?_)
        · skip
          have c_16 : r_14.toInt = 0 := (by first | exact (cm_eq1 ti_0 c) | (have z := Int32.toInt_inj.mpr c; have k1 : (0 : Int32).toInt = 0 := ti_0; omega))
          refine lv_aload_n hx hb dX11_week_30 rfl (lv_at hl 1 rfl) ?_
          refine sl_gX_0_2_11 hx hb hts hown hK hP dX11_week_31 ?_
          refine lv_aload_n hx hb dX11_week_34 rfl (lv_at hl 1 rfl) ?_
          refine sl_gX_0_1_11 hx hb hts hown hK hP dX11_week_35 ?_
          refine sl_gX_10_2_11 (v := (f_11 10 2)) hx hb hts hown hK hP rfl dX11_week_38 ?_
          refine lv_topi (fun v_18 ev_18 => ?_)
          have q_19 : 0 ≤ v_18.toInt ∧ v_18.toInt ≤ 21 := by rw [ev_18]; exact hI 10 2
          refine sg_callv (va_runV (As := [.int v_18]) (rest := []) ⟨hx, hb, hml, hown, hts⟩ (kX4_live l D ca za h hh f_11 L Q hI v_18 q_19 H.size) (sl_c4_live_6_0_0_148_11 hts ⟨Nat.le_of_ble_eq_true rfl, Nat.le_of_ble_eq_true rfl⟩) (sl_vX_13 hA hK hP hS hZ) rfl rfl hl.1 rfl (lv_room (Nat.le_of_ble_eq_true rfl)) dX11_week_41 ⟨Nat.le_refl _, Nat.le_refl _⟩) hA hS (fun f_20 L_21 Q_22 H locs hq hP hS => ?_)
          obtain ⟨⟨hI, hk_f_20, eL9, eQ9⟩, u_23⟩ := hq
          replace hs := hs.trans ((if_pos c_16).trans (spl_e ev_18 (spl_e u_23 rfl)))
          rw [eL9, eQ9] at hP; clear eL9 eQ9
          have hF : sgK WkX11_week f f_20 := sgK.tr hF hk_f_20 (by decide +kernel)
          refine lv_iload_n hx hb dX11_week_44 rfl (lv_at hl 3 rfl) ?_
          refine lv_if_ne (tgt := 56) hx hb dX11_week_45 (by decide) (fun c => ?_) (fun c => ?_)
          · skip
            have c_24 : x1.toInt ≠ 0 := (by first | exact (cm_ne1 ti_0 c) | (have z := bn_ne c; have k1 : (0 : Int32).toInt = 0 := ti_0; omega))
            replace hs := hs.trans ((if_neg c_24).trans rfl)
            refine lv_iload_n hx hb dX11_week_56 rfl (lv_at hl 3 rfl) ?_
            refine lv_iconst (v := 1) hx hb dX11_week_57 ic_1 ?_
            refine lv_icmp_ne (tgt := 71) hx hb dX11_week_58 (by decide) (fun c => ?_) (fun c => ?_)
            · skip
              have c_26 : x1.toInt ≠ 1 := (by first | exact (cm_ne1 ti_1 c) | (have z := bn_ne c; have k1 : (1 : Int32).toInt = 1 := ti_1; omega))
              refine lv_aload_n hx hb dX11_week_71 rfl (lv_at hl 1 rfl) ?_
              refine sl_gX_0_2_11 hx hb hts hown hK hP dX11_week_72 ?_
              refine sl_gX_13_6_11 (v := (f_20 13 6)) hx hb hts hown hK hP rfl dX11_week_75 ?_
              refine lv_topi (fun v_28 ev_28 => ?_)
              exact hret _ _ _ _ (v_28) f_20 L Q dX11_week_78 hP hS ⟨⟨hI, hF, rfl, rfl⟩, trivial, (Eq.trans (Eq.symm (hs.trans ((if_neg c_26).trans (spl_e ev_28 rfl)))) hsp)⟩
            · skip
              have c_27 : x1.toInt = 1 := (by first | exact (cm_eq1 ti_1 c) | (have z := Int32.toInt_inj.mpr c; have k1 : (1 : Int32).toInt = 1 := ti_1; omega))
              refine lv_aload_n hx hb dX11_week_61 rfl (lv_at hl 1 rfl) ?_
              refine sl_gX_0_2_11 hx hb hts hown hK hP dX11_week_62 ?_
              refine sl_gX_13_5_11 (v := (f_20 13 5)) hx hb hts hown hK hP rfl dX11_week_65 ?_
              refine lv_topi (fun v_29 ev_29 => ?_)
              refine lv_goto (tgt := 78) hx hb dX11_week_68 (by decide) ?_
              exact hret _ _ _ _ (v_29) f_20 L Q dX11_week_78 hP hS ⟨⟨hI, hF, rfl, rfl⟩, trivial, (Eq.trans (Eq.symm (hs.trans ((if_pos c_27).trans (spl_e ev_29 rfl)))) hsp)⟩
          · skip
            have c_25 : x1.toInt = 0 := (by first | exact (cm_eq1 ti_0 c) | (have z := Int32.toInt_inj.mpr c; have k1 : (0 : Int32).toInt = 0 := ti_0; omega))
            refine lv_aload_n hx hb dX11_week_48 rfl (lv_at hl 1 rfl) ?_
            refine sl_gX_0_2_11 hx hb hts hown hK hP dX11_week_49 ?_
            refine sg_calli (va_runV (As := []) (rest := []) ⟨hx, hb, hml, hown, hts⟩ (kX4_allTurns l D ca za h hh f_20 L Q hI H.size) (sl_c4_allTurns_0_0_0_0_11 hts ⟨Nat.le_of_ble_eq_true rfl, Nat.le_of_ble_eq_true rfl⟩) (sl_vX_13 hA hK hP hS hZ) rfl rfl hl.1 rfl (lv_room (Nat.le_of_ble_eq_true rfl)) dX11_week_52 ⟨Nat.le_refl _, Nat.le_refl _⟩) hA hS (fun r_33 f_30 L_31 Q_32 H locs hq hP hS => ?_)
            obtain ⟨⟨ef9, eL9, eQ9⟩, hq, u_34⟩ := hq
            rw [ef9, eL9, eQ9] at hP; clear ef9 eL9 eQ9
            exact hret _ _ _ _ (r_33) f_20 L Q dX11_week_55 hP hS ⟨⟨hI, hF, rfl, rfl⟩, trivial, (Eq.trans (Eq.symm (hs.trans ((if_pos c_25).trans (spl_e u_34 rfl)))) hsp)⟩
        · skip
          have c_17 : r_14.toInt ≠ 0 := (by first | exact (cm_ne1 ti_0 c) | (have z := bn_ne c; have k1 : (0 : Int32).toInt = 0 := ti_0; omega))
          refine lv_iload_n hx hb dX11_week_28 rfl (lv_at hl 0 rfl) ?_
          exact hret _ _ _ _ (r_14) f_11 L Q dX11_week_29 hP hS ⟨⟨hI, hF, rfl, rfl⟩, trivial, (Eq.trans (Eq.symm (hs.trans ((if_neg c_17).trans rfl))) hsp)⟩
      · skip
        have c_10 : 2 < x1.toInt := (by first | exact (cm_nle1 ti_2 c) | (have z := bn_nle c; have k1 : (2 : Int32).toInt = 2 := ti_2; omega))
        refine lv_iconst (v := (-1)) hx hb dX11_week_16 ic_m1 ?_
        have k99 : ((-1) : Int32).toInt = (-1) := ti_m1
        exact hret _ _ _ _ (-1) f L Q dX11_week_17 hP hS ⟨⟨hI, hF, rfl, rfl⟩, trivial, (Eq.trans (Eq.symm (hs.trans ((if_pos c_10).trans rfl))) hsp)⟩
  · skip
    have hc_6 := hq
    refine lv_if_eq (tgt := 16) hx hb dX11_week_4 (by decide) (fun c => ?_) (fun c => absurd c (by decide))
    refine lv_iconst (v := (-1)) hx hb dX11_week_16 ic_m1 ?_
    have k99 : ((-1) : Int32).toInt = (-1) := ti_m1
    exact hret _ _ _ _ (-1) f L Q dX11_week_17 hP hS ⟨⟨hI, hF, rfl, rfl⟩, trivial, (Eq.trans (Eq.symm (hs.trans ((if_neg (by decide)).trans rfl))) hsp)⟩

abbrev WkX11_stands : List (Nat × Nat × Option Nat) := [(8, 8, none), (9, 9, none), (10, 10, some 2), (10, 10, some 3), (11, 11, none), (12, 12, none), (13, 13, some 5), (13, 13, some 6), (14, 14, none), (15, 15, none), (16, 16, none)]
set_option maxHeartbeats 4000000 in
set_option maxRecDepth 100000 in
theorem kX11_stands (l : Launch) (D : va_G) (ca : Nat → ClassId) (za h : Nat → Nat) (hh : sgH 52 h) (f : sg_F) (L : sg_L) (Q : sg_Q) (hI : sgI loX hiX f) (x0 : Int32) (x1 : Int32) (x2 : Int32) (sz : Nat) : Met l yX11_stands gwX11_stands { frames := 7, cells := 0, slots := 0, locals := 170 } (sgP D vwCl (tyX ca) 52 h (eX ca h) zcX za f L Q sz [.ref (h 0), .int x0, .int x1, .int x2]) (sgQi D vwCl 52 h (eX ca h) sz (fun r f1 L1 Q1 => ((sgI loX hiX f1 ∧ sgK WkX11_stands f f1 ∧ L1 = L ∧ Q1 = Q) ∧ ((-12) ≤ r.toInt ∧ r.toInt ≤ 60) ∧ (r, f1) = sX11_stands x0 x1 x2 f L))) 0 0 (sgA 52 h sz) := by
  refine sg_ofWi (cc := cX11_stands) (maxL := 5) RX11 (by decide) rfl rfl (Nat.le_of_ble_eq_true rfl) ?_
  intro p e s m below meth cd Qz ls hx hb hml hown hts hK hZ hP hS hl hret
  have hA := sgY.self (n := 52) (h := h) (sz := s.heap.size)
  have hl : lv_has ls 5 [(0, .ref (h 0)), (1, .int x0), (2, .int x1), (3, .int x2)] := hl
  obtain ⟨H, hH⟩ : ∃ z : Heap, z = s.heap := ⟨_, rfl⟩
  obtain ⟨locs, hlo⟩ : ∃ z : List Loc, z = [] := ⟨_, rfl⟩
  have hP : va_P D vwCl (sgw 52 h (eX ca h) f L Q) H := by rw [hH]; exact hP
  have hS : va_S (sgA 52 h s.heap.size) s.heap H locs := by rw [hH, hlo]; exact hS
  suffices hgo : W p l e ({ frames := 7, cells := 0, slots := 0, locals := 170 }) s m ([.ref (h 0), .int x0, .int x1, .int x2] : List Value).toArray below meth cd H locs 0 0 Qz (F0 m 0 ls []) by rw [hH, hlo] at hgo; exact hgo
  clear hH hlo
  obtain ⟨sp, hsp⟩ : ∃ z : Int32 × sg_F, z = sX11_stands x0 x1 x2 f L := ⟨_, rfl⟩
  have hs : sp = sX11_stands x0 x1 x2 f L := hsp
  have hF : sgK WkX11_stands f f := sgK.rf
  refine lv_iload_n hx hb dX11_stands_0 rfl (lv_at hl 1 rfl) ?_
  refine sg_calli (va_runS (As := [.int x0]) (rest := []) ⟨hx, hb, hml, hown, hts⟩ (kX11_isShelf l D ca za h hh f L Q hI x0 H.size) (va_cwS 1 hts (gw_S (fun _ h => List.mem_cons_of_mem _ h) mw_35 mw_36 mw_37 mw_34) rfl rfl rfl hd_yX11_isShelf.2 ⟨Nat.le_of_ble_eq_true rfl, Nat.le_of_ble_eq_true rfl⟩) (sg_preS hA hK hP hS hZ) rfl rfl hl.1 rfl (lv_room (Nat.le_of_ble_eq_true rfl)) dX11_stands_1 ⟨Nat.le_refl _, Nat.le_refl _⟩) hA hS (fun r_4 f_1 L_2 Q_3 H locs hq hP hS => ?_)
  obtain ⟨⟨ef9, eL9, eQ9⟩, hq, u_5⟩ := hq
  replace hs := hs.trans (spl_e u_5 rfl)
  rw [ef9, eL9, eQ9] at hP; clear ef9 eL9 eQ9
  rcases hq with ⟨rfl, hq⟩ | ⟨rfl, hq⟩
  · skip
    have hc_6 := hq
    refine lv_if_eq (tgt := 18) hx hb dX11_stands_4 (by decide) (fun c => absurd c (by decide)) (fun c => ?_)
    refine lv_iload_n hx hb dX11_stands_7 rfl (lv_at hl 2 rfl) ?_
    refine sg_calli (va_runS (As := [.int x1]) (rest := []) ⟨hx, hb, hml, hown, hts⟩ (kX11_isPart l D ca za h hh f L Q hI x1 H.size) (va_cwS 1 hts (gw_S (fun _ h => List.mem_cons_of_mem _ h) mw_58 mw_59 mw_37 mw_57) rfl rfl rfl hd_yX11_isPart.2 ⟨Nat.le_of_ble_eq_true rfl, Nat.le_of_ble_eq_true rfl⟩) (sg_preS hA hK hP hS hZ) rfl rfl hl.1 rfl (lv_room (Nat.le_of_ble_eq_true rfl)) dX11_stands_8 ⟨Nat.le_refl _, Nat.le_refl _⟩) hA hS (fun r_10 f_7 L_8 Q_9 H locs hq hP hS => ?_)
    obtain ⟨⟨ef9, eL9, eQ9⟩, hq, u_11⟩ := hq
    replace hs := hs.trans ((if_pos rfl).trans (spl_e u_11 rfl))
    rw [ef9, eL9, eQ9] at hP; clear ef9 eL9 eQ9
    rcases hq with ⟨rfl, hq⟩ | ⟨rfl, hq⟩
    · skip
      have hc_12 := hq
      refine lv_if_eq (tgt := 18) hx hb dX11_stands_11 (by decide) (fun c => absurd c (by decide)) (fun c => ?_)
      refine lv_iload_n hx hb dX11_stands_14 rfl (lv_at hl 3 rfl) ?_
      refine lv_if_ge (tgt := 20) hx hb dX11_stands_15 (by decide) (fun c => ?_) (fun c => ?_)
      · skip
        have c_13 : 0 ≤ x2.toInt := (by first | exact (cm_le0 ti_0 c) | (have z := bn_le c; have k1 : (0 : Int32).toInt = 0 := ti_0; omega))
        refine lv_aload_n hx hb dX11_stands_20 rfl (lv_at hl 0 rfl) ?_
        refine lv_iload_n hx hb dX11_stands_21 rfl (lv_at hl 1 rfl) ?_
        refine sg_calli (va_runV (As := [.int x0]) (rest := []) ⟨hx, hb, hml, hown, hts⟩ (kX11_readWeek l D ca za h hh f L Q hI x0 ⟨by omega, by omega⟩ H.size) (sl_c11_readWeek_2_0_0_45_11 hts ⟨Nat.le_of_ble_eq_true rfl, Nat.le_of_ble_eq_true rfl⟩) (sl_vX_0 hA hK hP hS hZ) rfl rfl hl.1 rfl (lv_room (Nat.le_of_ble_eq_true rfl)) dX11_stands_22 ⟨Nat.le_refl _, Nat.le_refl _⟩) hA hS (fun r_18 f_15 L_16 Q_17 H locs hq hP hS => ?_)
        obtain ⟨⟨hI, hk_f_15, eL9, eQ9⟩, hq, u_19⟩ := hq
        replace hs := hs.trans ((if_pos rfl).trans ((if_neg (Int.not_lt.mpr c_13)).trans (spl2_e u_19 rfl)))
        rw [eL9, eQ9] at hP; clear eL9 eQ9
        have hF : sgK WkX11_stands f f_15 := sgK.tr hF hk_f_15 (by decide +kernel)
        refine lv_istore (lv' := [(4, .int r_18), (0, .ref (h 0)), (1, .int x0), (2, .int x1), (3, .int x2)]) hx hb dX11_stands_25 hl (by decide) rfl (fun ls hl => ?_)
        refine lv_iload hx hb dX11_stands_27 (lv_at hl 0 rfl) ?_
        refine lv_if_eq (tgt := 35) hx hb dX11_stands_29 (by decide) (fun c => ?_) (fun c => ?_)
        · skip
          have c_20 : r_18.toInt = 0 := (by first | exact (cm_eq1 ti_0 c) | (have z := Int32.toInt_inj.mpr c; have k1 : (0 : Int32).toInt = 0 := ti_0; omega))
          refine lv_iload_n hx hb dX11_stands_35 rfl (lv_at hl 4 rfl) ?_
          refine lv_aload_n hx hb dX11_stands_36 rfl (lv_at hl 1 rfl) ?_
          refine sl_gX_0_1_11 hx hb hts hown hK hP dX11_stands_37 ?_
          refine sl_gX_10_2_11 (v := (f_15 10 2)) hx hb hts hown hK hP rfl dX11_stands_40 ?_
          refine lv_topi (fun v_22 ev_22 => ?_)
          replace hs := hs.trans ((if_pos c_20).trans (spl_e ev_22 rfl))
          have q_23 : 0 ≤ v_22.toInt ∧ v_22.toInt ≤ 21 := by rw [ev_22]; exact hI 10 2
          refine lv_icmp_le (tgt := 48) hx hb dX11_stands_43 (by decide) (fun c => ?_) (fun c => ?_)
          · skip
            have c_24 : x2.toInt ≤ v_22.toInt := (by first | exact (bn_le c) | (have z := bn_le c; omega))
            refine lv_aload_n hx hb dX11_stands_48 rfl (lv_at hl 1 rfl) ?_
            refine sl_gX_0_2_11 hx hb hts hown hK hP dX11_stands_49 ?_
            refine lv_iload_n hx hb dX11_stands_52 rfl (lv_at hl 4 rfl) ?_
            refine sg_callv (va_runV (As := [.int x2]) (rest := []) ⟨hx, hb, hml, hown, hts⟩ (kX4_live l D ca za h hh f_15 L Q hI x2 ⟨by omega, by omega⟩ H.size) (sl_c4_live_6_0_0_148_11 hts ⟨Nat.le_of_ble_eq_true rfl, Nat.le_of_ble_eq_true rfl⟩) (sl_vX_13 hA hK hP hS hZ) rfl rfl hl.1 rfl (lv_room (Nat.le_of_ble_eq_true rfl)) dX11_stands_53 ⟨Nat.le_refl _, Nat.le_refl _⟩) hA hS (fun f_26 L_27 Q_28 H locs hq hP hS => ?_)
            obtain ⟨⟨hI, hk_f_26, eL9, eQ9⟩, u_29⟩ := hq
            rw [eL9, eQ9] at hP; clear eL9 eQ9
            have hF : sgK WkX11_stands f f_26 := sgK.tr hF hk_f_26 (by decide +kernel)
            refine lv_aload_n hx hb dX11_stands_56 rfl (lv_at hl 1 rfl) ?_
            refine sl_gX_0_2_11 hx hb hts hown hK hP dX11_stands_57 ?_
            refine sl_gX_13_2_11 hx hb hts hown hK hP dX11_stands_60 ?_
            refine lv_iload_n hx hb dX11_stands_63 rfl (lv_at hl 3 rfl) ?_
            refine sg_iald hx hb hK hP 14 (by decide) 0 rfl rfl (i := x1) (vp_in_iff.mpr ⟨by omega, by omega⟩) dX11_stands_64 ?_
            refine lv_topi (fun v_30 ev_30 => ?_)
            have q_31 : 0 ≤ v_30.toInt ∧ v_30.toInt ≤ 60 := by rw [ev_30]; exact hI 14 _
            exact hret _ _ _ _ (v_30) f_26 L Q dX11_stands_65 hP hS ⟨⟨hI, hF, rfl, rfl⟩, ⟨by omega, by omega⟩, (Eq.trans (Eq.symm (hs.trans ((if_neg (Int.not_lt.mpr c_24)).trans (spl_e u_29 (spl_e ev_30 rfl))))) hsp)⟩
          · skip
            have c_25 : v_22.toInt < x2.toInt := (by first | exact (bn_nle c) | (have z := bn_nle c; omega))
            refine lv_iconst (v := (-1)) hx hb dX11_stands_46 ic_m1 ?_
            have k99 : ((-1) : Int32).toInt = (-1) := ti_m1
            exact hret _ _ _ _ (-1) f_15 L Q dX11_stands_47 hP hS ⟨⟨hI, hF, rfl, rfl⟩, (by decide), (Eq.trans (Eq.symm (hs.trans ((if_pos c_25).trans rfl))) hsp)⟩
        · skip
          have c_21 : r_18.toInt ≠ 0 := (by first | exact (cm_ne1 ti_0 c) | (have z := bn_ne c; have k1 : (0 : Int32).toInt = 0 := ti_0; omega))
          refine lv_iload hx hb dX11_stands_32 (lv_at hl 0 rfl) ?_
          exact hret _ _ _ _ (r_18) f_15 L Q dX11_stands_34 hP hS ⟨⟨hI, hF, rfl, rfl⟩, ⟨by omega, by omega⟩, (Eq.trans (Eq.symm (hs.trans ((if_neg c_21).trans rfl))) hsp)⟩
      · skip
        have c_14 : x2.toInt < 0 := (by first | exact (cm_nle0 ti_0 c) | (have z := bn_nle c; have k1 : (0 : Int32).toInt = 0 := ti_0; omega))
        refine lv_iconst (v := (-1)) hx hb dX11_stands_18 ic_m1 ?_
        have k99 : ((-1) : Int32).toInt = (-1) := ti_m1
        exact hret _ _ _ _ (-1) f L Q dX11_stands_19 hP hS ⟨⟨hI, hF, rfl, rfl⟩, (by decide), (Eq.trans (Eq.symm (hs.trans ((if_pos rfl).trans ((if_pos c_14).trans rfl)))) hsp)⟩
    · skip
      have hc_12 := hq
      refine lv_if_eq (tgt := 18) hx hb dX11_stands_11 (by decide) (fun c => ?_) (fun c => absurd c (by decide))
      refine lv_iconst (v := (-1)) hx hb dX11_stands_18 ic_m1 ?_
      have k99 : ((-1) : Int32).toInt = (-1) := ti_m1
      exact hret _ _ _ _ (-1) f L Q dX11_stands_19 hP hS ⟨⟨hI, hF, rfl, rfl⟩, (by decide), (Eq.trans (Eq.symm (hs.trans ((if_neg (by decide)).trans rfl))) hsp)⟩
  · skip
    have hc_6 := hq
    refine lv_if_eq (tgt := 18) hx hb dX11_stands_4 (by decide) (fun c => ?_) (fun c => absurd c (by decide))
    refine lv_iconst (v := (-1)) hx hb dX11_stands_18 ic_m1 ?_
    have k99 : ((-1) : Int32).toInt = (-1) := ti_m1
    exact hret _ _ _ _ (-1) f L Q dX11_stands_19 hP hS ⟨⟨hI, hF, rfl, rfl⟩, (by decide), (Eq.trans (Eq.symm (hs.trans ((if_neg (by decide)).trans rfl))) hsp)⟩

abbrev WkX4_bestNear : List (Nat × Nat × Option Nat) := [(8, 8, none), (9, 9, none), (13, 13, some 5), (13, 13, some 6), (13, 13, some 7), (13, 13, some 8), (14, 14, none), (15, 15, none), (16, 16, none)]
set_option maxHeartbeats 4000000 in
set_option maxRecDepth 100000 in
theorem kX4_bestNear (l : Launch) (D : va_G) (ca : Nat → ClassId) (za h : Nat → Nat) (hh : sgH 52 h) (f : sg_F) (L : sg_L) (Q : sg_Q) (hI : sgI loX hiX f) (x0 : Int32) (x1 : Int32) (b0 : 0 ≤ x0.toInt ∧ x0.toInt ≤ 7) (b1 : 0 ≤ x1.toInt ∧ x1.toInt ≤ 1) (sz : Nat) : Met l yX4_bestNear gwX4_bestNear { frames := 7, cells := 0, slots := 0, locals := 170 } (sgP D vwCl (tyX ca) 52 h (eX ca h) zcX za f L Q sz [.ref (h 13), .int x0, .int x1]) (sgQi D vwCl 52 h (eX ca h) sz (fun r f1 L1 Q1 => ((sgI loX hiX f1 ∧ sgK WkX4_bestNear f f1 ∧ L1 = L ∧ Q1 = Q) ∧ True ∧ (r, f1) = sX4_bestNear x0 x1 f L))) 0 0 (sgA 52 h sz) := by
  refine sg_ofWi (cc := cX4_bestNear) (maxL := 6) RX4 (by decide) rfl rfl (Nat.le_of_ble_eq_true rfl) ?_
  intro p e s m below meth cd Qz ls hx hb hml hown hts hK hZ hP hS hl hret
  have hA := sgY.self (n := 52) (h := h) (sz := s.heap.size)
  have hl : lv_has ls 6 [(0, .ref (h 13)), (1, .int x0), (2, .int x1)] := hl
  obtain ⟨H, hH⟩ : ∃ z : Heap, z = s.heap := ⟨_, rfl⟩
  obtain ⟨locs, hlo⟩ : ∃ z : List Loc, z = [] := ⟨_, rfl⟩
  have hP : va_P D vwCl (sgw 52 h (eX ca h) f L Q) H := by rw [hH]; exact hP
  have hS : va_S (sgA 52 h s.heap.size) s.heap H locs := by rw [hH, hlo]; exact hS
  suffices hgo : W p l e ({ frames := 7, cells := 0, slots := 0, locals := 170 }) s m ([.ref (h 13), .int x0, .int x1] : List Value).toArray below meth cd H locs 0 0 Qz (F0 m 0 ls []) by rw [hH, hlo] at hgo; exact hgo
  clear hH hlo
  obtain ⟨sp, hsp⟩ : ∃ z : Int32 × sg_F, z = sX4_bestNear x0 x1 f L := ⟨_, rfl⟩
  have hs : sp = sX4_bestNear x0 x1 f L := hsp
  have hF : sgK WkX4_bestNear f f := sgK.rf
  have loop_13 : ∀ (n_13 : Nat) (y3_13 : Int32) (y4_13 : Int32) (y5_13 : Int32) (fp_13 : sg_F) (H : Heap) (locs : List Loc) (ls : Array Slot), sp = sX4_bestNear_l13 x0 x1 n_13 y3_13 y4_13 y5_13 fp_13 L → 61 - y5_13.toInt < (n_13 : Int) → 0 ≤ (fp_13 13 7).toInt ∧ (fp_13 13 7).toInt ≤ 7 → 0 ≤ y3_13.toInt ∧ y3_13.toInt ≤ 60 → 0 ≤ y5_13.toInt ∧ y5_13.toInt ≤ 61 → sgI loX hiX fp_13 → sgK WkX4_bestNear f fp_13 → va_P D vwCl (sgw 52 h (eX ca h) fp_13 L Q) H → va_S (sgA 52 h s.heap.size) s.heap H locs → lv_has ls 6 [(0, .ref (h 13)), (2, .int x1), (3, .int y3_13), (4, .int y4_13), (5, .int y5_13)] → W p l e ({ frames := 7, cells := 0, slots := 0, locals := 170 }) s m ([.ref (h 13), .int x0, .int x1] : List Value).toArray below meth cd H locs 0 0 Qz (F0 m 13 ls []) := by
    intro n_13
    induction n_13 with
    | zero => intro y3_13 y4_13 y5_13 fp_13 H locs ls hs hm_13 hy0_13 hy1_13 hy2_13 hI hF hP hS hl; exact absurd hm_13 (by omega)
    | succ n_13 ih_13 =>
      have blk_60 : ∀ (y3_60 : Int32) (y4_60 : Int32) (y5_60 : Int32) (fp_60 : sg_F) (H : Heap) (locs : List Loc) (ls : Array Slot), sp = sX4_bestNear_b60 (sX4_bestNear_l13 x0 x1 n_13) x0 x1 y3_60 y4_60 y5_60 fp_60 L → 61 - y5_60.toInt < ((n_13 + 1 : Nat) : Int) → 0 ≤ (fp_60 13 7).toInt ∧ (fp_60 13 7).toInt ≤ 7 → 0 ≤ y3_60.toInt ∧ y3_60.toInt ≤ 60 → 0 ≤ y5_60.toInt ∧ y5_60.toInt ≤ 60 → sgI loX hiX fp_60 → sgK WkX4_bestNear f fp_60 → va_P D vwCl (sgw 52 h (eX ca h) fp_60 L Q) H → va_S (sgA 52 h s.heap.size) s.heap H locs → lv_has ls 6 [(0, .ref (h 13)), (2, .int x1), (3, .int y3_60), (4, .int y4_60), (5, .int y5_60)] → W p l e ({ frames := 7, cells := 0, slots := 0, locals := 170 }) s m ([.ref (h 13), .int x0, .int x1] : List Value).toArray below meth cd H locs 0 0 Qz (F0 m 60 ls []) := by
        intro y3_60 y4_60 y5_60 fp_60 H locs ls hs hm_13 hy0_60 hy1_60 hy2_60 hI hF hP hS hl
        obtain ⟨v_1, ev_1⟩ : ∃ z : Int32, z = fp_60 13 7 := ⟨_, rfl⟩
        have q_2 : (-1) ≤ v_1.toInt ∧ v_1.toInt ≤ 7 := by rw [ev_1]; exact hI 13 7
        have q_3 : (fp_60 13 7).toInt = v_1.toInt := by rw [ev_1]
        obtain ⟨v_4, ev_4⟩ : ∃ z : Int32, z = y5_60 + 1 := ⟨_, rfl⟩
        have q_5 : v_4.toInt = y5_60.toInt + 1 := by rw [ev_4]; exact (bn_addc y5_60 1 (by decide) (by omega) (by omega))
        refine lv_iinc (v := v_4) (lv' := [(5, .int v_4), (0, .ref (h 13)), (2, .int x1), (3, .int y3_60), (4, .int y4_60)]) hx hb dX4_bestNear_60 hl (k := 4) rfl (by rw [ev_4]; rfl) (by decide) rfl (fun ls hl => ?_)
        refine lv_goto (tgt := 13) hx hb dX4_bestNear_63 (by decide) ?_
        exact ih_13 y3_60 y4_60 v_4 fp_60 _ _ _ (hs.trans ((spl_e ev_1 (spl_e ev_4 rfl)))) (by omega) (by have zz13_7 : (fp_60 13 7).toInt = v_1.toInt := (congrArg Int32.toInt (show fp_60 13 7 = v_1 from ev_1.symm)); exact ⟨by omega, by omega⟩) hy1_60 ⟨by omega, by omega⟩ hI hF hP hS (lv_sub hl [1, 2, 3, 4, 0] rfl)
      have blk_51 : ∀ (y5_51 : Int32) (fp_51 : sg_F) (H : Heap) (locs : List Loc) (ls : Array Slot), sp = sX4_bestNear_b51 (sX4_bestNear_l13 x0 x1 n_13) x0 x1 y5_51 fp_51 L → 61 - y5_51.toInt < ((n_13 + 1 : Nat) : Int) → 0 ≤ (fp_51 13 7).toInt ∧ (fp_51 13 7).toInt ≤ 7 → 0 ≤ y5_51.toInt ∧ y5_51.toInt ≤ 60 → sgI loX hiX fp_51 → sgK WkX4_bestNear f fp_51 → va_P D vwCl (sgw 52 h (eX ca h) fp_51 L Q) H → va_S (sgA 52 h s.heap.size) s.heap H locs → lv_has ls 6 [(0, .ref (h 13)), (2, .int x1), (5, .int y5_51)] → W p l e ({ frames := 7, cells := 0, slots := 0, locals := 170 }) s m ([.ref (h 13), .int x0, .int x1] : List Value).toArray below meth cd H locs 0 0 Qz (F0 m 51 ls []) := by
        intro y5_51 fp_51 H locs ls hs hm_13 hy0_51 hy1_51 hI hF hP hS hl
        obtain ⟨v_6, ev_6⟩ : ∃ z : Int32, z = fp_51 13 7 := ⟨_, rfl⟩
        have q_7 : (-1) ≤ v_6.toInt ∧ v_6.toInt ≤ 7 := by rw [ev_6]; exact hI 13 7
        have q_8 : (fp_51 13 7).toInt = v_6.toInt := by rw [ev_6]
        refine lv_iload hx hb dX4_bestNear_51 (lv_at hl 2 rfl) ?_
        refine lv_istore_n (lv' := [(3, .int y5_51), (0, .ref (h 13)), (2, .int x1), (5, .int y5_51)]) hx hb dX4_bestNear_53 rfl hl (by decide) rfl (fun ls hl => ?_)
        refine lv_aload_n hx hb dX4_bestNear_54 rfl (lv_at hl 1 rfl) ?_
        refine sl_gX_13_6_4 (v := (fp_51 13 6)) hx hb hts hown hK hP rfl dX4_bestNear_55 ?_
        refine lv_topi (fun v_9 ev_9 => ?_)
        refine lv_istore (lv' := [(4, .int v_9), (3, .int y5_51), (0, .ref (h 13)), (2, .int x1), (5, .int y5_51)]) hx hb dX4_bestNear_58 hl (by decide) rfl (fun ls hl => ?_)
        exact blk_60 y5_51 v_9 y5_51 fp_51 _ _ _ (hs.trans ((spl_e ev_6 (spl_e ev_9 rfl)))) hm_13 (by have zz13_7 : (fp_51 13 7).toInt = v_6.toInt := (congrArg Int32.toInt (show fp_51 13 7 = v_6 from ev_6.symm)); exact ⟨by omega, by omega⟩) hy1_51 hy1_51 hI hF hP hS (lv_sub hl [2, 3, 1, 0, 4] rfl)
      intro y3_13 y4_13 y5_13 fp_13 H locs ls hs hm_13 hy0_13 hy1_13 hy2_13 hI hF hP hS hl
      have hs : sp = sX4_bestNear_h13 x0 x1 (sX4_bestNear_l13 x0 x1 n_13) y3_13 y4_13 y5_13 fp_13 L := hs
      obtain ⟨v_10, ev_10⟩ : ∃ z : Int32, z = fp_13 13 7 := ⟨_, rfl⟩
      replace hs := hs.trans (spl_e ev_10 rfl)
      have q_11 : (-1) ≤ v_10.toInt ∧ v_10.toInt ≤ 7 := by rw [ev_10]; exact hI 13 7
      have q_12 : (fp_13 13 7).toInt = v_10.toInt := by rw [ev_10]
      refine lv_iload hx hb dX4_bestNear_13 (lv_at hl 4 rfl) ?_
      refine lv_bipush (v := 60) hx hb dX4_bestNear_15 bp_60 ?_
      refine lv_icmp_gt (tgt := 66) hx hb dX4_bestNear_17 (by decide) (fun c => ?_) (fun c => ?_)
      · skip
        have c_13 : 60 < y5_13.toInt := (by first | exact (cm_lt0 ti_60 c) | (have z := bn_lt c; have k1 : (60 : Int32).toInt = 60 := ti_60; omega))
        refine lv_aload_n hx hb dX4_bestNear_66 rfl (lv_at hl 0 rfl) ?_
        refine lv_iconst (v := (-1)) hx hb dX4_bestNear_67 ic_m1 ?_
        refine sl_pX_13_7_4 (x := (-1)) hx hb hts hown hh hA hK hP hS dX4_bestNear_68 (fun f_15 H locs ef_15 hP hS => ?_)
        replace hs := hs.trans ((if_pos c_13).trans (spl_e ef_15 rfl))
        have hI : sgI loX hiX f_15 := by rw [ef_15]; exact sgI.put hI 13 7 (show (-1) ≤ ((-1) : Int32).toInt ∧ ((-1) : Int32).toInt ≤ 7 from by decide)
        have hF : sgK WkX4_bestNear f f_15 := sgK.put hF ef_15 (by rfl)
        refine lv_iload_n hx hb dX4_bestNear_71 rfl (lv_at hl 1 rfl) ?_
        refine lv_if_ne (tgt := 79) hx hb dX4_bestNear_72 (by decide) (fun c => ?_) (fun c => ?_)
        · skip
          have c_16 : x1.toInt ≠ 0 := (by first | exact (cm_ne1 ti_0 c) | (have z := bn_ne c; have k1 : (0 : Int32).toInt = 0 := ti_0; omega))
          refine lv_iload hx hb dX4_bestNear_79 (lv_at hl 3 rfl) ?_
          exact hret _ _ _ _ (y4_13) f_15 L Q dX4_bestNear_81 hP hS ⟨⟨hI, hF, rfl, rfl⟩, trivial, (Eq.trans (Eq.symm (hs.trans ((if_neg c_16).trans rfl))) hsp)⟩
        · skip
          have c_17 : x1.toInt = 0 := (by first | exact (cm_eq1 ti_0 c) | (have z := Int32.toInt_inj.mpr c; have k1 : (0 : Int32).toInt = 0 := ti_0; omega))
          refine lv_iload_n hx hb dX4_bestNear_75 rfl (lv_at hl 2 rfl) ?_
          refine lv_goto (tgt := 81) hx hb dX4_bestNear_76 (by decide) ?_
          exact hret _ _ _ _ (y3_13) f_15 L Q dX4_bestNear_81 hP hS ⟨⟨hI, hF, rfl, rfl⟩, trivial, (Eq.trans (Eq.symm (hs.trans ((if_pos c_17).trans rfl))) hsp)⟩
      · skip
        have c_14 : y5_13.toInt ≤ 60 := (by first | exact (cm_nlt0 ti_60 c) | (have z := bn_nlt c; have k1 : (60 : Int32).toInt = 60 := ti_60; omega))
        refine lv_aload_n hx hb dX4_bestNear_20 rfl (lv_at hl 0 rfl) ?_
        refine lv_iload hx hb dX4_bestNear_21 (lv_at hl 4 rfl) ?_
        refine sl_pX_13_8_4 (x := y5_13) hx hb hts hown hh hA hK hP hS dX4_bestNear_23 (fun f_18 H locs ef_18 hP hS => ?_)
        have hI : sgI loX hiX f_18 := by rw [ef_18]; exact sgI.put hI 13 8 (show 0 ≤ (y5_13 : Int32).toInt ∧ (y5_13 : Int32).toInt ≤ 60 from ⟨by omega, by omega⟩)
        have hF : sgK WkX4_bestNear f f_18 := sgK.put hF ef_18 (by rfl)
        refine lv_aload_n hx hb dX4_bestNear_26 rfl (lv_at hl 0 rfl) ?_
        refine lv_aload_n hx hb dX4_bestNear_27 rfl (lv_at hl 0 rfl) ?_
        refine sl_gX_13_1_4 hx hb hts hown hK hP dX4_bestNear_28 ?_
        refine sl_gX_10_2_4 (v := (f_18 10 2)) hx hb hts hown hK hP rfl dX4_bestNear_31 ?_
        refine lv_topi (fun v_19 ev_19 => ?_)
        have q_20 : 0 ≤ v_19.toInt ∧ v_19.toInt ≤ 21 := by rw [ev_19]; exact hI 10 2
        refine sg_callv (va_runV (As := [.int v_19]) (rest := []) ⟨hx, hb, hml, hown, hts⟩ (kX4_live l D ca za h hh f_18 L Q hI v_19 q_20 H.size) (sl_c4_live_6_0_0_148_4 hts ⟨Nat.le_of_ble_eq_true rfl, Nat.le_of_ble_eq_true rfl⟩) (sl_vX_13 hA hK hP hS hZ) rfl rfl hl.1 rfl (lv_room (Nat.le_of_ble_eq_true rfl)) dX4_bestNear_34 ⟨Nat.le_refl _, Nat.le_refl _⟩) hA hS (fun f_21 L_22 Q_23 H locs hq hP hS => ?_)
        obtain ⟨⟨hI, hk_f_21, eL9, eQ9⟩, u_24⟩ := hq
        replace hs := hs.trans ((if_neg (Int.not_lt.mpr c_14)).trans (spl_e ef_18 (spl_e ev_19 (spl_e u_24 rfl))))
        rw [eL9, eQ9] at hP; clear eL9 eQ9
        have hF : sgK WkX4_bestNear f f_21 := sgK.tr hF hk_f_21 (by decide +kernel)
        refine lv_iload hx hb dX4_bestNear_37 (lv_at hl 4 rfl) ?_
        refine lv_if_eq (tgt := 51) hx hb dX4_bestNear_39 (by decide) (fun c => ?_) (fun c => ?_)
        · skip
          have c_25 : y5_13.toInt = 0 := (by first | exact (cm_eq1 ti_0 c) | (have z := Int32.toInt_inj.mpr c; have k1 : (0 : Int32).toInt = 0 := ti_0; omega))
          exact blk_51 y5_13 f_21 _ _ _ (hs.trans ((if_pos c_25).trans rfl)) (by omega) (by have zz13_7 : (f_21 13 7).toInt = v_10.toInt := (congrArg Int32.toInt (show f_21 13 7 = v_10 from ((hk_f_21 13 7 (by decide)).trans (by rw [ef_18, sg_up_s, sgu_n (by decide)]; exact ev_10.symm)))); exact ⟨by omega, by omega⟩) ⟨by omega, by omega⟩ hI hF hP hS (lv_sub hl [0, 1, 4] rfl)
        · skip
          have c_26 : y5_13.toInt ≠ 0 := (by first | exact (cm_ne1 ti_0 c) | (have z := bn_ne c; have k1 : (0 : Int32).toInt = 0 := ti_0; omega))
          refine lv_aload_n hx hb dX4_bestNear_42 rfl (lv_at hl 0 rfl) ?_
          refine sl_gX_13_6_4 (v := (f_21 13 6)) hx hb hts hown hK hP rfl dX4_bestNear_43 ?_
          refine lv_topi (fun v_27 ev_27 => ?_)
          replace hs := hs.trans ((if_neg c_26).trans (spl_e ev_27 rfl))
          refine lv_iload hx hb dX4_bestNear_46 (lv_at hl 3 rfl) ?_
          refine lv_icmp_ge (tgt := 60) hx hb dX4_bestNear_48 (by decide) (fun c => ?_) (fun c => ?_)
          · skip
            have c_28 : y4_13.toInt ≤ v_27.toInt := (by first | exact (bn_le c) | (have z := bn_le c; omega))
            exact blk_60 y3_13 y4_13 y5_13 f_21 _ _ _ (hs.trans ((if_neg (Int.not_lt.mpr c_28)).trans rfl)) (by omega) (by have zz13_7 : (f_21 13 7).toInt = v_10.toInt := (congrArg Int32.toInt (show f_21 13 7 = v_10 from ((hk_f_21 13 7 (by decide)).trans (by rw [ef_18, sg_up_s, sgu_n (by decide)]; exact ev_10.symm)))); exact ⟨by omega, by omega⟩) hy1_13 ⟨by omega, by omega⟩ hI hF hP hS (lv_sub hl [0, 1, 2, 3, 4] rfl)
          · skip
            have c_29 : v_27.toInt < y4_13.toInt := (by first | exact (bn_nle c) | (have z := bn_nle c; omega))
            exact blk_51 y5_13 f_21 _ _ _ (hs.trans ((if_pos c_29).trans rfl)) (by omega) (by have zz13_7 : (f_21 13 7).toInt = v_10.toInt := (congrArg Int32.toInt (show f_21 13 7 = v_10 from ((hk_f_21 13 7 (by decide)).trans (by rw [ef_18, sg_up_s, sgu_n (by decide)]; exact ev_10.symm)))); exact ⟨by omega, by omega⟩) ⟨by omega, by omega⟩ hI hF hP hS (lv_sub hl [0, 1, 4] rfl)
  refine lv_iconst (v := 0) hx hb dX4_bestNear_0 ic_0 ?_
  refine lv_istore_n (lv' := [(3, .int 0), (0, .ref (h 13)), (1, .int x0), (2, .int x1)]) hx hb dX4_bestNear_1 rfl hl (by decide) rfl (fun ls hl => ?_)
  refine lv_iconst (v := 0) hx hb dX4_bestNear_2 ic_0 ?_
  refine lv_istore (lv' := [(4, .int 0), (3, .int 0), (0, .ref (h 13)), (1, .int x0), (2, .int x1)]) hx hb dX4_bestNear_3 hl (by decide) rfl (fun ls hl => ?_)
  refine lv_aload_n hx hb dX4_bestNear_5 rfl (lv_at hl 2 rfl) ?_
  refine lv_iload_n hx hb dX4_bestNear_6 rfl (lv_at hl 3 rfl) ?_
  refine sl_pX_13_7_4 (x := x0) hx hb hts hown hh hA hK hP hS dX4_bestNear_7 (fun f_30 H locs ef_30 hP hS => ?_)
  have hI : sgI loX hiX f_30 := by rw [ef_30]; exact sgI.put hI 13 7 (show (-1) ≤ (x0 : Int32).toInt ∧ (x0 : Int32).toInt ≤ 7 from ⟨by omega, by omega⟩)
  have hF : sgK WkX4_bestNear f f_30 := sgK.put hF ef_30 (by rfl)
  refine lv_iconst (v := 0) hx hb dX4_bestNear_10 ic_0 ?_
  refine lv_istore (lv' := [(5, .int 0), (4, .int 0), (3, .int 0), (0, .ref (h 13)), (1, .int x0), (2, .int x1)]) hx hb dX4_bestNear_11 hl (by decide) rfl (fun ls hl => ?_)
  exact loop_13 62 0 0 0 f_30 _ _ _ (hs.trans ((spl_e ef_30 rfl))) (by have kc0 : (0 : Int32).toInt = 0 := ti_0; have kc1 : (0 : Int32).toInt = 0 := ti_0; have kc2 : (0 : Int32).toInt = 0 := ti_0; omega) (by have zz13_7 : (f_30 13 7).toInt = x0.toInt := (congrArg Int32.toInt (show f_30 13 7 = x0 from (by rw [ef_30, sg_up_s, sgu_s]))); exact ⟨by omega, by omega⟩) (by decide) (by decide) hI hF hP hS (lv_sub hl [3, 5, 2, 1, 0] rfl)

abbrev WkX11_pays : List (Nat × Nat × Option Nat) := [(8, 8, none), (9, 9, none), (10, 10, some 2), (10, 10, some 3), (11, 11, none), (12, 12, none), (13, 13, some 5), (13, 13, some 6), (13, 13, some 7), (13, 13, some 8), (14, 14, none), (15, 15, none), (16, 16, none)]
set_option maxHeartbeats 4000000 in
set_option maxRecDepth 100000 in
theorem kX11_pays (l : Launch) (D : va_G) (ca : Nat → ClassId) (za h : Nat → Nat) (hh : sgH 52 h) (f : sg_F) (L : sg_L) (Q : sg_Q) (hI : sgI loX hiX f) (x0 : Int32) (x1 : Int32) (x2 : Int32) (sz : Nat) : Met l yX11_pays gwX11_pays { frames := 8, cells := 0, slots := 0, locals := 195 } (sgP D vwCl (tyX ca) 52 h (eX ca h) zcX za f L Q sz [.ref (h 0), .int x0, .int x1, .int x2]) (sgQi D vwCl 52 h (eX ca h) sz (fun r f1 L1 Q1 => ((sgI loX hiX f1 ∧ sgK WkX11_pays f f1 ∧ L1 = L ∧ Q1 = Q) ∧ True ∧ (r, f1) = sX11_pays x0 x1 x2 f L))) 0 0 (sgA 52 h sz) := by
  refine sg_ofWi (cc := cX11_pays) (maxL := 5) RX11 (by decide) rfl rfl (Nat.le_of_ble_eq_true rfl) ?_
  intro p e s m below meth cd Qz ls hx hb hml hown hts hK hZ hP hS hl hret
  have hA := sgY.self (n := 52) (h := h) (sz := s.heap.size)
  have hl : lv_has ls 5 [(0, .ref (h 0)), (1, .int x0), (2, .int x1), (3, .int x2)] := hl
  obtain ⟨H, hH⟩ : ∃ z : Heap, z = s.heap := ⟨_, rfl⟩
  obtain ⟨locs, hlo⟩ : ∃ z : List Loc, z = [] := ⟨_, rfl⟩
  have hP : va_P D vwCl (sgw 52 h (eX ca h) f L Q) H := by rw [hH]; exact hP
  have hS : va_S (sgA 52 h s.heap.size) s.heap H locs := by rw [hH, hlo]; exact hS
  suffices hgo : W p l e ({ frames := 8, cells := 0, slots := 0, locals := 195 }) s m ([.ref (h 0), .int x0, .int x1, .int x2] : List Value).toArray below meth cd H locs 0 0 Qz (F0 m 0 ls []) by rw [hH, hlo] at hgo; exact hgo
  clear hH hlo
  obtain ⟨sp, hsp⟩ : ∃ z : Int32 × sg_F, z = sX11_pays x0 x1 x2 f L := ⟨_, rfl⟩
  have hs : sp = sX11_pays x0 x1 x2 f L := hsp
  have hF : sgK WkX11_pays f f := sgK.rf
  refine lv_iload_n hx hb dX11_pays_0 rfl (lv_at hl 1 rfl) ?_
  refine sg_calli (va_runS (As := [.int x0]) (rest := []) ⟨hx, hb, hml, hown, hts⟩ (kX11_isShelf l D ca za h hh f L Q hI x0 H.size) (va_cwS 1 hts (gw_S (fun _ h => List.mem_cons_of_mem _ h) mw_35 mw_36 mw_37 mw_34) rfl rfl rfl hd_yX11_isShelf.2 ⟨Nat.le_of_ble_eq_true rfl, Nat.le_of_ble_eq_true rfl⟩) (sg_preS hA hK hP hS hZ) rfl rfl hl.1 rfl (lv_room (Nat.le_of_ble_eq_true rfl)) dX11_pays_1 ⟨Nat.le_refl _, Nat.le_refl _⟩) hA hS (fun r_4 f_1 L_2 Q_3 H locs hq hP hS => ?_)
  obtain ⟨⟨ef9, eL9, eQ9⟩, hq, u_5⟩ := hq
  replace hs := hs.trans (spl_e u_5 rfl)
  rw [ef9, eL9, eQ9] at hP; clear ef9 eL9 eQ9
  rcases hq with ⟨rfl, hq⟩ | ⟨rfl, hq⟩
  · skip
    have hc_6 := hq
    refine lv_if_eq (tgt := 27) hx hb dX11_pays_4 (by decide) (fun c => absurd c (by decide)) (fun c => ?_)
    refine lv_aload_n hx hb dX11_pays_7 rfl (lv_at hl 0 rfl) ?_
    refine sl_gX_0_0_11 hx hb hts hown hK hP dX11_pays_8 ?_
    refine lv_iload_n hx hb dX11_pays_11 rfl (lv_at hl 2 rfl) ?_
    obtain ⟨v_7, ev_7⟩ : ∃ z : Int32, z = f 1 3 := ⟨_, rfl⟩
    have q_8 : 0 ≤ v_7.toInt ∧ v_7.toInt ≤ 8 := by rw [ev_7]; exact hI 1 3
    have q_9 : (f 1 3).toInt = v_7.toInt := (congrArg Int32.toInt (show f 1 3 = v_7 from ev_7.symm))
    refine sg_calli (va_runV (As := [.int x1]) (rest := []) ⟨hx, hb, hml, hown, hts⟩ (kX0_has l D ca za h hh f L Q hI x1 H.size) (sl_c0_has_0_0_0_0_11 hts ⟨Nat.le_of_ble_eq_true rfl, Nat.le_of_ble_eq_true rfl⟩) (sl_vX_1 hA hK hP hS hZ) rfl rfl hl.1 rfl (lv_room (Nat.le_of_ble_eq_true rfl)) dX11_pays_12 ⟨Nat.le_refl _, Nat.le_refl _⟩) hA hS (fun r_14 f_11 L_12 Q_13 H locs hq hP hS => ?_)
    obtain ⟨⟨ef9, eL9, eQ9⟩, hq, u_15⟩ := hq
    replace hs := hs.trans ((if_pos rfl).trans (spl_e ev_7 (spl_e u_15 rfl)))
    rw [ef9, eL9, eQ9] at hP; clear ef9 eL9 eQ9
    rcases hq with ⟨rfl, hq⟩ | ⟨rfl, hq⟩
    · skip
      have hc_16 := hq
      refine lv_if_eq (tgt := 27) hx hb dX11_pays_15 (by decide) (fun c => absurd c (by decide)) (fun c => ?_)
      refine lv_iload_n hx hb dX11_pays_18 rfl (lv_at hl 3 rfl) ?_
      refine lv_if_lt (tgt := 27) hx hb dX11_pays_19 (by decide) (fun c => ?_) (fun c => ?_)
      · skip
        have c_17 : x2.toInt < 0 := (by first | exact (cm_lt1 ti_0 c) | (have z := bn_lt c; have k1 : (0 : Int32).toInt = 0 := ti_0; omega))
        refine lv_iconst (v := (-1)) hx hb dX11_pays_27 ic_m1 ?_
        have k99 : ((-1) : Int32).toInt = (-1) := ti_m1
        exact hret _ _ _ _ (-1) f L Q dX11_pays_28 hP hS ⟨⟨hI, hF, rfl, rfl⟩, trivial, (Eq.trans (Eq.symm (hs.trans ((if_pos rfl).trans ((if_pos c_17).trans rfl)))) hsp)⟩
      · skip
        have c_18 : 0 ≤ x2.toInt := (by first | exact (cm_nlt1 ti_0 c) | (have z := bn_nlt c; have k1 : (0 : Int32).toInt = 0 := ti_0; omega))
        replace hs := hs.trans ((if_pos rfl).trans ((if_neg (Int.not_lt.mpr c_18)).trans rfl))
        refine lv_iload_n hx hb dX11_pays_22 rfl (lv_at hl 3 rfl) ?_
        refine lv_iconst (v := 1) hx hb dX11_pays_23 ic_1 ?_
        refine lv_icmp_le (tgt := 29) hx hb dX11_pays_24 (by decide) (fun c => ?_) (fun c => ?_)
        · skip
          have c_19 : x2.toInt ≤ 1 := (by first | exact (cm_le1 ti_1 c) | (have z := bn_le c; have k1 : (1 : Int32).toInt = 1 := ti_1; omega))
          refine lv_aload_n hx hb dX11_pays_29 rfl (lv_at hl 0 rfl) ?_
          refine lv_iload_n hx hb dX11_pays_30 rfl (lv_at hl 1 rfl) ?_
          refine sg_calli (va_runV (As := [.int x0]) (rest := []) ⟨hx, hb, hml, hown, hts⟩ (kX11_readWeek l D ca za h hh f L Q hI x0 ⟨by omega, by omega⟩ H.size) (sl_c11_readWeek_2_0_0_45_11 hts ⟨Nat.le_of_ble_eq_true rfl, Nat.le_of_ble_eq_true rfl⟩) (sl_vX_0 hA hK hP hS hZ) rfl rfl hl.1 rfl (lv_room (Nat.le_of_ble_eq_true rfl)) dX11_pays_31 ⟨Nat.le_refl _, Nat.le_refl _⟩) hA hS (fun r_24 f_21 L_22 Q_23 H locs hq hP hS => ?_)
          obtain ⟨⟨hI, hk_f_21, eL9, eQ9⟩, hq, u_25⟩ := hq
          replace hs := hs.trans ((if_neg (Int.not_lt.mpr c_19)).trans (spl2_e u_25 rfl))
          rw [eL9, eQ9] at hP; clear eL9 eQ9
          have hF : sgK WkX11_pays f f_21 := sgK.tr hF hk_f_21 (by decide +kernel)
          refine lv_istore (lv' := [(4, .int r_24), (0, .ref (h 0)), (1, .int x0), (2, .int x1), (3, .int x2)]) hx hb dX11_pays_34 hl (by decide) rfl (fun ls hl => ?_)
          refine lv_iload hx hb dX11_pays_36 (lv_at hl 0 rfl) ?_
          refine lv_if_eq (tgt := 46) hx hb dX11_pays_38 (by decide) (fun c => ?_) (fun c => ?_)
          · skip
            have c_26 : r_24.toInt = 0 := (by first | exact (cm_eq1 ti_0 c) | (have z := Int32.toInt_inj.mpr c; have k1 : (0 : Int32).toInt = 0 := ti_0; omega))
            refine lv_aload_n hx hb dX11_pays_46 rfl (lv_at hl 1 rfl) ?_
            refine sl_gX_0_2_11 hx hb hts hown hK hP dX11_pays_47 ?_
            refine lv_iload_n hx hb dX11_pays_50 rfl (lv_at hl 3 rfl) ?_
            refine lv_iload_n hx hb dX11_pays_51 rfl (lv_at hl 4 rfl) ?_
            refine sg_calli (va_runV (As := [.int x1, .int x2]) (rest := []) ⟨hx, hb, hml, hown, hts⟩ (kX4_bestNear l D ca za h hh f_21 L Q hI x1 x2 ⟨by omega, by omega⟩ ⟨by omega, by omega⟩ H.size) (sl_c4_bestNear_7_0_0_170_11 hts ⟨Nat.le_of_ble_eq_true rfl, Nat.le_of_ble_eq_true rfl⟩) (sl_vX_13 hA hK hP hS hZ) rfl rfl hl.1 rfl (lv_room (Nat.le_of_ble_eq_true rfl)) dX11_pays_52 ⟨Nat.le_refl _, Nat.le_refl _⟩) hA hS (fun r_31 f_28 L_29 Q_30 H locs hq hP hS => ?_)
            obtain ⟨⟨hI, hk_f_28, eL9, eQ9⟩, hq, u_32⟩ := hq
            rw [eL9, eQ9] at hP; clear eL9 eQ9
            have hF : sgK WkX11_pays f f_28 := sgK.tr hF hk_f_28 (by decide +kernel)
            exact hret _ _ _ _ (r_31) f_28 L Q dX11_pays_55 hP hS ⟨⟨hI, hF, rfl, rfl⟩, trivial, (Eq.trans (Eq.symm (hs.trans ((if_pos c_26).trans (spl2_e u_32 rfl)))) hsp)⟩
          · skip
            have c_27 : r_24.toInt ≠ 0 := (by first | exact (cm_ne1 ti_0 c) | (have z := bn_ne c; have k1 : (0 : Int32).toInt = 0 := ti_0; omega))
            refine lv_iload hx hb dX11_pays_41 (lv_at hl 0 rfl) ?_
            refine lv_goto (tgt := 55) hx hb dX11_pays_43 (by decide) ?_
            exact hret _ _ _ _ (r_24) f_21 L Q dX11_pays_55 hP hS ⟨⟨hI, hF, rfl, rfl⟩, trivial, (Eq.trans (Eq.symm (hs.trans ((if_neg c_27).trans rfl))) hsp)⟩
        · skip
          have c_20 : 1 < x2.toInt := (by first | exact (cm_nle1 ti_1 c) | (have z := bn_nle c; have k1 : (1 : Int32).toInt = 1 := ti_1; omega))
          refine lv_iconst (v := (-1)) hx hb dX11_pays_27 ic_m1 ?_
          have k99 : ((-1) : Int32).toInt = (-1) := ti_m1
          exact hret _ _ _ _ (-1) f L Q dX11_pays_28 hP hS ⟨⟨hI, hF, rfl, rfl⟩, trivial, (Eq.trans (Eq.symm (hs.trans ((if_pos c_20).trans rfl))) hsp)⟩
    · skip
      have hc_16 := hq
      refine lv_if_eq (tgt := 27) hx hb dX11_pays_15 (by decide) (fun c => ?_) (fun c => absurd c (by decide))
      refine lv_iconst (v := (-1)) hx hb dX11_pays_27 ic_m1 ?_
      have k99 : ((-1) : Int32).toInt = (-1) := ti_m1
      exact hret _ _ _ _ (-1) f L Q dX11_pays_28 hP hS ⟨⟨hI, hF, rfl, rfl⟩, trivial, (Eq.trans (Eq.symm (hs.trans ((if_neg (by decide)).trans rfl))) hsp)⟩
  · skip
    have hc_6 := hq
    refine lv_if_eq (tgt := 27) hx hb dX11_pays_4 (by decide) (fun c => ?_) (fun c => absurd c (by decide))
    refine lv_iconst (v := (-1)) hx hb dX11_pays_27 ic_m1 ?_
    have k99 : ((-1) : Int32).toInt = (-1) := ti_m1
    exact hret _ _ _ _ (-1) f L Q dX11_pays_28 hP hS ⟨⟨hI, hF, rfl, rfl⟩, trivial, (Eq.trans (Eq.symm (hs.trans ((if_neg (by decide)).trans rfl))) hsp)⟩

set_option maxHeartbeats 4000000 in
set_option maxRecDepth 100000 in
theorem kJ6_bitCount_0f7a4 (l : Launch) (D : va_G) (ca : Nat → ClassId) (za h : Nat → Nat) (hh : sgH 52 h) (f : sg_F) (L : sg_L) (Q : sg_Q) (hI : sgI loX hiX f) (x0 : Int32) (b0 : 0 ≤ x0.toInt ∧ x0.toInt ≤ 255) (sz : Nat) : Met l yJ6_bitCount_0f7a4 gwJ6_bitCount_0f7a4 { frames := 0, cells := 0, slots := 0, locals := 0 } (sgP D vwCl (tyX ca) 52 h (eX ca h) zcX za f L Q sz [.int x0]) (sgQi D vwCl 52 h (eX ca h) sz (fun r f1 L1 Q1 => ((f1 = f ∧ L1 = L ∧ Q1 = Q) ∧ True ∧ (r) = sJ6_bitCount_0f7a4 x0 f L))) 0 0 (sgA 52 h sz) := by
  refine sg_ofWi (cc := cJ6_bitCount_0f7a4) (maxL := 1) RJ6 (by decide) rfl rfl (Nat.le_of_ble_eq_true rfl) ?_
  intro p e s m below meth cd Qz ls hx hb hml hown hts hK hZ hP hS hl hret
  have hA := sgY.self (n := 52) (h := h) (sz := s.heap.size)
  have hl : lv_has ls 1 [(0, .int x0)] := hl
  obtain ⟨H, hH⟩ : ∃ z : Heap, z = s.heap := ⟨_, rfl⟩
  obtain ⟨locs, hlo⟩ : ∃ z : List Loc, z = [] := ⟨_, rfl⟩
  have hP : va_P D vwCl (sgw 52 h (eX ca h) f L Q) H := by rw [hH]; exact hP
  have hS : va_S (sgA 52 h s.heap.size) s.heap H locs := by rw [hH, hlo]; exact hS
  suffices hgo : W p l e ({ frames := 0, cells := 0, slots := 0, locals := 0 }) s m ([.int x0] : List Value).toArray below meth cd H locs 0 0 Qz (F0 m 0 ls []) by rw [hH, hlo] at hgo; exact hgo
  clear hH hlo
  obtain ⟨sp, hsp⟩ : ∃ z : Int32, z = sJ6_bitCount_0f7a4 x0 f L := ⟨_, rfl⟩
  have hs : sp = sJ6_bitCount_0f7a4 x0 f L := hsp
  refine lv_iload_n hx hb dJ6_bitCount_0f7a4_0 rfl (lv_at hl 0 rfl) ?_
  refine lv_iload_n hx hb dJ6_bitCount_0f7a4_1 rfl (lv_at hl 0 rfl) ?_
  refine lv_iconst (v := 1) hx hb dJ6_bitCount_0f7a4_2 ic_1 ?_
  obtain ⟨v_1, ev_1⟩ : ∃ z : Int32, z = (Int32.toUInt32 x0 >>> (Int32.toUInt32 1 &&& Int32.toUInt32 31)).toInt32 := ⟨_, rfl⟩
  refine lv_iushr (v := v_1) hx hb dJ6_bitCount_0f7a4_3 ev_1.symm ?_
  refine lv_ldcw (v := 1431655765) hx hb hown (hts _ (List.mem_cons_of_mem _ mw_371)) dJ6_bitCount_0f7a4_4 ?_
  refine lv_iand hx hb dJ6_bitCount_0f7a4_7 ?_
  refine lv_topi (fun v_2 ev_2 => ?_)
  refine lv_isub hx hb dJ6_bitCount_0f7a4_8 ?_
  refine lv_topi (fun v_3 ev_3 => ?_)
  refine lv_istore_n (lv' := [(0, .int v_3)]) hx hb dJ6_bitCount_0f7a4_9 rfl hl (by decide) rfl (fun ls hl => ?_)
  refine lv_iload_n hx hb dJ6_bitCount_0f7a4_10 rfl (lv_at hl 0 rfl) ?_
  refine lv_ldcw (v := 858993459) hx hb hown (hts _ (List.mem_cons_of_mem _ mw_372)) dJ6_bitCount_0f7a4_11 ?_
  refine lv_iand hx hb dJ6_bitCount_0f7a4_14 ?_
  refine lv_topi (fun v_4 ev_4 => ?_)
  refine lv_iload_n hx hb dJ6_bitCount_0f7a4_15 rfl (lv_at hl 0 rfl) ?_
  refine lv_iconst (v := 2) hx hb dJ6_bitCount_0f7a4_16 ic_2 ?_
  obtain ⟨v_5, ev_5⟩ : ∃ z : Int32, z = (Int32.toUInt32 v_3 >>> (Int32.toUInt32 2 &&& Int32.toUInt32 31)).toInt32 := ⟨_, rfl⟩
  refine lv_iushr (v := v_5) hx hb dJ6_bitCount_0f7a4_17 ev_5.symm ?_
  refine lv_ldcw (v := 858993459) hx hb hown (hts _ (List.mem_cons_of_mem _ mw_372)) dJ6_bitCount_0f7a4_18 ?_
  refine lv_iand hx hb dJ6_bitCount_0f7a4_21 ?_
  refine lv_topi (fun v_6 ev_6 => ?_)
  refine lv_iadd hx hb dJ6_bitCount_0f7a4_22 ?_
  refine lv_topi (fun v_7 ev_7 => ?_)
  refine lv_istore_n (lv' := [(0, .int v_7)]) hx hb dJ6_bitCount_0f7a4_23 rfl hl (by decide) rfl (fun ls hl => ?_)
  refine lv_iload_n hx hb dJ6_bitCount_0f7a4_24 rfl (lv_at hl 0 rfl) ?_
  refine lv_iload_n hx hb dJ6_bitCount_0f7a4_25 rfl (lv_at hl 0 rfl) ?_
  refine lv_iconst (v := 4) hx hb dJ6_bitCount_0f7a4_26 ic_4 ?_
  obtain ⟨v_8, ev_8⟩ : ∃ z : Int32, z = (Int32.toUInt32 v_7 >>> (Int32.toUInt32 4 &&& Int32.toUInt32 31)).toInt32 := ⟨_, rfl⟩
  refine lv_iushr (v := v_8) hx hb dJ6_bitCount_0f7a4_27 ev_8.symm ?_
  refine lv_iadd hx hb dJ6_bitCount_0f7a4_28 ?_
  refine lv_topi (fun v_9 ev_9 => ?_)
  refine lv_ldcw (v := 252645135) hx hb hown (hts _ (List.mem_cons_of_mem _ mw_373)) dJ6_bitCount_0f7a4_29 ?_
  refine lv_iand hx hb dJ6_bitCount_0f7a4_32 ?_
  refine lv_topi (fun v_10 ev_10 => ?_)
  refine lv_istore_n (lv' := [(0, .int v_10)]) hx hb dJ6_bitCount_0f7a4_33 rfl hl (by decide) rfl (fun ls hl => ?_)
  refine lv_iload_n hx hb dJ6_bitCount_0f7a4_34 rfl (lv_at hl 0 rfl) ?_
  refine lv_iload_n hx hb dJ6_bitCount_0f7a4_35 rfl (lv_at hl 0 rfl) ?_
  refine lv_bipush (v := 8) hx hb dJ6_bitCount_0f7a4_36 bp_8 ?_
  obtain ⟨v_11, ev_11⟩ : ∃ z : Int32, z = (Int32.toUInt32 v_10 >>> (Int32.toUInt32 8 &&& Int32.toUInt32 31)).toInt32 := ⟨_, rfl⟩
  refine lv_iushr (v := v_11) hx hb dJ6_bitCount_0f7a4_38 ev_11.symm ?_
  refine lv_iadd hx hb dJ6_bitCount_0f7a4_39 ?_
  refine lv_topi (fun v_12 ev_12 => ?_)
  refine lv_istore_n (lv' := [(0, .int v_12)]) hx hb dJ6_bitCount_0f7a4_40 rfl hl (by decide) rfl (fun ls hl => ?_)
  refine lv_iload_n hx hb dJ6_bitCount_0f7a4_41 rfl (lv_at hl 0 rfl) ?_
  refine lv_iload_n hx hb dJ6_bitCount_0f7a4_42 rfl (lv_at hl 0 rfl) ?_
  refine lv_bipush (v := 16) hx hb dJ6_bitCount_0f7a4_43 bp_16 ?_
  obtain ⟨v_13, ev_13⟩ : ∃ z : Int32, z = (Int32.toUInt32 v_12 >>> (Int32.toUInt32 16 &&& Int32.toUInt32 31)).toInt32 := ⟨_, rfl⟩
  refine lv_iushr (v := v_13) hx hb dJ6_bitCount_0f7a4_45 ev_13.symm ?_
  refine lv_iadd hx hb dJ6_bitCount_0f7a4_46 ?_
  refine lv_topi (fun v_14 ev_14 => ?_)
  refine lv_istore_n (lv' := [(0, .int v_14)]) hx hb dJ6_bitCount_0f7a4_47 rfl hl (by decide) rfl (fun ls hl => ?_)
  refine lv_iload_n hx hb dJ6_bitCount_0f7a4_48 rfl (lv_at hl 0 rfl) ?_
  refine lv_bipush (v := 63) hx hb dJ6_bitCount_0f7a4_49 bp_63 ?_
  refine lv_iand hx hb dJ6_bitCount_0f7a4_51 ?_
  refine lv_topi (fun v_15 ev_15 => ?_)
  exact hret _ _ _ _ (v_15) f L Q dJ6_bitCount_0f7a4_52 hP hS ⟨⟨rfl, rfl, rfl⟩, trivial, (Eq.trans (Eq.symm (hs.trans ((spl_e ev_1 (spl_e ev_2 (spl_e ev_3 (spl_e ev_4 (spl_e ev_5 (spl_e ev_6 (spl_e ev_7 (spl_e ev_8 (spl_e ev_9 (spl_e ev_10 (spl_e ev_11 (spl_e ev_12 (spl_e ev_13 (spl_e ev_14 (spl_e ev_15 rfl)))))))))))))))))) hsp)⟩

set_option maxHeartbeats 4000000 in
set_option maxRecDepth 100000 in
theorem kX4_sparedBy (l : Launch) (D : va_G) (ca : Nat → ClassId) (za h : Nat → Nat) (hh : sgH 52 h) (f : sg_F) (L : sg_L) (Q : sg_Q) (hI : sgI loX hiX f) (x0 : Int32) (b0 : 1 ≤ x0.toInt ∧ x0.toInt ≤ 255) (sz : Nat) : Met l yX4_sparedBy gwX4_sparedBy { frames := 0, cells := 0, slots := 0, locals := 0 } (sgP D vwCl (tyX ca) 52 h (eX ca h) zcX za f L Q sz [.ref (h 13), .int x0]) (sgQi D vwCl 52 h (eX ca h) sz (fun r f1 L1 Q1 => ((f1 = f ∧ L1 = L ∧ Q1 = Q) ∧ True ∧ (r) = sX4_sparedBy x0 f L))) 0 0 (sgA 52 h sz) := by
  refine sg_ofWi (cc := cX4_sparedBy) (maxL := 4) RX4 (by decide) rfl rfl (Nat.le_of_ble_eq_true rfl) ?_
  intro p e s m below meth cd Qz ls hx hb hml hown hts hK hZ hP hS hl hret
  have hA := sgY.self (n := 52) (h := h) (sz := s.heap.size)
  have hl : lv_has ls 4 [(0, .ref (h 13)), (1, .int x0)] := hl
  obtain ⟨H, hH⟩ : ∃ z : Heap, z = s.heap := ⟨_, rfl⟩
  obtain ⟨locs, hlo⟩ : ∃ z : List Loc, z = [] := ⟨_, rfl⟩
  have hP : va_P D vwCl (sgw 52 h (eX ca h) f L Q) H := by rw [hH]; exact hP
  have hS : va_S (sgA 52 h s.heap.size) s.heap H locs := by rw [hH, hlo]; exact hS
  suffices hgo : W p l e ({ frames := 0, cells := 0, slots := 0, locals := 0 }) s m ([.ref (h 13), .int x0] : List Value).toArray below meth cd H locs 0 0 Qz (F0 m 0 ls []) by rw [hH, hlo] at hgo; exact hgo
  clear hH hlo
  obtain ⟨sp, hsp⟩ : ∃ z : Int32, z = sX4_sparedBy x0 f L := ⟨_, rfl⟩
  have hs : sp = sX4_sparedBy x0 f L := hsp
  have loop_4 : ∀ (n_4 : Nat) (y2_4 : Int32) (y3_4 : Int32) (H : Heap) (locs : List Loc) (ls : Array Slot), sp = sX4_sparedBy_l4 x0 n_4 y2_4 y3_4 f L → 8 - y3_4.toInt < (n_4 : Int) → 0 ≤ y3_4.toInt ∧ y3_4.toInt ≤ 8 → va_P D vwCl (sgw 52 h (eX ca h) f L Q) H → va_S (sgA 52 h s.heap.size) s.heap H locs → lv_has ls 4 [(0, .ref (h 13)), (1, .int x0), (2, .int y2_4), (3, .int y3_4)] → W p l e ({ frames := 0, cells := 0, slots := 0, locals := 0 }) s m ([.ref (h 13), .int x0] : List Value).toArray below meth cd H locs 0 0 Qz (F0 m 4 ls []) := by
    intro n_4
    induction n_4 with
    | zero => intro y2_4 y3_4 H locs ls hs hm_4 hy0_4 hP hS hl; exact absurd hm_4 (by omega)
    | succ n_4 ih_4 =>
      have blk_27 : ∀ (y2_27 : Int32) (y3_27 : Int32) (H : Heap) (locs : List Loc) (ls : Array Slot), sp = sX4_sparedBy_b27 (sX4_sparedBy_l4 x0 n_4) x0 y2_27 y3_27 f L → 8 - y3_27.toInt < ((n_4 + 1 : Nat) : Int) → 0 ≤ y3_27.toInt ∧ y3_27.toInt ≤ 7 → va_P D vwCl (sgw 52 h (eX ca h) f L Q) H → va_S (sgA 52 h s.heap.size) s.heap H locs → lv_has ls 4 [(0, .ref (h 13)), (1, .int x0), (2, .int y2_27), (3, .int y3_27)] → W p l e ({ frames := 0, cells := 0, slots := 0, locals := 0 }) s m ([.ref (h 13), .int x0] : List Value).toArray below meth cd H locs 0 0 Qz (F0 m 27 ls []) := by
        intro y2_27 y3_27 H locs ls hs hm_4 hy0_27 hP hS hl
        obtain ⟨v_1, ev_1⟩ : ∃ z : Int32, z = y3_27 + 1 := ⟨_, rfl⟩
        have q_2 : v_1.toInt = y3_27.toInt + 1 := by rw [ev_1]; exact (bn_addc y3_27 1 (by decide) (by omega) (by omega))
        refine lv_iinc (v := v_1) (lv' := [(3, .int v_1), (0, .ref (h 13)), (1, .int x0), (2, .int y2_27)]) hx hb dX4_sparedBy_27 hl (k := 3) rfl (by rw [ev_1]; rfl) (by decide) rfl (fun ls hl => ?_)
        refine lv_goto (tgt := 4) hx hb dX4_sparedBy_30 (by decide) ?_
        exact ih_4 y2_27 v_1 _ _ _ (hs.trans ((spl_e ev_1 rfl))) (by omega) ⟨by omega, by omega⟩ hP hS (lv_sub hl [1, 2, 3, 0] rfl)
      intro y2_4 y3_4 H locs ls hs hm_4 hy0_4 hP hS hl
      have hs : sp = sX4_sparedBy_h4 x0 (sX4_sparedBy_l4 x0 n_4) y2_4 y3_4 f L := hs
      refine lv_iload_n hx hb dX4_sparedBy_4 rfl (lv_at hl 3 rfl) ?_
      refine lv_bipush (v := 8) hx hb dX4_sparedBy_5 bp_8 ?_
      refine lv_icmp_ge (tgt := 33) hx hb dX4_sparedBy_7 (by decide) (fun c => ?_) (fun c => ?_)
      · skip
        have c_3 : 8 ≤ y3_4.toInt := (by first | exact (cm_le0 ti_8 c) | (have z := bn_le c; have k1 : (8 : Int32).toInt = 8 := ti_8; omega))
        refine lv_iload_n hx hb dX4_sparedBy_33 rfl (lv_at hl 2 rfl) ?_
        exact hret _ _ _ _ (y2_4) f L Q dX4_sparedBy_34 hP hS ⟨⟨rfl, rfl, rfl⟩, trivial, (Eq.trans (Eq.symm (hs.trans (((if_neg (Int.not_lt.mpr c_3)).trans rfl)))) hsp)⟩
      · skip
        have c_4 : y3_4.toInt < 8 := (by first | exact (cm_nle0 ti_8 c) | (have z := bn_nle c; have k1 : (8 : Int32).toInt = 8 := ti_8; omega))
        refine lv_iload_n hx hb dX4_sparedBy_10 rfl (lv_at hl 1 rfl) ?_
        refine lv_iload_n hx hb dX4_sparedBy_11 rfl (lv_at hl 3 rfl) ?_
        refine lv_ishr hx hb dX4_sparedBy_12 ?_
        refine lv_topi (fun v_5 ev_5 => ?_)
        refine lv_iconst (v := 1) hx hb dX4_sparedBy_13 ic_1 ?_
        refine lv_iand hx hb dX4_sparedBy_14 ?_
        refine lv_topi (fun v_6 ev_6 => ?_)
        replace hs := hs.trans ((if_pos c_4).trans (spl_e ev_5 (spl_e ev_6 rfl)))
        have q_7 : 0 ≤ v_6.toInt ∧ v_6.toInt ≤ 1 := by rw [ev_6]; exact bn_and1c v_5
        refine lv_if_eq (tgt := 27) hx hb dX4_sparedBy_15 (by decide) (fun c => ?_) (fun c => ?_)
        · skip
          have c_8 : v_6.toInt = 0 := (by first | exact (cm_eq1 ti_0 c) | (have z := Int32.toInt_inj.mpr c; have k1 : (0 : Int32).toInt = 0 := ti_0; omega))
          exact blk_27 y2_4 y3_4 _ _ _ (hs.trans ((if_pos c_8).trans rfl)) (by omega) ⟨by omega, by omega⟩ hP hS (lv_sub hl [0, 1, 2, 3] rfl)
        · skip
          have c_9 : v_6.toInt ≠ 0 := (by first | exact (cm_ne1 ti_0 c) | (have z := bn_ne c; have k1 : (0 : Int32).toInt = 0 := ti_0; omega))
          refine lv_iload_n hx hb dX4_sparedBy_18 rfl (lv_at hl 2 rfl) ?_
          refine lv_aload_n hx hb dX4_sparedBy_19 rfl (lv_at hl 0 rfl) ?_
          refine sl_gX_13_4_4 hx hb hts hown hK hP dX4_sparedBy_20 ?_
          refine lv_iload_n hx hb dX4_sparedBy_23 rfl (lv_at hl 3 rfl) ?_
          refine sg_iald hx hb hK hP 16 (by decide) 0 rfl rfl (i := y3_4) (vp_in_iff.mpr ⟨by omega, by omega⟩) dX4_sparedBy_24 ?_
          refine lv_topi (fun v_10 ev_10 => ?_)
          refine lv_iadd hx hb dX4_sparedBy_25 ?_
          refine lv_topi (fun v_11 ev_11 => ?_)
          refine lv_istore_n (lv' := [(2, .int v_11), (0, .ref (h 13)), (1, .int x0), (3, .int y3_4)]) hx hb dX4_sparedBy_26 rfl hl (by decide) rfl (fun ls hl => ?_)
          exact blk_27 v_11 y3_4 _ _ _ (hs.trans ((if_neg c_9).trans (spl_e ev_10 (spl_e ev_11 rfl)))) (by omega) ⟨by omega, by omega⟩ hP hS (lv_sub hl [1, 2, 0, 3] rfl)
  refine lv_iconst (v := 0) hx hb dX4_sparedBy_0 ic_0 ?_
  refine lv_istore_n (lv' := [(2, .int 0), (0, .ref (h 13)), (1, .int x0)]) hx hb dX4_sparedBy_1 rfl hl (by decide) rfl (fun ls hl => ?_)
  refine lv_iconst (v := 0) hx hb dX4_sparedBy_2 ic_0 ?_
  refine lv_istore_n (lv' := [(3, .int 0), (2, .int 0), (0, .ref (h 13)), (1, .int x0)]) hx hb dX4_sparedBy_3 rfl hl (by decide) rfl (fun ls hl => ?_)
  exact loop_4 9 0 0 _ _ _ hs (by have kc0 : (0 : Int32).toInt = 0 := ti_0; have kc1 : (0 : Int32).toInt = 0 := ti_0; omega) (by decide) hP hS (lv_sub hl [2, 3, 1, 0] rfl)

abbrev WkX4_bestMemories : List (Nat × Nat × Option Nat) := [(8, 8, none), (9, 9, none), (13, 13, some 5), (13, 13, some 6), (14, 14, none), (15, 15, none), (16, 16, none)]
set_option maxHeartbeats 4000000 in
set_option maxRecDepth 100000 in
theorem kX4_bestMemories (l : Launch) (D : va_G) (ca : Nat → ClassId) (za h : Nat → Nat) (hh : sgH 52 h) (f : sg_F) (L : sg_L) (Q : sg_Q) (hI : sgI loX hiX f) (x0 : Int32) (x1 : Int32) (b0 : 0 ≤ x0.toInt ∧ x0.toInt ≤ 3) (b1 : 0 ≤ x1.toInt ∧ x1.toInt ≤ 1) (sz : Nat) : Met l yX4_bestMemories gwX4_bestMemories { frames := 7, cells := 0, slots := 0, locals := 170 } (sgP D vwCl (tyX ca) 52 h (eX ca h) zcX za f L Q sz [.ref (h 13), .int x0, .int x1]) (sgQi D vwCl 52 h (eX ca h) sz (fun r f1 L1 Q1 => ((sgI loX hiX f1 ∧ sgK WkX4_bestMemories f f1 ∧ L1 = L ∧ Q1 = Q) ∧ True ∧ (r, f1) = sX4_bestMemories x0 x1 f L))) 0 0 (sgA 52 h sz) := by
  refine sg_ofWi (cc := cX4_bestMemories) (maxL := 9) RX4 (by decide) rfl rfl (Nat.le_of_ble_eq_true rfl) ?_
  intro p e s m below meth cd Qz ls hx hb hml hown hts hK hZ hP hS hl hret
  have hA := sgY.self (n := 52) (h := h) (sz := s.heap.size)
  have hl : lv_has ls 9 [(0, .ref (h 13)), (1, .int x0), (2, .int x1)] := hl
  obtain ⟨H, hH⟩ : ∃ z : Heap, z = s.heap := ⟨_, rfl⟩
  obtain ⟨locs, hlo⟩ : ∃ z : List Loc, z = [] := ⟨_, rfl⟩
  have hP : va_P D vwCl (sgw 52 h (eX ca h) f L Q) H := by rw [hH]; exact hP
  have hS : va_S (sgA 52 h s.heap.size) s.heap H locs := by rw [hH, hlo]; exact hS
  suffices hgo : W p l e ({ frames := 7, cells := 0, slots := 0, locals := 170 }) s m ([.ref (h 13), .int x0, .int x1] : List Value).toArray below meth cd H locs 0 0 Qz (F0 m 0 ls []) by rw [hH, hlo] at hgo; exact hgo
  clear hH hlo
  obtain ⟨sp, hsp⟩ : ∃ z : Int32 × sg_F, z = sX4_bestMemories x0 x1 f L := ⟨_, rfl⟩
  have hs : sp = sX4_bestMemories x0 x1 f L := hsp
  have hF : sgK WkX4_bestMemories f f := sgK.rf
  have loop_19 : ∀ (n_19 : Nat) (y3_19 : Int32) (y4_19 : Int32) (y5_19 : Int32) (fp_19 : sg_F) (H : Heap) (locs : List Loc) (ls : Array Slot), sp = sX4_bestMemories_l19 x0 x1 n_19 y3_19 y4_19 y5_19 fp_19 L → 256 - y5_19.toInt < (n_19 : Int) → 0 ≤ y3_19.toInt ∧ y3_19.toInt ≤ 255 → 0 ≤ y4_19.toInt → 1 ≤ y5_19.toInt ∧ y5_19.toInt ≤ 256 → sgI loX hiX fp_19 → sgK WkX4_bestMemories f fp_19 → va_P D vwCl (sgw 52 h (eX ca h) fp_19 L Q) H → va_S (sgA 52 h s.heap.size) s.heap H locs → lv_has ls 9 [(0, .ref (h 13)), (1, .int x0), (2, .int x1), (3, .int y3_19), (4, .int y4_19), (5, .int y5_19)] → W p l e ({ frames := 7, cells := 0, slots := 0, locals := 170 }) s m ([.ref (h 13), .int x0, .int x1] : List Value).toArray below meth cd H locs 0 0 Qz (F0 m 19 ls []) := by
    intro n_19
    induction n_19 with
    | zero => intro y3_19 y4_19 y5_19 fp_19 H locs ls hs hm_19 hy0_19 hy1_19 hy2_19 hI hF hP hS hl; exact absurd hm_19 (by omega)
    | succ n_19 ih_19 =>
      have blk_96 : ∀ (y3_96 : Int32) (y4_96 : Int32) (y5_96 : Int32) (fp_96 : sg_F) (H : Heap) (locs : List Loc) (ls : Array Slot), sp = sX4_bestMemories_b96 (sX4_bestMemories_l19 x0 x1 n_19) x0 x1 y3_96 y4_96 y5_96 fp_96 L → 256 - y5_96.toInt < ((n_19 + 1 : Nat) : Int) → 0 ≤ y3_96.toInt ∧ y3_96.toInt ≤ 255 → 0 ≤ y4_96.toInt → 1 ≤ y5_96.toInt ∧ y5_96.toInt ≤ 255 → sgI loX hiX fp_96 → sgK WkX4_bestMemories f fp_96 → va_P D vwCl (sgw 52 h (eX ca h) fp_96 L Q) H → va_S (sgA 52 h s.heap.size) s.heap H locs → lv_has ls 9 [(0, .ref (h 13)), (1, .int x0), (2, .int x1), (3, .int y3_96), (4, .int y4_96), (5, .int y5_96)] → W p l e ({ frames := 7, cells := 0, slots := 0, locals := 170 }) s m ([.ref (h 13), .int x0, .int x1] : List Value).toArray below meth cd H locs 0 0 Qz (F0 m 96 ls []) := by
        intro y3_96 y4_96 y5_96 fp_96 H locs ls hs hm_19 hy0_96 hy1_96 hy2_96 hI hF hP hS hl
        obtain ⟨v_1, ev_1⟩ : ∃ z : Int32, z = y5_96 + 1 := ⟨_, rfl⟩
        have q_2 : v_1.toInt = y5_96.toInt + 1 := by rw [ev_1]; exact (bn_addc y5_96 1 (by decide) (by omega) (by omega))
        refine lv_iinc (v := v_1) (lv' := [(5, .int v_1), (0, .ref (h 13)), (1, .int x0), (2, .int x1), (3, .int y3_96), (4, .int y4_96)]) hx hb dX4_bestMemories_96 hl (k := 5) rfl (by rw [ev_1]; rfl) (by decide) rfl (fun ls hl => ?_)
        refine lv_goto (tgt := 19) hx hb dX4_bestMemories_99 (by decide) ?_
        exact ih_19 y3_96 y4_96 v_1 fp_96 _ _ _ (hs.trans ((spl_e ev_1 rfl))) (by omega) hy0_96 hy1_96 ⟨by omega, by omega⟩ hI hF hP hS (lv_sub hl [1, 2, 3, 4, 5, 0] rfl)
      have blk_89 : ∀ (y5_89 : Int32) (y7_89 : Int32) (fp_89 : sg_F) (H : Heap) (locs : List Loc) (ls : Array Slot), sp = sX4_bestMemories_b89 (sX4_bestMemories_l19 x0 x1 n_19) x0 x1 y5_89 y7_89 fp_89 L → 256 - y5_89.toInt < ((n_19 + 1 : Nat) : Int) → 1 ≤ y5_89.toInt ∧ y5_89.toInt ≤ 255 → 0 ≤ y7_89.toInt → sgI loX hiX fp_89 → sgK WkX4_bestMemories f fp_89 → va_P D vwCl (sgw 52 h (eX ca h) fp_89 L Q) H → va_S (sgA 52 h s.heap.size) s.heap H locs → lv_has ls 9 [(0, .ref (h 13)), (1, .int x0), (2, .int x1), (5, .int y5_89), (7, .int y7_89)] → W p l e ({ frames := 7, cells := 0, slots := 0, locals := 170 }) s m ([.ref (h 13), .int x0, .int x1] : List Value).toArray below meth cd H locs 0 0 Qz (F0 m 89 ls []) := by
        intro y5_89 y7_89 fp_89 H locs ls hs hm_19 hy0_89 hy1_89 hI hF hP hS hl
        refine lv_iload hx hb dX4_bestMemories_89 (lv_at hl 3 rfl) ?_
        refine lv_istore_n (lv' := [(3, .int y5_89), (0, .ref (h 13)), (1, .int x0), (2, .int x1), (5, .int y5_89), (7, .int y7_89)]) hx hb dX4_bestMemories_91 rfl hl (by decide) rfl (fun ls hl => ?_)
        refine lv_iload hx hb dX4_bestMemories_92 (lv_at hl 5 rfl) ?_
        refine lv_istore (lv' := [(4, .int y7_89), (3, .int y5_89), (0, .ref (h 13)), (1, .int x0), (2, .int x1), (5, .int y5_89), (7, .int y7_89)]) hx hb dX4_bestMemories_94 hl (by decide) rfl (fun ls hl => ?_)
        exact blk_96 y5_89 y7_89 y5_89 fp_89 _ _ _ hs hm_19 ⟨by omega, by omega⟩ hy1_89 hy0_89 hI hF hP hS (lv_sub hl [2, 3, 4, 1, 0, 5] rfl)
      have blk_68 : ∀ (y3_68 : Int32) (y4_68 : Int32) (y5_68 : Int32) (y6_68 : Int32) (y7_68 : Int32) (fp_68 : sg_F) (H : Heap) (locs : List Loc) (ls : Array Slot), sp = sX4_bestMemories_b68 (sX4_bestMemories_l19 x0 x1 n_19) x0 x1 y3_68 y4_68 y5_68 y6_68 y7_68 fp_68 L → 256 - y5_68.toInt < ((n_19 + 1 : Nat) : Int) → 0 ≤ y3_68.toInt ∧ y3_68.toInt ≤ 255 → 0 ≤ y4_68.toInt → 1 ≤ y5_68.toInt ∧ y5_68.toInt ≤ 255 → sgI loX hiX fp_68 → sgK WkX4_bestMemories f fp_68 → va_P D vwCl (sgw 52 h (eX ca h) fp_68 L Q) H → va_S (sgA 52 h s.heap.size) s.heap H locs → lv_has ls 9 [(0, .ref (h 13)), (1, .int x0), (2, .int x1), (3, .int y3_68), (4, .int y4_68), (5, .int y5_68), (6, .int y6_68), (7, .int y7_68)] → W p l e ({ frames := 7, cells := 0, slots := 0, locals := 170 }) s m ([.ref (h 13), .int x0, .int x1] : List Value).toArray below meth cd H locs 0 0 Qz (F0 m 68 ls []) := by
        intro y3_68 y4_68 y5_68 y6_68 y7_68 fp_68 H locs ls hs hm_19 hy0_68 hy1_68 hy2_68 hI hF hP hS hl
        refine lv_iconst (v := 0) hx hb dX4_bestMemories_68 ic_0 ?_
        refine lv_istore (lv' := [(8, .int 0), (0, .ref (h 13)), (1, .int x0), (2, .int x1), (3, .int y3_68), (4, .int y4_68), (5, .int y5_68), (6, .int y6_68), (7, .int y7_68)]) hx hb dX4_bestMemories_69 hl (by decide) rfl (fun ls hl => ?_)
        refine lv_iload hx hb dX4_bestMemories_71 (lv_at hl 7 rfl) ?_
        refine lv_iload_n hx hb dX4_bestMemories_73 rfl (lv_at hl 2 rfl) ?_
        refine lv_icmp_gt (tgt := 96) hx hb dX4_bestMemories_74 (by decide) (fun c => ?_) (fun c => ?_)
        · skip
          have c_3 : x0.toInt < y6_68.toInt := (by first | exact (bn_lt c) | (have z := bn_lt c; omega))
          exact blk_96 y3_68 y4_68 y5_68 fp_68 _ _ _ (hs.trans (((if_pos c_3).trans rfl))) hm_19 hy0_68 hy1_68 hy2_68 hI hF hP hS (lv_sub hl [1, 2, 3, 4, 5, 6] rfl)
        · skip
          have c_4 : y6_68.toInt ≤ x0.toInt := (by first | exact (bn_nlt c) | (have z := bn_nlt c; omega))
          replace hs := hs.trans ((if_neg (Int.not_lt.mpr c_4)).trans rfl)
          refine lv_iload hx hb dX4_bestMemories_77 (lv_at hl 8 rfl) ?_
          refine lv_iload hx hb dX4_bestMemories_79 (lv_at hl 5 rfl) ?_
          refine lv_icmp_gt (tgt := 89) hx hb dX4_bestMemories_81 (by decide) (fun c => ?_) (fun c => ?_)
          · skip
            have c_5 : y4_68.toInt < y7_68.toInt := (by first | exact (bn_lt c) | (have z := bn_lt c; omega))
            exact blk_89 y5_68 y7_68 fp_68 _ _ _ (hs.trans ((if_pos c_5).trans rfl)) hm_19 hy2_68 (by omega) hI hF hP hS (lv_sub hl [1, 2, 3, 6, 8] rfl)
          · skip
            have c_6 : y7_68.toInt ≤ y4_68.toInt := (by first | exact (bn_nlt c) | (have z := bn_nlt c; omega))
            refine lv_iload hx hb dX4_bestMemories_84 (lv_at hl 0 rfl) ?_
            refine lv_if_eq (tgt := 96) hx hb dX4_bestMemories_86 (by decide) (fun c => ?_) (fun c => absurd c (by decide))
            exact blk_96 y3_68 y4_68 y5_68 fp_68 _ _ _ (hs.trans ((if_neg (Int.not_lt.mpr c_6)).trans rfl)) hm_19 hy0_68 hy1_68 hy2_68 hI hF hP hS (lv_sub hl [1, 2, 3, 4, 5, 6] rfl)
      intro y3_19 y4_19 y5_19 fp_19 H locs ls hs hm_19 hy0_19 hy1_19 hy2_19 hI hF hP hS hl
      have hs : sp = sX4_bestMemories_h19 x0 x1 (sX4_bestMemories_l19 x0 x1 n_19) y3_19 y4_19 y5_19 fp_19 L := hs
      refine lv_iload hx hb dX4_bestMemories_19 (lv_at hl 5 rfl) ?_
      refine lv_iconst (v := 1) hx hb dX4_bestMemories_21 ic_1 ?_
      refine lv_aload_n hx hb dX4_bestMemories_22 rfl (lv_at hl 0 rfl) ?_
      refine sl_gX_13_0_4 hx hb hts hown hK hP dX4_bestMemories_23 ?_
      refine sl_gX_1_3_4 (v := (fp_19 1 3)) hx hb hts hown hK hP rfl dX4_bestMemories_26 ?_
      refine lv_topi (fun v_7 ev_7 => ?_)
      have q_8 : 0 ≤ v_7.toInt ∧ v_7.toInt ≤ 8 := by rw [ev_7]; exact hI 1 3
      refine lv_ishl hx hb dX4_bestMemories_29 ?_
      refine lv_topi (fun v_9 ev_9 => ?_)
      replace hs := hs.trans (spl_e ev_7 (spl_e ev_9 rfl))
      have q_10 : 1 ≤ v_9.toInt ∧ v_9.toInt ≤ 256 := by rw [ev_9]; have z := bn_shl1 (y := v_7) (by omega) (by omega); omega
      refine lv_icmp_ge (tgt := 102) hx hb dX4_bestMemories_30 (by decide) (fun c => ?_) (fun c => ?_)
      · skip
        have c_11 : v_9.toInt ≤ y5_19.toInt := (by first | exact (bn_le c) | (have z := bn_le c; omega))
        replace hs := hs.trans ((if_neg (Int.not_lt.mpr c_11)).trans rfl)
        refine lv_iload_n hx hb dX4_bestMemories_102 rfl (lv_at hl 2 rfl) ?_
        refine lv_if_ne (tgt := 110) hx hb dX4_bestMemories_103 (by decide) (fun c => ?_) (fun c => ?_)
        · skip
          have c_13 : x1.toInt ≠ 0 := (by first | exact (cm_ne1 ti_0 c) | (have z := bn_ne c; have k1 : (0 : Int32).toInt = 0 := ti_0; omega))
          refine lv_aload_n hx hb dX4_bestMemories_110 rfl (lv_at hl 0 rfl) ?_
          refine sl_gX_13_6_4 (v := (fp_19 13 6)) hx hb hts hown hK hP rfl dX4_bestMemories_111 ?_
          refine lv_topi (fun v_15 ev_15 => ?_)
          refine lv_iload hx hb dX4_bestMemories_114 (lv_at hl 4 rfl) ?_
          refine lv_isub hx hb dX4_bestMemories_116 ?_
          refine lv_topi (fun v_16 ev_16 => ?_)
          exact hret _ _ _ _ (v_16) fp_19 L Q dX4_bestMemories_117 hP hS ⟨⟨hI, hF, rfl, rfl⟩, trivial, (Eq.trans (Eq.symm (hs.trans ((if_neg c_13).trans (spl_e ev_15 (spl_e ev_16 rfl))))) hsp)⟩
        · skip
          have c_14 : x1.toInt = 0 := (by first | exact (cm_eq1 ti_0 c) | (have z := Int32.toInt_inj.mpr c; have k1 : (0 : Int32).toInt = 0 := ti_0; omega))
          refine lv_iload_n hx hb dX4_bestMemories_106 rfl (lv_at hl 3 rfl) ?_
          refine lv_goto (tgt := 117) hx hb dX4_bestMemories_107 (by decide) ?_
          exact hret _ _ _ _ (y3_19) fp_19 L Q dX4_bestMemories_117 hP hS ⟨⟨hI, hF, rfl, rfl⟩, trivial, (Eq.trans (Eq.symm (hs.trans ((if_pos c_14).trans rfl))) hsp)⟩
      · skip
        have c_12 : y5_19.toInt < v_9.toInt := (by first | exact (bn_nle c) | (have z := bn_nle c; omega))
        refine lv_iload hx hb dX4_bestMemories_33 (lv_at hl 5 rfl) ?_
        refine sg_calli (va_runS (As := [.int y5_19]) (rest := []) ⟨hx, hb, hml, hown, hts⟩ (kJ6_bitCount_0f7a4 l D ca za h hh fp_19 L Q hI y5_19 (by omega) H.size) (va_cwS 1 hts (gw_S (fun _ h => List.mem_cons_of_mem _ h) mw_418 mw_419 mw_420 mw_417) rfl rfl rfl (by decide +kernel) ⟨Nat.le_of_ble_eq_true rfl, Nat.le_of_ble_eq_true rfl⟩) (sg_preS hA hK hP hS hZ) rfl rfl hl.1 rfl (lv_room (Nat.le_of_ble_eq_true rfl)) dX4_bestMemories_35 ⟨Nat.le_refl _, Nat.le_refl _⟩) hA hS (fun r_20 f_17 L_18 Q_19 H locs hq hP hS => ?_)
        obtain ⟨⟨ef9, eL9, eQ9⟩, hq, u_21⟩ := hq
        rw [ef9, eL9, eQ9] at hP; clear ef9 eL9 eQ9
        refine lv_istore (lv' := [(6, .int r_20), (0, .ref (h 13)), (1, .int x0), (2, .int x1), (3, .int y3_19), (4, .int y4_19), (5, .int y5_19)]) hx hb dX4_bestMemories_38 hl (by decide) rfl (fun ls hl => ?_)
        refine lv_aload_n hx hb dX4_bestMemories_40 rfl (lv_at hl 1 rfl) ?_
        refine lv_iload hx hb dX4_bestMemories_41 (lv_at hl 6 rfl) ?_
        refine sg_calli (va_runV (As := [.int y5_19]) (rest := []) ⟨hx, hb, hml, hown, hts⟩ (kX4_sparedBy l D ca za h hh fp_19 L Q hI y5_19 ⟨by omega, by omega⟩ H.size) (sl_c4_sparedBy_0_0_0_0_4 hts ⟨Nat.le_of_ble_eq_true rfl, Nat.le_of_ble_eq_true rfl⟩) (sl_vX_13 hA hK hP hS hZ) rfl rfl hl.1 rfl (lv_room (Nat.le_of_ble_eq_true rfl)) dX4_bestMemories_43 ⟨Nat.le_refl _, Nat.le_refl _⟩) hA hS (fun r_25 f_22 L_23 Q_24 H locs hq hP hS => ?_)
        obtain ⟨⟨ef9, eL9, eQ9⟩, hq, u_26⟩ := hq
        replace hs := hs.trans ((if_pos c_12).trans (spl_e u_21 (spl_e u_26 rfl)))
        rw [ef9, eL9, eQ9] at hP; clear ef9 eL9 eQ9
        refine lv_istore (lv' := [(7, .int r_25), (6, .int r_20), (0, .ref (h 13)), (1, .int x0), (2, .int x1), (3, .int y3_19), (4, .int y4_19), (5, .int y5_19)]) hx hb dX4_bestMemories_46 hl (by decide) rfl (fun ls hl => ?_)
        refine lv_iload hx hb dX4_bestMemories_48 (lv_at hl 0 rfl) ?_
        refine lv_iload hx hb dX4_bestMemories_50 (lv_at hl 6 rfl) ?_
        refine lv_icmp_ne (tgt := 68) hx hb dX4_bestMemories_52 (by decide) (fun c => ?_) (fun c => ?_)
        · skip
          have c_27 : r_25.toInt ≠ y4_19.toInt := (by first | exact (bn_ne c) | (have z := bn_ne c; omega))
          exact blk_68 y3_19 y4_19 y5_19 r_20 r_25 fp_19 _ _ _ (hs.trans ((if_neg c_27).trans rfl)) (by omega) hy0_19 hy1_19 ⟨by omega, by omega⟩ hI hF hP hS (lv_sub hl [2, 3, 4, 5, 6, 7, 1, 0] rfl)
        · skip
          have c_28 : r_25.toInt = y4_19.toInt := (by first | exact (Int32.toInt_inj.mpr c) | (have z := Int32.toInt_inj.mpr c; omega))
          refine lv_iload hx hb dX4_bestMemories_55 (lv_at hl 1 rfl) ?_
          refine lv_iload_n hx hb dX4_bestMemories_57 rfl (lv_at hl 5 rfl) ?_
          refine sg_calli (va_runS (As := [.int y3_19]) (rest := [.int r_20]) ⟨hx, hb, hml, hown, hts⟩ (kJ6_bitCount_0f7a4 l D ca za h hh fp_19 L Q hI y3_19 (by omega) H.size) (va_cwS 1 hts (gw_S (fun _ h => List.mem_cons_of_mem _ h) mw_418 mw_419 mw_420 mw_417) rfl rfl rfl (by decide +kernel) ⟨Nat.le_of_ble_eq_true rfl, Nat.le_of_ble_eq_true rfl⟩) (sg_preS hA hK hP hS hZ) rfl rfl hl.1 rfl (lv_room (Nat.le_of_ble_eq_true rfl)) dX4_bestMemories_58 ⟨Nat.le_refl _, Nat.le_refl _⟩) hA hS (fun r_32 f_29 L_30 Q_31 H locs hq hP hS => ?_)
          obtain ⟨⟨ef9, eL9, eQ9⟩, hq, u_33⟩ := hq
          replace hs := hs.trans ((if_pos c_28).trans (spl_e u_33 rfl))
          rw [ef9, eL9, eQ9] at hP; clear ef9 eL9 eQ9
          refine lv_icmp_ge (tgt := 68) hx hb dX4_bestMemories_61 (by decide) (fun c => ?_) (fun c => ?_)
          · skip
            have c_34 : r_32.toInt ≤ r_20.toInt := (by first | exact (bn_le c) | (have z := bn_le c; omega))
            exact blk_68 y3_19 y4_19 y5_19 r_20 r_25 fp_19 _ _ _ (hs.trans ((if_neg (Int.not_lt.mpr c_34)).trans rfl)) (by omega) hy0_19 hy1_19 ⟨by omega, by omega⟩ hI hF hP hS (lv_sub hl [2, 3, 4, 5, 6, 7, 1, 0] rfl)
          · skip
            have c_35 : r_20.toInt < r_32.toInt := (by first | exact (bn_nle c) | (have z := bn_nle c; omega))
            replace hs := hs.trans ((if_pos c_35).trans rfl)
            refine lv_iconst (v := 1) hx hb dX4_bestMemories_64 ic_1 ?_
            refine lv_goto (tgt := 69) hx hb dX4_bestMemories_65 (by decide) ?_
            refine lv_istore (lv' := [(8, .int 1), (7, .int r_25), (6, .int r_20), (0, .ref (h 13)), (1, .int x0), (2, .int x1), (3, .int y3_19), (4, .int y4_19), (5, .int y5_19)]) hx hb dX4_bestMemories_69 hl (by decide) rfl (fun ls hl => ?_)
            refine lv_iload hx hb dX4_bestMemories_71 (lv_at hl 2 rfl) ?_
            refine lv_iload_n hx hb dX4_bestMemories_73 rfl (lv_at hl 4 rfl) ?_
            refine lv_icmp_gt (tgt := 96) hx hb dX4_bestMemories_74 (by decide) (fun c => ?_) (fun c => ?_)
            · skip
              have c_36 : x0.toInt < r_20.toInt := (by first | exact (bn_lt c) | (have z := bn_lt c; omega))
              exact blk_96 y3_19 y4_19 y5_19 fp_19 _ _ _ (hs.trans ((if_pos c_36).trans rfl)) (by omega) hy0_19 hy1_19 ⟨by omega, by omega⟩ hI hF hP hS (lv_sub hl [3, 4, 5, 6, 7, 8] rfl)
            · skip
              have c_37 : r_20.toInt ≤ x0.toInt := (by first | exact (bn_nlt c) | (have z := bn_nlt c; omega))
              replace hs := hs.trans ((if_neg (Int.not_lt.mpr c_37)).trans rfl)
              refine lv_iload hx hb dX4_bestMemories_77 (lv_at hl 1 rfl) ?_
              refine lv_iload hx hb dX4_bestMemories_79 (lv_at hl 7 rfl) ?_
              refine lv_icmp_gt (tgt := 89) hx hb dX4_bestMemories_81 (by decide) (fun c => ?_) (fun c => ?_)
              · skip
                have c_38 : y4_19.toInt < r_25.toInt := (by first | exact (bn_lt c) | (have z := bn_lt c; omega))
                exact blk_89 y5_19 r_25 fp_19 _ _ _ (hs.trans ((if_pos c_38).trans rfl)) (by omega) ⟨by omega, by omega⟩ (by omega) hI hF hP hS (lv_sub hl [3, 4, 5, 8, 1] rfl)
              · skip
                have c_39 : r_25.toInt ≤ y4_19.toInt := (by first | exact (bn_nlt c) | (have z := bn_nlt c; omega))
                refine lv_iload hx hb dX4_bestMemories_84 (lv_at hl 0 rfl) ?_
                refine lv_if_eq (tgt := 96) hx hb dX4_bestMemories_86 (by decide) (fun c => absurd c (by decide)) (fun c => ?_)
                exact blk_89 y5_19 r_25 fp_19 _ _ _ (hs.trans ((if_neg (Int.not_lt.mpr c_39)).trans rfl)) (by omega) ⟨by omega, by omega⟩ (by omega) hI hF hP hS (lv_sub hl [3, 4, 5, 8, 1] rfl)
  refine lv_aload_n hx hb dX4_bestMemories_0 rfl (lv_at hl 0 rfl) ?_
  refine lv_aload_n hx hb dX4_bestMemories_1 rfl (lv_at hl 0 rfl) ?_
  refine sl_gX_13_1_4 hx hb hts hown hK hP dX4_bestMemories_2 ?_
  refine sl_gX_10_2_4 (v := (f 10 2)) hx hb hts hown hK hP rfl dX4_bestMemories_5 ?_
  refine lv_topi (fun v_40 ev_40 => ?_)
  have q_41 : 0 ≤ v_40.toInt ∧ v_40.toInt ≤ 21 := by rw [ev_40]; exact hI 10 2
  refine sg_callv (va_runV (As := [.int v_40]) (rest := []) ⟨hx, hb, hml, hown, hts⟩ (kX4_live l D ca za h hh f L Q hI v_40 q_41 H.size) (sl_c4_live_6_0_0_148_4 hts ⟨Nat.le_of_ble_eq_true rfl, Nat.le_of_ble_eq_true rfl⟩) (sl_vX_13 hA hK hP hS hZ) rfl rfl hl.1 rfl (lv_room (Nat.le_of_ble_eq_true rfl)) dX4_bestMemories_8 ⟨Nat.le_refl _, Nat.le_refl _⟩) hA hS (fun f_42 L_43 Q_44 H locs hq hP hS => ?_)
  obtain ⟨⟨hI, hk_f_42, eL9, eQ9⟩, u_45⟩ := hq
  rw [eL9, eQ9] at hP; clear eL9 eQ9
  have hF : sgK WkX4_bestMemories f f_42 := sgK.tr hF hk_f_42 (by decide +kernel)
  refine lv_iconst (v := 0) hx hb dX4_bestMemories_11 ic_0 ?_
  refine lv_istore_n (lv' := [(3, .int 0), (0, .ref (h 13)), (1, .int x0), (2, .int x1)]) hx hb dX4_bestMemories_12 rfl hl (by decide) rfl (fun ls hl => ?_)
  refine lv_iconst (v := 0) hx hb dX4_bestMemories_13 ic_0 ?_
  refine lv_istore (lv' := [(4, .int 0), (3, .int 0), (0, .ref (h 13)), (1, .int x0), (2, .int x1)]) hx hb dX4_bestMemories_14 hl (by decide) rfl (fun ls hl => ?_)
  refine lv_iconst (v := 1) hx hb dX4_bestMemories_16 ic_1 ?_
  refine lv_istore (lv' := [(5, .int 1), (4, .int 0), (3, .int 0), (0, .ref (h 13)), (1, .int x0), (2, .int x1)]) hx hb dX4_bestMemories_17 hl (by decide) rfl (fun ls hl => ?_)
  exact loop_19 256 0 0 1 f_42 _ _ _ (hs.trans ((spl_e ev_40 (spl_e u_45 rfl)))) (by have kc0 : (0 : Int32).toInt = 0 := ti_0; have kc1 : (0 : Int32).toInt = 0 := ti_0; have kc2 : (1 : Int32).toInt = 1 := ti_1; omega) (by decide) (by decide) (by decide) hI hF hP hS (lv_sub hl [3, 4, 5, 2, 1, 0] rfl)

abbrev WkX11_memories : List (Nat × Nat × Option Nat) := [(8, 8, none), (9, 9, none), (10, 10, some 2), (10, 10, some 3), (11, 11, none), (12, 12, none), (13, 13, some 5), (13, 13, some 6), (14, 14, none), (15, 15, none), (16, 16, none)]
set_option maxHeartbeats 4000000 in
set_option maxRecDepth 100000 in
theorem kX11_memories (l : Launch) (D : va_G) (ca : Nat → ClassId) (za h : Nat → Nat) (hh : sgH 52 h) (f : sg_F) (L : sg_L) (Q : sg_Q) (hI : sgI loX hiX f) (x0 : Int32) (x1 : Int32) (x2 : Int32) (sz : Nat) : Met l yX11_memories gwX11_memories { frames := 8, cells := 0, slots := 0, locals := 198 } (sgP D vwCl (tyX ca) 52 h (eX ca h) zcX za f L Q sz [.ref (h 0), .int x0, .int x1, .int x2]) (sgQi D vwCl 52 h (eX ca h) sz (fun r f1 L1 Q1 => ((sgI loX hiX f1 ∧ sgK WkX11_memories f f1 ∧ L1 = L ∧ Q1 = Q) ∧ True ∧ (r, f1) = sX11_memories x0 x1 x2 f L))) 0 0 (sgA 52 h sz) := by
  refine sg_ofWi (cc := cX11_memories) (maxL := 5) RX11 (by decide) rfl rfl (Nat.le_of_ble_eq_true rfl) ?_
  intro p e s m below meth cd Qz ls hx hb hml hown hts hK hZ hP hS hl hret
  have hA := sgY.self (n := 52) (h := h) (sz := s.heap.size)
  have hl : lv_has ls 5 [(0, .ref (h 0)), (1, .int x0), (2, .int x1), (3, .int x2)] := hl
  obtain ⟨H, hH⟩ : ∃ z : Heap, z = s.heap := ⟨_, rfl⟩
  obtain ⟨locs, hlo⟩ : ∃ z : List Loc, z = [] := ⟨_, rfl⟩
  have hP : va_P D vwCl (sgw 52 h (eX ca h) f L Q) H := by rw [hH]; exact hP
  have hS : va_S (sgA 52 h s.heap.size) s.heap H locs := by rw [hH, hlo]; exact hS
  suffices hgo : W p l e ({ frames := 8, cells := 0, slots := 0, locals := 198 }) s m ([.ref (h 0), .int x0, .int x1, .int x2] : List Value).toArray below meth cd H locs 0 0 Qz (F0 m 0 ls []) by rw [hH, hlo] at hgo; exact hgo
  clear hH hlo
  obtain ⟨sp, hsp⟩ : ∃ z : Int32 × sg_F, z = sX11_memories x0 x1 x2 f L := ⟨_, rfl⟩
  have hs : sp = sX11_memories x0 x1 x2 f L := hsp
  have hF : sgK WkX11_memories f f := sgK.rf
  refine lv_iload_n hx hb dX11_memories_0 rfl (lv_at hl 1 rfl) ?_
  refine sg_calli (va_runS (As := [.int x0]) (rest := []) ⟨hx, hb, hml, hown, hts⟩ (kX11_isShelf l D ca za h hh f L Q hI x0 H.size) (va_cwS 1 hts (gw_S (fun _ h => List.mem_cons_of_mem _ h) mw_35 mw_36 mw_37 mw_34) rfl rfl rfl hd_yX11_isShelf.2 ⟨Nat.le_of_ble_eq_true rfl, Nat.le_of_ble_eq_true rfl⟩) (sg_preS hA hK hP hS hZ) rfl rfl hl.1 rfl (lv_room (Nat.le_of_ble_eq_true rfl)) dX11_memories_1 ⟨Nat.le_refl _, Nat.le_refl _⟩) hA hS (fun r_4 f_1 L_2 Q_3 H locs hq hP hS => ?_)
  obtain ⟨⟨ef9, eL9, eQ9⟩, hq, u_5⟩ := hq
  replace hs := hs.trans (spl_e u_5 rfl)
  rw [ef9, eL9, eQ9] at hP; clear ef9 eL9 eQ9
  rcases hq with ⟨rfl, hq⟩ | ⟨rfl, hq⟩
  · skip
    have hc_6 := hq
    refine lv_if_eq (tgt := 25) hx hb dX11_memories_4 (by decide) (fun c => absurd c (by decide)) (fun c => ?_)
    refine lv_iload_n hx hb dX11_memories_7 rfl (lv_at hl 2 rfl) ?_
    refine lv_if_lt (tgt := 25) hx hb dX11_memories_8 (by decide) (fun c => ?_) (fun c => ?_)
    · skip
      have c_7 : x1.toInt < 0 := (by first | exact (cm_lt1 ti_0 c) | (have z := bn_lt c; have k1 : (0 : Int32).toInt = 0 := ti_0; omega))
      refine lv_iconst (v := (-1)) hx hb dX11_memories_25 ic_m1 ?_
      have k99 : ((-1) : Int32).toInt = (-1) := ti_m1
      exact hret _ _ _ _ (-1) f L Q dX11_memories_26 hP hS ⟨⟨hI, hF, rfl, rfl⟩, trivial, (Eq.trans (Eq.symm (hs.trans ((if_pos rfl).trans ((if_pos c_7).trans rfl)))) hsp)⟩
    · skip
      have c_8 : 0 ≤ x1.toInt := (by first | exact (cm_nlt1 ti_0 c) | (have z := bn_nlt c; have k1 : (0 : Int32).toInt = 0 := ti_0; omega))
      replace hs := hs.trans ((if_pos rfl).trans ((if_neg (Int.not_lt.mpr c_8)).trans rfl))
      refine lv_iload_n hx hb dX11_memories_11 rfl (lv_at hl 2 rfl) ?_
      refine lv_iconst (v := 3) hx hb dX11_memories_12 ic_3 ?_
      refine lv_icmp_gt (tgt := 25) hx hb dX11_memories_13 (by decide) (fun c => ?_) (fun c => ?_)
      · skip
        have c_9 : 3 < x1.toInt := (by first | exact (cm_lt0 ti_3 c) | (have z := bn_lt c; have k1 : (3 : Int32).toInt = 3 := ti_3; omega))
        refine lv_iconst (v := (-1)) hx hb dX11_memories_25 ic_m1 ?_
        have k99 : ((-1) : Int32).toInt = (-1) := ti_m1
        exact hret _ _ _ _ (-1) f L Q dX11_memories_26 hP hS ⟨⟨hI, hF, rfl, rfl⟩, trivial, (Eq.trans (Eq.symm (hs.trans ((if_pos c_9).trans rfl))) hsp)⟩
      · skip
        have c_10 : x1.toInt ≤ 3 := (by first | exact (cm_nlt0 ti_3 c) | (have z := bn_nlt c; have k1 : (3 : Int32).toInt = 3 := ti_3; omega))
        replace hs := hs.trans ((if_neg (Int.not_lt.mpr c_10)).trans rfl)
        refine lv_iload_n hx hb dX11_memories_16 rfl (lv_at hl 3 rfl) ?_
        refine lv_if_lt (tgt := 25) hx hb dX11_memories_17 (by decide) (fun c => ?_) (fun c => ?_)
        · skip
          have c_11 : x2.toInt < 0 := (by first | exact (cm_lt1 ti_0 c) | (have z := bn_lt c; have k1 : (0 : Int32).toInt = 0 := ti_0; omega))
          refine lv_iconst (v := (-1)) hx hb dX11_memories_25 ic_m1 ?_
          have k99 : ((-1) : Int32).toInt = (-1) := ti_m1
          exact hret _ _ _ _ (-1) f L Q dX11_memories_26 hP hS ⟨⟨hI, hF, rfl, rfl⟩, trivial, (Eq.trans (Eq.symm (hs.trans ((if_pos c_11).trans rfl))) hsp)⟩
        · skip
          have c_12 : 0 ≤ x2.toInt := (by first | exact (cm_nlt1 ti_0 c) | (have z := bn_nlt c; have k1 : (0 : Int32).toInt = 0 := ti_0; omega))
          replace hs := hs.trans ((if_neg (Int.not_lt.mpr c_12)).trans rfl)
          refine lv_iload_n hx hb dX11_memories_20 rfl (lv_at hl 3 rfl) ?_
          refine lv_iconst (v := 1) hx hb dX11_memories_21 ic_1 ?_
          refine lv_icmp_le (tgt := 27) hx hb dX11_memories_22 (by decide) (fun c => ?_) (fun c => ?_)
          · skip
            have c_13 : x2.toInt ≤ 1 := (by first | exact (cm_le1 ti_1 c) | (have z := bn_le c; have k1 : (1 : Int32).toInt = 1 := ti_1; omega))
            refine lv_aload_n hx hb dX11_memories_27 rfl (lv_at hl 0 rfl) ?_
            refine lv_iload_n hx hb dX11_memories_28 rfl (lv_at hl 1 rfl) ?_
            refine sg_calli (va_runV (As := [.int x0]) (rest := []) ⟨hx, hb, hml, hown, hts⟩ (kX11_readWeek l D ca za h hh f L Q hI x0 ⟨by omega, by omega⟩ H.size) (sl_c11_readWeek_2_0_0_45_11 hts ⟨Nat.le_of_ble_eq_true rfl, Nat.le_of_ble_eq_true rfl⟩) (sl_vX_0 hA hK hP hS hZ) rfl rfl hl.1 rfl (lv_room (Nat.le_of_ble_eq_true rfl)) dX11_memories_29 ⟨Nat.le_refl _, Nat.le_refl _⟩) hA hS (fun r_18 f_15 L_16 Q_17 H locs hq hP hS => ?_)
            obtain ⟨⟨hI, hk_f_15, eL9, eQ9⟩, hq, u_19⟩ := hq
            replace hs := hs.trans ((if_neg (Int.not_lt.mpr c_13)).trans (spl2_e u_19 rfl))
            rw [eL9, eQ9] at hP; clear eL9 eQ9
            have hF : sgK WkX11_memories f f_15 := sgK.tr hF hk_f_15 (by decide +kernel)
            refine lv_istore (lv' := [(4, .int r_18), (0, .ref (h 0)), (1, .int x0), (2, .int x1), (3, .int x2)]) hx hb dX11_memories_32 hl (by decide) rfl (fun ls hl => ?_)
            refine lv_iload hx hb dX11_memories_34 (lv_at hl 0 rfl) ?_
            refine lv_if_eq (tgt := 44) hx hb dX11_memories_36 (by decide) (fun c => ?_) (fun c => ?_)
            · skip
              have c_20 : r_18.toInt = 0 := (by first | exact (cm_eq1 ti_0 c) | (have z := Int32.toInt_inj.mpr c; have k1 : (0 : Int32).toInt = 0 := ti_0; omega))
              refine lv_aload_n hx hb dX11_memories_44 rfl (lv_at hl 1 rfl) ?_
              refine sl_gX_0_2_11 hx hb hts hown hK hP dX11_memories_45 ?_
              refine lv_iload_n hx hb dX11_memories_48 rfl (lv_at hl 3 rfl) ?_
              refine lv_iload_n hx hb dX11_memories_49 rfl (lv_at hl 4 rfl) ?_
              refine sg_calli (va_runV (As := [.int x1, .int x2]) (rest := []) ⟨hx, hb, hml, hown, hts⟩ (kX4_bestMemories l D ca za h hh f_15 L Q hI x1 x2 ⟨by omega, by omega⟩ ⟨by omega, by omega⟩ H.size) (sl_c4_bestMemories_7_0_0_170_11 hts ⟨Nat.le_of_ble_eq_true rfl, Nat.le_of_ble_eq_true rfl⟩) (sl_vX_13 hA hK hP hS hZ) rfl rfl hl.1 rfl (lv_room (Nat.le_of_ble_eq_true rfl)) dX11_memories_50 ⟨Nat.le_refl _, Nat.le_refl _⟩) hA hS (fun r_25 f_22 L_23 Q_24 H locs hq hP hS => ?_)
              obtain ⟨⟨hI, hk_f_22, eL9, eQ9⟩, hq, u_26⟩ := hq
              rw [eL9, eQ9] at hP; clear eL9 eQ9
              have hF : sgK WkX11_memories f f_22 := sgK.tr hF hk_f_22 (by decide +kernel)
              exact hret _ _ _ _ (r_25) f_22 L Q dX11_memories_53 hP hS ⟨⟨hI, hF, rfl, rfl⟩, trivial, (Eq.trans (Eq.symm (hs.trans ((if_pos c_20).trans (spl2_e u_26 rfl)))) hsp)⟩
            · skip
              have c_21 : r_18.toInt ≠ 0 := (by first | exact (cm_ne1 ti_0 c) | (have z := bn_ne c; have k1 : (0 : Int32).toInt = 0 := ti_0; omega))
              refine lv_iload hx hb dX11_memories_39 (lv_at hl 0 rfl) ?_
              refine lv_goto (tgt := 53) hx hb dX11_memories_41 (by decide) ?_
              exact hret _ _ _ _ (r_18) f_15 L Q dX11_memories_53 hP hS ⟨⟨hI, hF, rfl, rfl⟩, trivial, (Eq.trans (Eq.symm (hs.trans ((if_neg c_21).trans rfl))) hsp)⟩
          · skip
            have c_14 : 1 < x2.toInt := (by first | exact (cm_nle1 ti_1 c) | (have z := bn_nle c; have k1 : (1 : Int32).toInt = 1 := ti_1; omega))
            refine lv_iconst (v := (-1)) hx hb dX11_memories_25 ic_m1 ?_
            have k99 : ((-1) : Int32).toInt = (-1) := ti_m1
            exact hret _ _ _ _ (-1) f L Q dX11_memories_26 hP hS ⟨⟨hI, hF, rfl, rfl⟩, trivial, (Eq.trans (Eq.symm (hs.trans ((if_pos c_14).trans rfl))) hsp)⟩
  · skip
    have hc_6 := hq
    refine lv_if_eq (tgt := 25) hx hb dX11_memories_4 (by decide) (fun c => ?_) (fun c => absurd c (by decide))
    refine lv_iconst (v := (-1)) hx hb dX11_memories_25 ic_m1 ?_
    have k99 : ((-1) : Int32).toInt = (-1) := ti_m1
    exact hret _ _ _ _ (-1) f L Q dX11_memories_26 hP hS ⟨⟨hI, hF, rfl, rfl⟩, trivial, (Eq.trans (Eq.symm (hs.trans ((if_neg (by decide)).trans rfl))) hsp)⟩

abbrev WkX4_savedByMarks : List (Nat × Nat × Option Nat) := [(8, 8, none), (9, 9, none), (13, 13, some 5), (13, 13, some 6), (14, 14, none), (15, 15, none), (16, 16, none)]
set_option maxHeartbeats 4000000 in
set_option maxRecDepth 100000 in
theorem kX4_savedByMarks (l : Launch) (D : va_G) (ca : Nat → ClassId) (za h : Nat → Nat) (hh : sgH 52 h) (f : sg_F) (L : sg_L) (Q : sg_Q) (hI : sgI loX hiX f) (sz : Nat) : Met l yX4_savedByMarks gwX4_savedByMarks { frames := 7, cells := 0, slots := 0, locals := 170 } (sgP D vwCl (tyX ca) 52 h (eX ca h) zcX za f L Q sz [.ref (h 13)]) (sgQi D vwCl 52 h (eX ca h) sz (fun r f1 L1 Q1 => ((sgI loX hiX f1 ∧ sgK WkX4_savedByMarks f f1 ∧ L1 = L ∧ Q1 = Q) ∧ True ∧ (r, f1) = sX4_savedByMarks f L))) 0 0 (sgA 52 h sz) := by
  refine sg_ofWi (cc := cX4_savedByMarks) (maxL := 4) RX4 (by decide) rfl rfl (Nat.le_of_ble_eq_true rfl) ?_
  intro p e s m below meth cd Qz ls hx hb hml hown hts hK hZ hP hS hl hret
  have hA := sgY.self (n := 52) (h := h) (sz := s.heap.size)
  have hl : lv_has ls 4 [(0, .ref (h 13))] := hl
  obtain ⟨H, hH⟩ : ∃ z : Heap, z = s.heap := ⟨_, rfl⟩
  obtain ⟨locs, hlo⟩ : ∃ z : List Loc, z = [] := ⟨_, rfl⟩
  have hP : va_P D vwCl (sgw 52 h (eX ca h) f L Q) H := by rw [hH]; exact hP
  have hS : va_S (sgA 52 h s.heap.size) s.heap H locs := by rw [hH, hlo]; exact hS
  suffices hgo : W p l e ({ frames := 7, cells := 0, slots := 0, locals := 170 }) s m ([.ref (h 13)] : List Value).toArray below meth cd H locs 0 0 Qz (F0 m 0 ls []) by rw [hH, hlo] at hgo; exact hgo
  clear hH hlo
  obtain ⟨sp, hsp⟩ : ∃ z : Int32 × sg_F, z = sX4_savedByMarks f L := ⟨_, rfl⟩
  have hs : sp = sX4_savedByMarks f L := hsp
  have hF : sgK WkX4_savedByMarks f f := sgK.rf
  have loop_15 : ∀ (n_15 : Nat) (y1_15 : Int32) (y2_15 : Int32) (fp_15 : sg_F) (H : Heap) (locs : List Loc) (ls : Array Slot), sp = sX4_savedByMarks_l15 n_15 y1_15 y2_15 fp_15 L → 3 - y2_15.toInt < (n_15 : Int) → 0 ≤ y2_15.toInt ∧ y2_15.toInt ≤ 3 → sgI loX hiX fp_15 → sgK WkX4_savedByMarks f fp_15 → va_P D vwCl (sgw 52 h (eX ca h) fp_15 L Q) H → va_S (sgA 52 h s.heap.size) s.heap H locs → lv_has ls 4 [(0, .ref (h 13)), (1, .int y1_15), (2, .int y2_15)] → W p l e ({ frames := 7, cells := 0, slots := 0, locals := 170 }) s m ([.ref (h 13)] : List Value).toArray below meth cd H locs 0 0 Qz (F0 m 15 ls []) := by
    intro n_15
    induction n_15 with
    | zero => intro y1_15 y2_15 fp_15 H locs ls hs hm_15 hy0_15 hI hF hP hS hl; exact absurd hm_15 (by omega)
    | succ n_15 ih_15 =>
      intro y1_15 y2_15 fp_15 H locs ls hs hm_15 hy0_15 hI hF hP hS hl
      have hs : sp = sX4_savedByMarks_h15 (sX4_savedByMarks_l15 n_15) y1_15 y2_15 fp_15 L := hs
      refine lv_iload_n hx hb dX4_savedByMarks_15 rfl (lv_at hl 2 rfl) ?_
      refine lv_iconst (v := 3) hx hb dX4_savedByMarks_16 ic_3 ?_
      refine lv_icmp_ge (tgt := 50) hx hb dX4_savedByMarks_17 (by decide) (fun c => ?_) (fun c => ?_)
      · skip
        have c_1 : 3 ≤ y2_15.toInt := (by first | exact (cm_le0 ti_3 c) | (have z := bn_le c; have k1 : (3 : Int32).toInt = 3 := ti_3; omega))
        refine lv_iload_n hx hb dX4_savedByMarks_50 rfl (lv_at hl 1 rfl) ?_
        exact hret _ _ _ _ (y1_15) fp_15 L Q dX4_savedByMarks_51 hP hS ⟨⟨hI, hF, rfl, rfl⟩, trivial, (Eq.trans (Eq.symm (hs.trans (((if_neg (Int.not_lt.mpr c_1)).trans rfl)))) hsp)⟩
      · skip
        have c_2 : y2_15.toInt < 3 := (by first | exact (cm_nle0 ti_3 c) | (have z := bn_nle c; have k1 : (3 : Int32).toInt = 3 := ti_3; omega))
        refine lv_aload_n hx hb dX4_savedByMarks_20 rfl (lv_at hl 0 rfl) ?_
        refine sl_gX_13_0_4 hx hb hts hown hK hP dX4_savedByMarks_21 ?_
        refine lv_iload_n hx hb dX4_savedByMarks_24 rfl (lv_at hl 2 rfl) ?_
        refine sg_calli (va_runV (As := [.int y2_15]) (rest := []) ⟨hx, hb, hml, hown, hts⟩ (kX0_priceOf l D ca za h hh fp_15 L Q hI y2_15 ⟨by omega, by omega⟩ H.size) (sl_c0_priceOf_0_0_0_0_4 hts ⟨Nat.le_of_ble_eq_true rfl, Nat.le_of_ble_eq_true rfl⟩) (sl_vX_1 hA hK hP hS hZ) rfl rfl hl.1 rfl (lv_room (Nat.le_of_ble_eq_true rfl)) dX4_savedByMarks_25 ⟨Nat.le_refl _, Nat.le_refl _⟩) hA hS (fun r_6 f_3 L_4 Q_5 H locs hq hP hS => ?_)
        obtain ⟨⟨ef9, eL9, eQ9⟩, hq, u_7⟩ := hq
        rw [ef9, eL9, eQ9] at hP; clear ef9 eL9 eQ9
        refine lv_istore_n (lv' := [(3, .int r_6), (0, .ref (h 13)), (1, .int y1_15), (2, .int y2_15)]) hx hb dX4_savedByMarks_28 rfl hl (by decide) rfl (fun ls hl => ?_)
        refine lv_iload_n hx hb dX4_savedByMarks_29 rfl (lv_at hl 2 rfl) ?_
        refine lv_aload_n hx hb dX4_savedByMarks_30 rfl (lv_at hl 1 rfl) ?_
        refine sl_gX_13_3_4 hx hb hts hown hK hP dX4_savedByMarks_31 ?_
        refine lv_iload_n hx hb dX4_savedByMarks_34 rfl (lv_at hl 3 rfl) ?_
        refine sg_iald hx hb hK hP 15 (by decide) 0 rfl rfl (i := y2_15) (vp_in_iff.mpr ⟨by omega, by omega⟩) dX4_savedByMarks_35 ?_
        refine lv_topi (fun v_8 ev_8 => ?_)
        refine lv_iload_n hx hb dX4_savedByMarks_36 rfl (lv_at hl 0 rfl) ?_
        refine lv_iload_n hx hb dX4_savedByMarks_37 rfl (lv_at hl 0 rfl) ?_
        refine lv_iconst (v := 2) hx hb dX4_savedByMarks_38 ic_2 ?_
        refine lv_idiv hx hb dX4_savedByMarks_39 (by decide) ?_
        refine lv_topi (fun v_9 ev_9 => ?_)
        have q_10 : v_9.toInt = r_6.toInt / 2 := by rw [ev_9]; exact bn_divI (by omega) (by decide) (by decide)
        refine lv_isub hx hb dX4_savedByMarks_40 ?_
        refine lv_topi (fun v_11 ev_11 => ?_)
        have q_12 : v_11.toInt = r_6.toInt - v_9.toInt := by rw [ev_11]; first | exact bn_subI (by omega) (by omega) | exact (bn_subI (by omega) (by omega)).trans (by omega)
        refine lv_imul hx hb dX4_savedByMarks_41 ?_
        refine lv_topi (fun v_13 ev_13 => ?_)
        refine lv_iadd hx hb dX4_savedByMarks_42 ?_
        refine lv_topi (fun v_14 ev_14 => ?_)
        refine lv_istore_n (lv' := [(1, .int v_14), (3, .int r_6), (0, .ref (h 13)), (2, .int y2_15)]) hx hb dX4_savedByMarks_43 rfl hl (by decide) rfl (fun ls hl => ?_)
        obtain ⟨v_15, ev_15⟩ : ∃ z : Int32, z = y2_15 + 1 := ⟨_, rfl⟩
        have q_16 : v_15.toInt = y2_15.toInt + 1 := by rw [ev_15]; exact (bn_addc y2_15 1 (by decide) (by omega) (by omega))
        refine lv_iinc (v := v_15) (lv' := [(2, .int v_15), (1, .int v_14), (3, .int r_6), (0, .ref (h 13))]) hx hb dX4_savedByMarks_44 hl (k := 3) rfl (by rw [ev_15]; rfl) (by decide) rfl (fun ls hl => ?_)
        refine lv_goto (tgt := 15) hx hb dX4_savedByMarks_47 (by decide) ?_
        exact ih_15 v_14 v_15 fp_15 _ _ _ (hs.trans (((if_pos c_2).trans (spl_e u_7 (spl_e ev_8 (spl_e ev_9 (spl_e ev_11 (spl_e ev_13 (spl_e ev_14 (spl_e ev_15 rfl)))))))))) (by omega) ⟨by omega, by omega⟩ hI hF hP hS (lv_sub hl [3, 1, 0] rfl)
  refine lv_aload_n hx hb dX4_savedByMarks_0 rfl (lv_at hl 0 rfl) ?_
  refine lv_aload_n hx hb dX4_savedByMarks_1 rfl (lv_at hl 0 rfl) ?_
  refine sl_gX_13_1_4 hx hb hts hown hK hP dX4_savedByMarks_2 ?_
  refine sl_gX_10_2_4 (v := (f 10 2)) hx hb hts hown hK hP rfl dX4_savedByMarks_5 ?_
  refine lv_topi (fun v_17 ev_17 => ?_)
  have q_18 : 0 ≤ v_17.toInt ∧ v_17.toInt ≤ 21 := by rw [ev_17]; exact hI 10 2
  refine sg_callv (va_runV (As := [.int v_17]) (rest := []) ⟨hx, hb, hml, hown, hts⟩ (kX4_live l D ca za h hh f L Q hI v_17 q_18 H.size) (sl_c4_live_6_0_0_148_4 hts ⟨Nat.le_of_ble_eq_true rfl, Nat.le_of_ble_eq_true rfl⟩) (sl_vX_13 hA hK hP hS hZ) rfl rfl hl.1 rfl (lv_room (Nat.le_of_ble_eq_true rfl)) dX4_savedByMarks_8 ⟨Nat.le_refl _, Nat.le_refl _⟩) hA hS (fun f_19 L_20 Q_21 H locs hq hP hS => ?_)
  obtain ⟨⟨hI, hk_f_19, eL9, eQ9⟩, u_22⟩ := hq
  rw [eL9, eQ9] at hP; clear eL9 eQ9
  have hF : sgK WkX4_savedByMarks f f_19 := sgK.tr hF hk_f_19 (by decide +kernel)
  refine lv_iconst (v := 0) hx hb dX4_savedByMarks_11 ic_0 ?_
  refine lv_istore_n (lv' := [(1, .int 0), (0, .ref (h 13))]) hx hb dX4_savedByMarks_12 rfl hl (by decide) rfl (fun ls hl => ?_)
  refine lv_iconst (v := 0) hx hb dX4_savedByMarks_13 ic_0 ?_
  refine lv_istore_n (lv' := [(2, .int 0), (1, .int 0), (0, .ref (h 13))]) hx hb dX4_savedByMarks_14 rfl hl (by decide) rfl (fun ls hl => ?_)
  exact loop_15 4 0 0 f_19 _ _ _ (hs.trans ((spl_e ev_17 (spl_e u_22 rfl)))) (by have kc0 : (0 : Int32).toInt = 0 := ti_0; have kc1 : (0 : Int32).toInt = 0 := ti_0; omega) (by decide) hI hF hP hS (lv_sub hl [2, 1, 0] rfl)

abbrev WkX11_marked : List (Nat × Nat × Option Nat) := [(8, 8, none), (9, 9, none), (10, 10, some 2), (10, 10, some 3), (11, 11, none), (12, 12, none), (13, 13, some 5), (13, 13, some 6), (14, 14, none), (15, 15, none), (16, 16, none)]
set_option maxHeartbeats 4000000 in
set_option maxRecDepth 100000 in
theorem kX11_marked (l : Launch) (D : va_G) (ca : Nat → ClassId) (za h : Nat → Nat) (hh : sgH 52 h) (f : sg_F) (L : sg_L) (Q : sg_Q) (hI : sgI loX hiX f) (x0 : Int32) (sz : Nat) : Met l yX11_marked gwX11_marked { frames := 8, cells := 0, slots := 0, locals := 193 } (sgP D vwCl (tyX ca) 52 h (eX ca h) zcX za f L Q sz [.ref (h 0), .int x0]) (sgQi D vwCl 52 h (eX ca h) sz (fun r f1 L1 Q1 => ((sgI loX hiX f1 ∧ sgK WkX11_marked f f1 ∧ L1 = L ∧ Q1 = Q) ∧ True ∧ (r, f1) = sX11_marked x0 f L))) 0 0 (sgA 52 h sz) := by
  refine sg_ofWi (cc := cX11_marked) (maxL := 3) RX11 (by decide) rfl rfl (Nat.le_of_ble_eq_true rfl) ?_
  intro p e s m below meth cd Qz ls hx hb hml hown hts hK hZ hP hS hl hret
  have hA := sgY.self (n := 52) (h := h) (sz := s.heap.size)
  have hl : lv_has ls 3 [(0, .ref (h 0)), (1, .int x0)] := hl
  obtain ⟨H, hH⟩ : ∃ z : Heap, z = s.heap := ⟨_, rfl⟩
  obtain ⟨locs, hlo⟩ : ∃ z : List Loc, z = [] := ⟨_, rfl⟩
  have hP : va_P D vwCl (sgw 52 h (eX ca h) f L Q) H := by rw [hH]; exact hP
  have hS : va_S (sgA 52 h s.heap.size) s.heap H locs := by rw [hH, hlo]; exact hS
  suffices hgo : W p l e ({ frames := 8, cells := 0, slots := 0, locals := 193 }) s m ([.ref (h 0), .int x0] : List Value).toArray below meth cd H locs 0 0 Qz (F0 m 0 ls []) by rw [hH, hlo] at hgo; exact hgo
  clear hH hlo
  obtain ⟨sp, hsp⟩ : ∃ z : Int32 × sg_F, z = sX11_marked x0 f L := ⟨_, rfl⟩
  have hs : sp = sX11_marked x0 f L := hsp
  have hF : sgK WkX11_marked f f := sgK.rf
  refine lv_iload_n hx hb dX11_marked_0 rfl (lv_at hl 1 rfl) ?_
  refine sg_calli (va_runS (As := [.int x0]) (rest := []) ⟨hx, hb, hml, hown, hts⟩ (kX11_isShelf l D ca za h hh f L Q hI x0 H.size) (va_cwS 1 hts (gw_S (fun _ h => List.mem_cons_of_mem _ h) mw_35 mw_36 mw_37 mw_34) rfl rfl rfl hd_yX11_isShelf.2 ⟨Nat.le_of_ble_eq_true rfl, Nat.le_of_ble_eq_true rfl⟩) (sg_preS hA hK hP hS hZ) rfl rfl hl.1 rfl (lv_room (Nat.le_of_ble_eq_true rfl)) dX11_marked_1 ⟨Nat.le_refl _, Nat.le_refl _⟩) hA hS (fun r_4 f_1 L_2 Q_3 H locs hq hP hS => ?_)
  obtain ⟨⟨ef9, eL9, eQ9⟩, hq, u_5⟩ := hq
  replace hs := hs.trans (spl_e u_5 rfl)
  rw [ef9, eL9, eQ9] at hP; clear ef9 eL9 eQ9
  rcases hq with ⟨rfl, hq⟩ | ⟨rfl, hq⟩
  · skip
    have hc_6 := hq
    refine lv_if_ne (tgt := 9) hx hb dX11_marked_4 (by decide) (fun c => ?_) (fun c => absurd c (by decide))
    refine lv_aload_n hx hb dX11_marked_9 rfl (lv_at hl 0 rfl) ?_
    refine lv_iload_n hx hb dX11_marked_10 rfl (lv_at hl 1 rfl) ?_
    refine sg_calli (va_runV (As := [.int x0]) (rest := []) ⟨hx, hb, hml, hown, hts⟩ (kX11_readWeek l D ca za h hh f L Q hI x0 ⟨by omega, by omega⟩ H.size) (sl_c11_readWeek_2_0_0_45_11 hts ⟨Nat.le_of_ble_eq_true rfl, Nat.le_of_ble_eq_true rfl⟩) (sl_vX_0 hA hK hP hS hZ) rfl rfl hl.1 rfl (lv_room (Nat.le_of_ble_eq_true rfl)) dX11_marked_11 ⟨Nat.le_refl _, Nat.le_refl _⟩) hA hS (fun r_10 f_7 L_8 Q_9 H locs hq hP hS => ?_)
    obtain ⟨⟨hI, hk_f_7, eL9, eQ9⟩, hq, u_11⟩ := hq
    replace hs := hs.trans ((if_pos rfl).trans (spl2_e u_11 rfl))
    rw [eL9, eQ9] at hP; clear eL9 eQ9
    have hF : sgK WkX11_marked f f_7 := sgK.tr hF hk_f_7 (by decide +kernel)
    refine lv_istore_n (lv' := [(2, .int r_10), (0, .ref (h 0)), (1, .int x0)]) hx hb dX11_marked_14 rfl hl (by decide) rfl (fun ls hl => ?_)
    refine lv_iload_n hx hb dX11_marked_15 rfl (lv_at hl 0 rfl) ?_
    refine lv_if_eq (tgt := 23) hx hb dX11_marked_16 (by decide) (fun c => ?_) (fun c => ?_)
    · skip
      have c_12 : r_10.toInt = 0 := (by first | exact (cm_eq1 ti_0 c) | (have z := Int32.toInt_inj.mpr c; have k1 : (0 : Int32).toInt = 0 := ti_0; omega))
      refine lv_aload_n hx hb dX11_marked_23 rfl (lv_at hl 1 rfl) ?_
      refine sl_gX_0_2_11 hx hb hts hown hK hP dX11_marked_24 ?_
      refine sg_calli (va_runV (As := []) (rest := []) ⟨hx, hb, hml, hown, hts⟩ (kX4_savedByMarks l D ca za h hh f_7 L Q hI H.size) (sl_c4_savedByMarks_7_0_0_170_11 hts ⟨Nat.le_of_ble_eq_true rfl, Nat.le_of_ble_eq_true rfl⟩) (sl_vX_13 hA hK hP hS hZ) rfl rfl hl.1 rfl (lv_room (Nat.le_of_ble_eq_true rfl)) dX11_marked_27 ⟨Nat.le_refl _, Nat.le_refl _⟩) hA hS (fun r_17 f_14 L_15 Q_16 H locs hq hP hS => ?_)
      obtain ⟨⟨hI, hk_f_14, eL9, eQ9⟩, hq, u_18⟩ := hq
      rw [eL9, eQ9] at hP; clear eL9 eQ9
      have hF : sgK WkX11_marked f f_14 := sgK.tr hF hk_f_14 (by decide +kernel)
      exact hret _ _ _ _ (r_17) f_14 L Q dX11_marked_30 hP hS ⟨⟨hI, hF, rfl, rfl⟩, trivial, (Eq.trans (Eq.symm (hs.trans ((if_pos c_12).trans (spl2_e u_18 rfl)))) hsp)⟩
    · skip
      have c_13 : r_10.toInt ≠ 0 := (by first | exact (cm_ne1 ti_0 c) | (have z := bn_ne c; have k1 : (0 : Int32).toInt = 0 := ti_0; omega))
      refine lv_iload_n hx hb dX11_marked_19 rfl (lv_at hl 0 rfl) ?_
      refine lv_goto (tgt := 30) hx hb dX11_marked_20 (by decide) ?_
      exact hret _ _ _ _ (r_10) f_7 L Q dX11_marked_30 hP hS ⟨⟨hI, hF, rfl, rfl⟩, trivial, (Eq.trans (Eq.symm (hs.trans ((if_neg c_13).trans rfl))) hsp)⟩
  · skip
    have hc_6 := hq
    refine lv_if_ne (tgt := 9) hx hb dX11_marked_4 (by decide) (fun c => absurd c (by decide)) (fun c => ?_)
    refine lv_iconst (v := (-1)) hx hb dX11_marked_7 ic_m1 ?_
    have k99 : ((-1) : Int32).toInt = (-1) := ti_m1
    exact hret _ _ _ _ (-1) f L Q dX11_marked_8 hP hS ⟨⟨hI, hF, rfl, rfl⟩, trivial, (Eq.trans (Eq.symm (hs.trans ((if_neg (by decide)).trans rfl))) hsp)⟩

abbrev WkX8_gather : List (Nat × Nat × Option Nat) := [(17, 17, some 9), (20, 20, none)]
set_option maxHeartbeats 4000000 in
set_option maxRecDepth 100000 in
theorem kX8_gather (l : Launch) (D : va_G) (ca : Nat → ClassId) (za h : Nat → Nat) (hh : sgH 52 h) (f : sg_F) (L : sg_L) (Q : sg_Q) (hI : sgI loX hiX f) (sz : Nat) : Met l yX8_gather gwX8_gather { frames := 0, cells := 0, slots := 0, locals := 0 } (sgP D vwCl (tyX ca) 52 h (eX ca h) zcX za f L Q sz [.ref (h 17)]) (sgQv D vwCl 52 h (eX ca h) sz (fun f1 L1 Q1 => ((sgI loX hiX f1 ∧ sgK WkX8_gather f f1 ∧ L1 = L ∧ Q1 = Q) ∧ (f1) = sX8_gather f L))) 0 0 (sgA 52 h sz) := by
  refine sg_ofWv (cc := cX8_gather) (maxL := 2) RX8 (by decide) rfl rfl (Nat.le_of_ble_eq_true rfl) ?_
  intro p e s m below meth cd Qz ls hx hb hml hown hts hK hZ hP hS hl hret
  have hA := sgY.self (n := 52) (h := h) (sz := s.heap.size)
  have hl : lv_has ls 2 [(0, .ref (h 17))] := hl
  obtain ⟨H, hH⟩ : ∃ z : Heap, z = s.heap := ⟨_, rfl⟩
  obtain ⟨locs, hlo⟩ : ∃ z : List Loc, z = [] := ⟨_, rfl⟩
  have hP : va_P D vwCl (sgw 52 h (eX ca h) f L Q) H := by rw [hH]; exact hP
  have hS : va_S (sgA 52 h s.heap.size) s.heap H locs := by rw [hH, hlo]; exact hS
  suffices hgo : W p l e ({ frames := 0, cells := 0, slots := 0, locals := 0 }) s m ([.ref (h 17)] : List Value).toArray below meth cd H locs 0 0 Qz (F0 m 0 ls []) by rw [hH, hlo] at hgo; exact hgo
  clear hH hlo
  obtain ⟨sp, hsp⟩ : ∃ z : sg_F, z = sX8_gather f L := ⟨_, rfl⟩
  have hs : sp = sX8_gather f L := hsp
  obtain ⟨v_1, ev_1⟩ : ∃ z : Int32, z = f 17 9 := ⟨_, rfl⟩
  have q_2 : 0 ≤ v_1.toInt ∧ v_1.toInt ≤ 8 := by rw [ev_1]; exact hI 17 9
  have o_3 : (f 17 9).toInt = v_1.toInt := (congrArg Int32.toInt (show f 17 9 = v_1 from ev_1.symm))
  have hF : sgK WkX8_gather f f := sgK.rf
  have loop_7 : ∀ (n_7 : Nat) (y1_7 : Int32) (fp_7 : sg_F) (H : Heap) (locs : List Loc) (ls : Array Slot), sp = sX8_gather_l7 n_7 y1_7 fp_7 L → 8 - y1_7.toInt < (n_7 : Int) → 0 ≤ y1_7.toInt ∧ y1_7.toInt ≤ 8 → (fp_7 17 9).toInt ≤ y1_7.toInt → sgI loX hiX fp_7 → sgK WkX8_gather f fp_7 → va_P D vwCl (sgw 52 h (eX ca h) fp_7 L Q) H → va_S (sgA 52 h s.heap.size) s.heap H locs → lv_has ls 2 [(0, .ref (h 17)), (1, .int y1_7)] → W p l e ({ frames := 0, cells := 0, slots := 0, locals := 0 }) s m ([.ref (h 17)] : List Value).toArray below meth cd H locs 0 0 Qz (F0 m 7 ls []) := by
    intro n_7
    induction n_7 with
    | zero => intro y1_7 fp_7 H locs ls hs hm_7 hy0_7 hg0_7 hI hF hP hS hl; exact absurd hm_7 (by omega)
    | succ n_7 ih_7 =>
      have blk_45 : ∀ (y1_45 : Int32) (fp_45 : sg_F) (H : Heap) (locs : List Loc) (ls : Array Slot), sp = sX8_gather_b45 (sX8_gather_l7 n_7) y1_45 fp_45 L → 8 - y1_45.toInt < ((n_7 + 1 : Nat) : Int) → 0 ≤ y1_45.toInt ∧ y1_45.toInt ≤ 7 → (fp_45 17 9).toInt ≤ y1_45.toInt + 1 → sgI loX hiX fp_45 → sgK WkX8_gather f fp_45 → va_P D vwCl (sgw 52 h (eX ca h) fp_45 L Q) H → va_S (sgA 52 h s.heap.size) s.heap H locs → lv_has ls 2 [(0, .ref (h 17)), (1, .int y1_45)] → W p l e ({ frames := 0, cells := 0, slots := 0, locals := 0 }) s m ([.ref (h 17)] : List Value).toArray below meth cd H locs 0 0 Qz (F0 m 45 ls []) := by
        intro y1_45 fp_45 H locs ls hs hm_7 hy0_45 hg0_45 hI hF hP hS hl
        obtain ⟨v_4, ev_4⟩ : ∃ z : Int32, z = fp_45 17 9 := ⟨_, rfl⟩
        have q_5 : 0 ≤ v_4.toInt ∧ v_4.toInt ≤ 8 := by rw [ev_4]; exact hI 17 9
        have q_6 : (fp_45 17 9).toInt = v_4.toInt := by rw [ev_4]
        obtain ⟨v_7, ev_7⟩ : ∃ z : Int32, z = y1_45 + 1 := ⟨_, rfl⟩
        have q_8 : v_7.toInt = y1_45.toInt + 1 := by rw [ev_7]; exact (bn_addc y1_45 1 (by decide) (by omega) (by omega))
        refine lv_iinc (v := v_7) (lv' := [(1, .int v_7), (0, .ref (h 17))]) hx hb dX8_gather_45 hl (k := 1) rfl (by rw [ev_7]; rfl) (by decide) rfl (fun ls hl => ?_)
        refine lv_goto (tgt := 7) hx hb dX8_gather_48 (by decide) ?_
        exact ih_7 v_7 fp_45 _ _ _ (hs.trans ((spl_e ev_4 (spl_e ev_7 rfl)))) (by omega) ⟨by omega, by omega⟩ (by have zz17_9 : (fp_45 17 9).toInt = v_4.toInt := (congrArg Int32.toInt (show fp_45 17 9 = v_4 from ev_4.symm)); omega) hI hF hP hS (lv_sub hl [1, 0] rfl)
      intro y1_7 fp_7 H locs ls hs hm_7 hy0_7 hg0_7 hI hF hP hS hl
      have hs : sp = sX8_gather_h7 (sX8_gather_l7 n_7) y1_7 fp_7 L := hs
      obtain ⟨v_9, ev_9⟩ : ∃ z : Int32, z = fp_7 17 9 := ⟨_, rfl⟩
      replace hs := hs.trans (spl_e ev_9 rfl)
      have q_10 : 0 ≤ v_9.toInt ∧ v_9.toInt ≤ 8 := by rw [ev_9]; exact hI 17 9
      have q_11 : (fp_7 17 9).toInt = v_9.toInt := by rw [ev_9]
      refine lv_iload_n hx hb dX8_gather_7 rfl (lv_at hl 1 rfl) ?_
      refine lv_bipush (v := 8) hx hb dX8_gather_8 bp_8 ?_
      refine lv_icmp_ge (tgt := 51) hx hb dX8_gather_10 (by decide) (fun c => ?_) (fun c => ?_)
      · skip
        have c_12 : 8 ≤ y1_7.toInt := (by first | exact (cm_le0 ti_8 c) | (have z := bn_le c; have k1 : (8 : Int32).toInt = 8 := ti_8; omega))
        exact hret _ _ _ _ fp_7 L Q dX8_gather_51 hP hS ⟨⟨hI, hF, rfl, rfl⟩, (Eq.trans (Eq.symm (hs.trans ((if_neg (Int.not_lt.mpr c_12)).trans rfl))) hsp)⟩
      · skip
        have c_13 : y1_7.toInt < 8 := (by first | exact (cm_nle0 ti_8 c) | (have z := bn_nle c; have k1 : (8 : Int32).toInt = 8 := ti_8; omega))
        refine lv_aload_n hx hb dX8_gather_13 rfl (lv_at hl 0 rfl) ?_
        refine sl_gX_17_1_8 hx hb hts hown hK hP dX8_gather_14 ?_
        refine sl_gX_10_1_8 hx hb hts hown hK hP dX8_gather_17 ?_
        refine lv_iload_n hx hb dX8_gather_20 rfl (lv_at hl 1 rfl) ?_
        refine sg_iald hx hb hK hP 12 (by decide) 0 rfl rfl (i := y1_7) (vp_in_iff.mpr ⟨by omega, by omega⟩) dX8_gather_21 ?_
        refine lv_topi (fun v_14 ev_14 => ?_)
        replace hs := hs.trans ((if_pos c_13).trans (spl_e ev_14 rfl))
        refine lv_if_le (tgt := 45) hx hb dX8_gather_22 (by decide) (fun c => ?_) (fun c => ?_)
        · skip
          have c_15 : v_14.toInt ≤ 0 := (by first | exact (cm_le1 ti_0 c) | (have z := bn_le c; have k1 : (0 : Int32).toInt = 0 := ti_0; omega))
          exact blk_45 y1_7 fp_7 _ _ _ (hs.trans ((if_neg (Int.not_lt.mpr c_15)).trans rfl)) (by omega) ⟨by omega, by omega⟩ (by have zz17_9 : (fp_7 17 9).toInt = v_9.toInt := (congrArg Int32.toInt (show fp_7 17 9 = v_9 from ev_9.symm)); omega) hI hF hP hS (lv_sub hl [0, 1] rfl)
        · skip
          have c_16 : 0 < v_14.toInt := (by first | exact (cm_nle1 ti_0 c) | (have z := bn_nle c; have k1 : (0 : Int32).toInt = 0 := ti_0; omega))
          refine lv_aload_n hx hb dX8_gather_25 rfl (lv_at hl 0 rfl) ?_
          refine sl_gX_17_4_8 hx hb hts hown hK hP dX8_gather_26 ?_
          refine lv_aload_n hx hb dX8_gather_29 rfl (lv_at hl 0 rfl) ?_
          refine sl_gX_17_9_8 (v := v_9) hx hb hts hown hK hP (show fp_7 17 9 = v_9 from ev_9.symm) dX8_gather_30 ?_
          refine lv_iload_n hx hb dX8_gather_33 rfl (lv_at hl 1 rfl) ?_
          refine sg_iast hx hb hh hA hK hP hS 20 (by decide) 0 (fun _ => rfl) rfl (i := v_9) (x := y1_7) (vp_in_iff.mpr ⟨by omega, by omega⟩) dX8_gather_34 (fun f_17 H locs ef_17 hP hS => ?_)
          have hI : sgI loX hiX f_17 := by rw [ef_17]; exact sgI.put hI 20 v_9.toNatClampNeg (show 0 ≤ (y1_7 : Int32).toInt ∧ (y1_7 : Int32).toInt ≤ 7 from ⟨by omega, by omega⟩)
          have hF : sgK WkX8_gather f f_17 := sgK.put hF ef_17 (by rfl)
          refine lv_aload_n hx hb dX8_gather_35 rfl (lv_at hl 0 rfl) ?_
          refine lv_dup hx hb dX8_gather_36 rfl ?_
          refine sl_gX_17_9_8 (v := v_9) hx hb hts hown hK hP (show f_17 17 9 = v_9 from (by rw [ef_17, sg_up_n (by decide)]; exact ev_9.symm)) dX8_gather_37 ?_
          refine lv_iconst (v := 1) hx hb dX8_gather_40 ic_1 ?_
          refine lv_iadd hx hb dX8_gather_41 ?_
          refine lv_topi (fun v_18 ev_18 => ?_)
          have q_19 : v_18.toInt = v_9.toInt + 1 := by rw [ev_18]; first | exact cm_add ti_1 (by omega) (by omega) | (have k1 : (1 : Int32).toInt = 1 := ti_1; exact (bn_addI (by omega) (by omega)).trans (by omega))
          refine sl_pX_17_9_8 (x := v_18) hx hb hts hown hh hA hK hP hS dX8_gather_42 (fun f_20 H locs ef_20 hP hS => ?_)
          have hI : sgI loX hiX f_20 := by rw [ef_20]; exact sgI.put hI 17 9 (show 0 ≤ (v_18 : Int32).toInt ∧ (v_18 : Int32).toInt ≤ 8 from ⟨by omega, by omega⟩)
          have hF : sgK WkX8_gather f f_20 := sgK.put hF ef_20 (by rfl)
          exact blk_45 y1_7 f_20 _ _ _ (hs.trans ((if_pos c_16).trans (spl_e ef_17 (spl_e ev_18 (spl_e ef_20 rfl))))) (by omega) ⟨by omega, by omega⟩ (by have zz17_9 : (f_20 17 9).toInt = v_18.toInt := (congrArg Int32.toInt (show f_20 17 9 = v_18 from (by rw [ef_20, sg_up_s, sgu_s]))); omega) hI hF hP hS (lv_sub hl [0, 1] rfl)
  refine lv_aload_n hx hb dX8_gather_0 rfl (lv_at hl 0 rfl) ?_
  refine lv_iconst (v := 0) hx hb dX8_gather_1 ic_0 ?_
  refine sl_pX_17_9_8 (x := 0) hx hb hts hown hh hA hK hP hS dX8_gather_2 (fun f_21 H locs ef_21 hP hS => ?_)
  have hI : sgI loX hiX f_21 := by rw [ef_21]; exact sgI.put hI 17 9 (show 0 ≤ (0 : Int32).toInt ∧ (0 : Int32).toInt ≤ 8 from by decide)
  have hF : sgK WkX8_gather f f_21 := sgK.put hF ef_21 (by rfl)
  refine lv_iconst (v := 0) hx hb dX8_gather_5 ic_0 ?_
  refine lv_istore_n (lv' := [(1, .int 0), (0, .ref (h 17))]) hx hb dX8_gather_6 rfl hl (by decide) rfl (fun ls hl => ?_)
  exact loop_7 9 0 f_21 _ _ _ (hs.trans ((spl_e ev_1 (spl_e ef_21 rfl)))) (by have kc0 : (0 : Int32).toInt = 0 := ti_0; omega) (by decide) (by have kc0 : (0 : Int32).toInt = 0 := ti_0; have zz17_9 : (f_21 17 9).toInt = 0 := (congrArg Int32.toInt (show f_21 17 9 = 0 from (by rw [ef_21, sg_up_s, sgu_s]))).trans (by decide); omega) hI hF hP hS (lv_sub hl [1, 0] rfl)

abbrev WkX8_sumGroupsUpTo_0 : List (Nat × Nat × Option Nat) := [(21, 21, none), (22, 22, none)]
set_option maxHeartbeats 4000000 in
set_option maxRecDepth 100000 in
theorem kX8_sumGroupsUpTo_0 (l : Launch) (D : va_G) (ca : Nat → ClassId) (za h : Nat → Nat) (hh : sgH 52 h) (f : sg_F) (L : sg_L) (Q : sg_Q) (hI : sgI loX hiX f) (x1 : Int32) (x2 : Int32) (b2 : 0 ≤ x2.toInt ∧ x2.toInt ≤ 1) (sz : Nat) : Met l yX8_sumGroupsUpTo gwX8_sumGroupsUpTo { frames := 1, cells := 0, slots := 0, locals := 21 } (sgP D vwCl (tyX ca) 52 h (eX ca h) zcX za f L Q sz [.ref (h 17), .int 0, .int x1, .int x2]) (sgQv D vwCl 52 h (eX ca h) sz (fun f1 L1 Q1 => ((sgI loX hiX f1 ∧ sgK WkX8_sumGroupsUpTo_0 f f1 ∧ L1 = L ∧ Q1 = Q) ∧ (f1) = sX8_sumGroupsUpTo_0 x1 x2 f L))) 0 0 (sgA 52 h sz) := by
  refine sg_ofWv (cc := cX8_sumGroupsUpTo) (maxL := 5) RX8 (by decide) rfl rfl (Nat.le_of_ble_eq_true rfl) ?_
  intro p e s m below meth cd Qz ls hx hb hml hown hts hK hZ hP hS hl hret
  have hA := sgY.self (n := 52) (h := h) (sz := s.heap.size)
  have hl : lv_has ls 5 [(0, .ref (h 17)), (1, .int 0), (2, .int x1), (3, .int x2)] := hl
  obtain ⟨H, hH⟩ : ∃ z : Heap, z = s.heap := ⟨_, rfl⟩
  obtain ⟨locs, hlo⟩ : ∃ z : List Loc, z = [] := ⟨_, rfl⟩
  have hP : va_P D vwCl (sgw 52 h (eX ca h) f L Q) H := by rw [hH]; exact hP
  have hS : va_S (sgA 52 h s.heap.size) s.heap H locs := by rw [hH, hlo]; exact hS
  suffices hgo : W p l e ({ frames := 1, cells := 0, slots := 0, locals := 21 }) s m ([.ref (h 17), .int 0, .int x1, .int x2] : List Value).toArray below meth cd H locs 0 0 Qz (F0 m 0 ls []) by rw [hH, hlo] at hgo; exact hgo
  clear hH hlo
  obtain ⟨sp, hsp⟩ : ∃ z : sg_F, z = sX8_sumGroupsUpTo_0 x1 x2 f L := ⟨_, rfl⟩
  have hs : sp = sX8_sumGroupsUpTo_0 x1 x2 f L := hsp
  have hF : sgK WkX8_sumGroupsUpTo_0 f f := sgK.rf
  have loop_5 : ∀ (n_5 : Nat) (y4_5 : Int32) (fp_5 : sg_F) (H : Heap) (locs : List Loc) (ls : Array Slot), sp = sX8_sumGroupsUpTo_0_l5 x1 x2 n_5 y4_5 fp_5 L → 2 - y4_5.toInt < (n_5 : Int) → 1 ≤ y4_5.toInt ∧ y4_5.toInt ≤ 2 → sgI loX hiX fp_5 → sgK WkX8_sumGroupsUpTo_0 f fp_5 → va_P D vwCl (sgw 52 h (eX ca h) fp_5 L Q) H → va_S (sgA 52 h s.heap.size) s.heap H locs → lv_has ls 5 [(0, .ref (h 17)), (1, .int 0), (2, .int x1), (3, .int x2), (4, .int y4_5)] → W p l e ({ frames := 1, cells := 0, slots := 0, locals := 21 }) s m ([.ref (h 17), .int 0, .int x1, .int x2] : List Value).toArray below meth cd H locs 0 0 Qz (F0 m 5 ls []) := by
    intro n_5
    induction n_5 with
    | zero => intro y4_5 fp_5 H locs ls hs hm_5 hy0_5 hI hF hP hS hl; exact absurd hm_5 (by omega)
    | succ n_5 ih_5 =>
      intro y4_5 fp_5 H locs ls hs hm_5 hy0_5 hI hF hP hS hl
      have hs : sp = sX8_sumGroupsUpTo_0_h5 x1 x2 (sX8_sumGroupsUpTo_0_l5 x1 x2 n_5) y4_5 fp_5 L := hs
      refine lv_iload hx hb dX8_sumGroupsUpTo_5 (lv_at hl 4 rfl) ?_
      refine lv_iconst (v := 2) hx hb dX8_sumGroupsUpTo_7 ic_2 ?_
      refine lv_iload_n hx hb dX8_sumGroupsUpTo_8 rfl (lv_at hl 1 rfl) ?_
      refine lv_ishl hx hb dX8_sumGroupsUpTo_9 ?_
      refine W.eq (g2 := F0 m 10 ls [.int 2, .int y4_5]) (by rw [show ((2 : Int32) <<< ((0 : Int32) &&& 31) : Int32) = 2 from by decide]) ?_
      refine lv_icmp_ge (tgt := 77) hx hb dX8_sumGroupsUpTo_10 (by decide) (fun c => ?_) (fun c => ?_)
      · skip
        have c_1 : 2 ≤ y4_5.toInt := (by first | exact (cm_le0 ti_2 c) | (have z := bn_le c; have k1 : (2 : Int32).toInt = 2 := ti_2; omega))
        exact hret _ _ _ _ fp_5 L Q dX8_sumGroupsUpTo_77 hP hS ⟨⟨hI, hF, rfl, rfl⟩, (Eq.trans (Eq.symm (hs.trans (((if_neg (Int.not_lt.mpr c_1)).trans rfl)))) hsp)⟩
      · skip
        have c_2 : y4_5.toInt < 2 := (by first | exact (cm_nle0 ti_2 c) | (have z := bn_nle c; have k1 : (2 : Int32).toInt = 2 := ti_2; omega))
        refine lv_aload_n hx hb dX8_sumGroupsUpTo_13 rfl (lv_at hl 0 rfl) ?_
        refine sl_gX_17_5_8 hx hb hts hown hK hP dX8_sumGroupsUpTo_14 ?_
        refine lv_iload hx hb dX8_sumGroupsUpTo_17 (lv_at hl 4 rfl) ?_
        refine lv_aload_n hx hb dX8_sumGroupsUpTo_19 rfl (lv_at hl 0 rfl) ?_
        refine sl_gX_17_5_8 hx hb hts hown hK hP dX8_sumGroupsUpTo_20 ?_
        refine lv_iload hx hb dX8_sumGroupsUpTo_23 (lv_at hl 4 rfl) ?_
        refine lv_iconst (v := 1) hx hb dX8_sumGroupsUpTo_25 ic_1 ?_
        refine lv_iload_n hx hb dX8_sumGroupsUpTo_26 rfl (lv_at hl 1 rfl) ?_
        refine lv_ishl hx hb dX8_sumGroupsUpTo_27 ?_
        refine W.eq (g2 := F0 m 28 ls [.int 1, .int y4_5, .ref (h 21), .int y4_5, .ref (h 21)]) (by rw [show ((1 : Int32) <<< ((0 : Int32) &&& 31) : Int32) = 1 from by decide]) ?_
        refine lv_isub hx hb dX8_sumGroupsUpTo_28 ?_
        refine lv_topi (fun v_3 ev_3 => ?_)
        have q_4 : v_3.toInt = y4_5.toInt - 1 := by rw [ev_3]; first | exact cm_sub ti_1 (by omega) (by omega) | (have k1 : (1 : Int32).toInt = 1 := ti_1; exact (bn_subI (by omega) (by omega)).trans (by omega))
        refine sg_iald hx hb hK hP 21 (by decide) 0 rfl rfl (i := v_3) (vp_in_iff.mpr ⟨by omega, by omega⟩) dX8_sumGroupsUpTo_29 ?_
        refine lv_topi (fun v_5 ev_5 => ?_)
        refine lv_iload_n hx hb dX8_sumGroupsUpTo_30 rfl (lv_at hl 2 rfl) ?_
        refine lv_iadd hx hb dX8_sumGroupsUpTo_31 ?_
        refine lv_topi (fun v_6 ev_6 => ?_)
        refine sg_iast hx hb hh hA hK hP hS 21 (by decide) 0 (fun _ => rfl) rfl (i := y4_5) (x := v_6) (vp_in_iff.mpr ⟨by omega, by omega⟩) dX8_sumGroupsUpTo_32 (fun f_7 H locs ef_7 hP hS => ?_)
        replace hs := hs.trans ((if_pos c_2).trans (spl_e ev_3 (spl_e ev_5 (spl_e ev_6 (spl_e ef_7 rfl)))))
        have hI : sgI loX hiX f_7 := by rw [ef_7]; exact sgI.put hI 21 y4_5.toNatClampNeg (bn_top _)
        have hF : sgK WkX8_sumGroupsUpTo_0 f f_7 := sgK.put hF ef_7 (by rfl)
        refine lv_aload_n hx hb dX8_sumGroupsUpTo_33 rfl (lv_at hl 0 rfl) ?_
        refine sl_gX_17_6_8 hx hb hts hown hK hP dX8_sumGroupsUpTo_34 ?_
        refine lv_iload hx hb dX8_sumGroupsUpTo_37 (lv_at hl 4 rfl) ?_
        refine lv_iload_n hx hb dX8_sumGroupsUpTo_39 rfl (lv_at hl 3 rfl) ?_
        refine lv_if_eq (tgt := 53) hx hb dX8_sumGroupsUpTo_40 (by decide) (fun c => ?_) (fun c => ?_)
        · skip
          have c_8 : x2.toInt = 0 := (by first | exact (cm_eq1 ti_0 c) | (have z := Int32.toInt_inj.mpr c; have k1 : (0 : Int32).toInt = 0 := ti_0; omega))
          refine lv_aload_n hx hb dX8_sumGroupsUpTo_53 rfl (lv_at hl 0 rfl) ?_
          refine sl_gX_17_6_8 hx hb hts hown hK hP dX8_sumGroupsUpTo_54 ?_
          refine lv_iload hx hb dX8_sumGroupsUpTo_57 (lv_at hl 4 rfl) ?_
          refine sg_iald hx hb hK hP 22 (by decide) 0 rfl rfl (i := y4_5) (vp_in_iff.mpr ⟨by omega, by omega⟩) dX8_sumGroupsUpTo_59 ?_
          refine lv_topi (fun v_10 ev_10 => ?_)
          refine lv_aload_n hx hb dX8_sumGroupsUpTo_60 rfl (lv_at hl 0 rfl) ?_
          refine sl_gX_17_5_8 hx hb hts hown hK hP dX8_sumGroupsUpTo_61 ?_
          refine lv_iload hx hb dX8_sumGroupsUpTo_64 (lv_at hl 4 rfl) ?_
          refine sg_iald hx hb hK hP 21 (by decide) 0 rfl rfl (i := y4_5) (vp_in_iff.mpr ⟨by omega, by omega⟩) dX8_sumGroupsUpTo_66 ?_
          refine W.eq (g2 := F0 m 67 ls [.int v_6, .int v_10, .int y4_5, .ref (h 22)]) (by rw [show f_7 21 (Int32.toNatClampNeg y4_5) = v_6 from (by rw [ef_7, sg_up_s, sgu_s])]) ?_
          refine va_mmin hx hb (hml.trans hl.1.symm) hown (hts _ (List.mem_cons_of_mem _ mw_386)) (hts _ (List.mem_cons_of_mem _ mw_10)) (hts _ (List.mem_cons_of_mem _ mw_11)) (hts _ (List.mem_cons_of_mem _ mw_12)) (Nat.le_of_ble_eq_true rfl) (Nat.le_of_ble_eq_true rfl) (Nat.le_refl _) (Nat.le_refl _) dX8_sumGroupsUpTo_67 ?_
          refine lv_topi (fun v_11 ev_11 => ?_)
          have q_12 : (v_6.toInt < v_10.toInt ∧ v_11.toInt = v_6.toInt) ∨ (v_10.toInt ≤ v_6.toInt ∧ v_11.toInt = v_10.toInt) := by have z := bn_minI v_6 v_10; rw [← ev_11] at z; omega
          refine sg_iast hx hb hh hA hK hP hS 22 (by decide) 0 (fun _ => rfl) rfl (i := y4_5) (x := v_11) (vp_in_iff.mpr ⟨by omega, by omega⟩) dX8_sumGroupsUpTo_70 (fun f_13 H locs ef_13 hP hS => ?_)
          have hI : sgI loX hiX f_13 := by rw [ef_13]; exact sgI.put hI 22 y4_5.toNatClampNeg (bn_top _)
          have hF : sgK WkX8_sumGroupsUpTo_0 f f_13 := sgK.put hF ef_13 (by rfl)
          obtain ⟨v_14, ev_14⟩ : ∃ z : Int32, z = y4_5 + 1 := ⟨_, rfl⟩
          have q_15 : v_14.toInt = y4_5.toInt + 1 := by rw [ev_14]; exact (bn_addc y4_5 1 (by decide) (by omega) (by omega))
          refine lv_iinc (v := v_14) (lv' := [(4, .int v_14), (0, .ref (h 17)), (1, .int 0), (2, .int x1), (3, .int x2)]) hx hb dX8_sumGroupsUpTo_71 hl (k := 4) rfl (by rw [ev_14]; rfl) (by decide) rfl (fun ls hl => ?_)
          refine lv_goto (tgt := 5) hx hb dX8_sumGroupsUpTo_74 (by decide) ?_
          exact ih_5 v_14 f_13 _ _ _ (hs.trans ((if_pos c_8).trans (spl_e ev_10 (spl_e ev_11 (spl_e ef_13 (spl_e ev_14 rfl)))))) (by omega) ⟨by omega, by omega⟩ hI hF hP hS (lv_sub hl [1, 2, 3, 4, 0] rfl)
        · skip
          have c_9 : x2.toInt ≠ 0 := (by first | exact (cm_ne1 ti_0 c) | (have z := bn_ne c; have k1 : (0 : Int32).toInt = 0 := ti_0; omega))
          refine lv_aload_n hx hb dX8_sumGroupsUpTo_43 rfl (lv_at hl 0 rfl) ?_
          refine sl_gX_17_5_8 hx hb hts hown hK hP dX8_sumGroupsUpTo_44 ?_
          refine lv_iload hx hb dX8_sumGroupsUpTo_47 (lv_at hl 4 rfl) ?_
          refine sg_iald hx hb hK hP 21 (by decide) 0 rfl rfl (i := y4_5) (vp_in_iff.mpr ⟨by omega, by omega⟩) dX8_sumGroupsUpTo_49 ?_
          refine W.eq (g2 := F0 m 50 ls [.int v_6, .int y4_5, .ref (h 22)]) (by rw [show f_7 21 (Int32.toNatClampNeg y4_5) = v_6 from (by rw [ef_7, sg_up_s, sgu_s])]) ?_
          refine lv_goto (tgt := 70) hx hb dX8_sumGroupsUpTo_50 (by decide) ?_
          refine sg_iast hx hb hh hA hK hP hS 22 (by decide) 0 (fun _ => rfl) rfl (i := y4_5) (x := v_6) (vp_in_iff.mpr ⟨by omega, by omega⟩) dX8_sumGroupsUpTo_70 (fun f_16 H locs ef_16 hP hS => ?_)
          have hI : sgI loX hiX f_16 := by rw [ef_16]; exact sgI.put hI 22 y4_5.toNatClampNeg (bn_top _)
          have hF : sgK WkX8_sumGroupsUpTo_0 f f_16 := sgK.put hF ef_16 (by rfl)
          obtain ⟨v_17, ev_17⟩ : ∃ z : Int32, z = y4_5 + 1 := ⟨_, rfl⟩
          have q_18 : v_17.toInt = y4_5.toInt + 1 := by rw [ev_17]; exact (bn_addc y4_5 1 (by decide) (by omega) (by omega))
          refine lv_iinc (v := v_17) (lv' := [(4, .int v_17), (0, .ref (h 17)), (1, .int 0), (2, .int x1), (3, .int x2)]) hx hb dX8_sumGroupsUpTo_71 hl (k := 4) rfl (by rw [ev_17]; rfl) (by decide) rfl (fun ls hl => ?_)
          refine lv_goto (tgt := 5) hx hb dX8_sumGroupsUpTo_74 (by decide) ?_
          exact ih_5 v_17 f_16 _ _ _ (hs.trans ((if_neg c_9).trans (spl_e ef_16 (spl_e ev_17 rfl)))) (by omega) ⟨by omega, by omega⟩ hI hF hP hS (lv_sub hl [1, 2, 3, 4, 0] rfl)
  refine lv_iconst (v := 1) hx hb dX8_sumGroupsUpTo_0 ic_1 ?_
  refine lv_iload_n hx hb dX8_sumGroupsUpTo_1 rfl (lv_at hl 1 rfl) ?_
  refine lv_ishl hx hb dX8_sumGroupsUpTo_2 ?_
  refine W.eq (g2 := F0 m 3 ls [.int 1]) (by rw [show ((1 : Int32) <<< ((0 : Int32) &&& 31) : Int32) = 1 from by decide]) ?_
  refine lv_istore (lv' := [(4, .int 1), (0, .ref (h 17)), (1, .int 0), (2, .int x1), (3, .int x2)]) hx hb dX8_sumGroupsUpTo_3 hl (by decide) rfl (fun ls hl => ?_)
  exact loop_5 2 1 f _ _ _ hs (by have kc0 : (1 : Int32).toInt = 1 := ti_1; omega) (by decide) hI hF hP hS (lv_sub hl [1, 2, 3, 4, 0] rfl)

abbrev WkX8_sumGroupsUpTo_1 : List (Nat × Nat × Option Nat) := [(21, 21, none), (22, 22, none)]
set_option maxHeartbeats 4000000 in
set_option maxRecDepth 100000 in
theorem kX8_sumGroupsUpTo_1 (l : Launch) (D : va_G) (ca : Nat → ClassId) (za h : Nat → Nat) (hh : sgH 52 h) (f : sg_F) (L : sg_L) (Q : sg_Q) (hI : sgI loX hiX f) (x1 : Int32) (x2 : Int32) (b2 : 0 ≤ x2.toInt ∧ x2.toInt ≤ 1) (sz : Nat) : Met l yX8_sumGroupsUpTo gwX8_sumGroupsUpTo { frames := 1, cells := 0, slots := 0, locals := 21 } (sgP D vwCl (tyX ca) 52 h (eX ca h) zcX za f L Q sz [.ref (h 17), .int 1, .int x1, .int x2]) (sgQv D vwCl 52 h (eX ca h) sz (fun f1 L1 Q1 => ((sgI loX hiX f1 ∧ sgK WkX8_sumGroupsUpTo_1 f f1 ∧ L1 = L ∧ Q1 = Q) ∧ (f1) = sX8_sumGroupsUpTo_1 x1 x2 f L))) 0 0 (sgA 52 h sz) := by
  refine sg_ofWv (cc := cX8_sumGroupsUpTo) (maxL := 5) RX8 (by decide) rfl rfl (Nat.le_of_ble_eq_true rfl) ?_
  intro p e s m below meth cd Qz ls hx hb hml hown hts hK hZ hP hS hl hret
  have hA := sgY.self (n := 52) (h := h) (sz := s.heap.size)
  have hl : lv_has ls 5 [(0, .ref (h 17)), (1, .int 1), (2, .int x1), (3, .int x2)] := hl
  obtain ⟨H, hH⟩ : ∃ z : Heap, z = s.heap := ⟨_, rfl⟩
  obtain ⟨locs, hlo⟩ : ∃ z : List Loc, z = [] := ⟨_, rfl⟩
  have hP : va_P D vwCl (sgw 52 h (eX ca h) f L Q) H := by rw [hH]; exact hP
  have hS : va_S (sgA 52 h s.heap.size) s.heap H locs := by rw [hH, hlo]; exact hS
  suffices hgo : W p l e ({ frames := 1, cells := 0, slots := 0, locals := 21 }) s m ([.ref (h 17), .int 1, .int x1, .int x2] : List Value).toArray below meth cd H locs 0 0 Qz (F0 m 0 ls []) by rw [hH, hlo] at hgo; exact hgo
  clear hH hlo
  obtain ⟨sp, hsp⟩ : ∃ z : sg_F, z = sX8_sumGroupsUpTo_1 x1 x2 f L := ⟨_, rfl⟩
  have hs : sp = sX8_sumGroupsUpTo_1 x1 x2 f L := hsp
  have hF : sgK WkX8_sumGroupsUpTo_1 f f := sgK.rf
  have loop_5 : ∀ (n_5 : Nat) (y4_5 : Int32) (fp_5 : sg_F) (H : Heap) (locs : List Loc) (ls : Array Slot), sp = sX8_sumGroupsUpTo_1_l5 x1 x2 n_5 y4_5 fp_5 L → 4 - y4_5.toInt < (n_5 : Int) → 2 ≤ y4_5.toInt ∧ y4_5.toInt ≤ 4 → sgI loX hiX fp_5 → sgK WkX8_sumGroupsUpTo_1 f fp_5 → va_P D vwCl (sgw 52 h (eX ca h) fp_5 L Q) H → va_S (sgA 52 h s.heap.size) s.heap H locs → lv_has ls 5 [(0, .ref (h 17)), (1, .int 1), (2, .int x1), (3, .int x2), (4, .int y4_5)] → W p l e ({ frames := 1, cells := 0, slots := 0, locals := 21 }) s m ([.ref (h 17), .int 1, .int x1, .int x2] : List Value).toArray below meth cd H locs 0 0 Qz (F0 m 5 ls []) := by
    intro n_5
    induction n_5 with
    | zero => intro y4_5 fp_5 H locs ls hs hm_5 hy0_5 hI hF hP hS hl; exact absurd hm_5 (by omega)
    | succ n_5 ih_5 =>
      intro y4_5 fp_5 H locs ls hs hm_5 hy0_5 hI hF hP hS hl
      have hs : sp = sX8_sumGroupsUpTo_1_h5 x1 x2 (sX8_sumGroupsUpTo_1_l5 x1 x2 n_5) y4_5 fp_5 L := hs
      refine lv_iload hx hb dX8_sumGroupsUpTo_5 (lv_at hl 4 rfl) ?_
      refine lv_iconst (v := 2) hx hb dX8_sumGroupsUpTo_7 ic_2 ?_
      refine lv_iload_n hx hb dX8_sumGroupsUpTo_8 rfl (lv_at hl 1 rfl) ?_
      refine lv_ishl hx hb dX8_sumGroupsUpTo_9 ?_
      refine W.eq (g2 := F0 m 10 ls [.int 4, .int y4_5]) (by rw [show ((2 : Int32) <<< ((1 : Int32) &&& 31) : Int32) = 4 from by decide]) ?_
      refine lv_icmp_ge (tgt := 77) hx hb dX8_sumGroupsUpTo_10 (by decide) (fun c => ?_) (fun c => ?_)
      · skip
        have c_1 : 4 ≤ y4_5.toInt := (by first | exact (cm_le0 ti_4 c) | (have z := bn_le c; have k1 : (4 : Int32).toInt = 4 := ti_4; omega))
        exact hret _ _ _ _ fp_5 L Q dX8_sumGroupsUpTo_77 hP hS ⟨⟨hI, hF, rfl, rfl⟩, (Eq.trans (Eq.symm (hs.trans (((if_neg (Int.not_lt.mpr c_1)).trans rfl)))) hsp)⟩
      · skip
        have c_2 : y4_5.toInt < 4 := (by first | exact (cm_nle0 ti_4 c) | (have z := bn_nle c; have k1 : (4 : Int32).toInt = 4 := ti_4; omega))
        refine lv_aload_n hx hb dX8_sumGroupsUpTo_13 rfl (lv_at hl 0 rfl) ?_
        refine sl_gX_17_5_8 hx hb hts hown hK hP dX8_sumGroupsUpTo_14 ?_
        refine lv_iload hx hb dX8_sumGroupsUpTo_17 (lv_at hl 4 rfl) ?_
        refine lv_aload_n hx hb dX8_sumGroupsUpTo_19 rfl (lv_at hl 0 rfl) ?_
        refine sl_gX_17_5_8 hx hb hts hown hK hP dX8_sumGroupsUpTo_20 ?_
        refine lv_iload hx hb dX8_sumGroupsUpTo_23 (lv_at hl 4 rfl) ?_
        refine lv_iconst (v := 1) hx hb dX8_sumGroupsUpTo_25 ic_1 ?_
        refine lv_iload_n hx hb dX8_sumGroupsUpTo_26 rfl (lv_at hl 1 rfl) ?_
        refine lv_ishl hx hb dX8_sumGroupsUpTo_27 ?_
        refine W.eq (g2 := F0 m 28 ls [.int 2, .int y4_5, .ref (h 21), .int y4_5, .ref (h 21)]) (by rw [show ((1 : Int32) <<< ((1 : Int32) &&& 31) : Int32) = 2 from by decide]) ?_
        refine lv_isub hx hb dX8_sumGroupsUpTo_28 ?_
        refine lv_topi (fun v_3 ev_3 => ?_)
        have q_4 : v_3.toInt = y4_5.toInt - 2 := by rw [ev_3]; first | exact cm_sub ti_2 (by omega) (by omega) | (have k1 : (2 : Int32).toInt = 2 := ti_2; exact (bn_subI (by omega) (by omega)).trans (by omega))
        refine sg_iald hx hb hK hP 21 (by decide) 0 rfl rfl (i := v_3) (vp_in_iff.mpr ⟨by omega, by omega⟩) dX8_sumGroupsUpTo_29 ?_
        refine lv_topi (fun v_5 ev_5 => ?_)
        refine lv_iload_n hx hb dX8_sumGroupsUpTo_30 rfl (lv_at hl 2 rfl) ?_
        refine lv_iadd hx hb dX8_sumGroupsUpTo_31 ?_
        refine lv_topi (fun v_6 ev_6 => ?_)
        refine sg_iast hx hb hh hA hK hP hS 21 (by decide) 0 (fun _ => rfl) rfl (i := y4_5) (x := v_6) (vp_in_iff.mpr ⟨by omega, by omega⟩) dX8_sumGroupsUpTo_32 (fun f_7 H locs ef_7 hP hS => ?_)
        replace hs := hs.trans ((if_pos c_2).trans (spl_e ev_3 (spl_e ev_5 (spl_e ev_6 (spl_e ef_7 rfl)))))
        have hI : sgI loX hiX f_7 := by rw [ef_7]; exact sgI.put hI 21 y4_5.toNatClampNeg (bn_top _)
        have hF : sgK WkX8_sumGroupsUpTo_1 f f_7 := sgK.put hF ef_7 (by rfl)
        refine lv_aload_n hx hb dX8_sumGroupsUpTo_33 rfl (lv_at hl 0 rfl) ?_
        refine sl_gX_17_6_8 hx hb hts hown hK hP dX8_sumGroupsUpTo_34 ?_
        refine lv_iload hx hb dX8_sumGroupsUpTo_37 (lv_at hl 4 rfl) ?_
        refine lv_iload_n hx hb dX8_sumGroupsUpTo_39 rfl (lv_at hl 3 rfl) ?_
        refine lv_if_eq (tgt := 53) hx hb dX8_sumGroupsUpTo_40 (by decide) (fun c => ?_) (fun c => ?_)
        · skip
          have c_8 : x2.toInt = 0 := (by first | exact (cm_eq1 ti_0 c) | (have z := Int32.toInt_inj.mpr c; have k1 : (0 : Int32).toInt = 0 := ti_0; omega))
          refine lv_aload_n hx hb dX8_sumGroupsUpTo_53 rfl (lv_at hl 0 rfl) ?_
          refine sl_gX_17_6_8 hx hb hts hown hK hP dX8_sumGroupsUpTo_54 ?_
          refine lv_iload hx hb dX8_sumGroupsUpTo_57 (lv_at hl 4 rfl) ?_
          refine sg_iald hx hb hK hP 22 (by decide) 0 rfl rfl (i := y4_5) (vp_in_iff.mpr ⟨by omega, by omega⟩) dX8_sumGroupsUpTo_59 ?_
          refine lv_topi (fun v_10 ev_10 => ?_)
          refine lv_aload_n hx hb dX8_sumGroupsUpTo_60 rfl (lv_at hl 0 rfl) ?_
          refine sl_gX_17_5_8 hx hb hts hown hK hP dX8_sumGroupsUpTo_61 ?_
          refine lv_iload hx hb dX8_sumGroupsUpTo_64 (lv_at hl 4 rfl) ?_
          refine sg_iald hx hb hK hP 21 (by decide) 0 rfl rfl (i := y4_5) (vp_in_iff.mpr ⟨by omega, by omega⟩) dX8_sumGroupsUpTo_66 ?_
          refine W.eq (g2 := F0 m 67 ls [.int v_6, .int v_10, .int y4_5, .ref (h 22)]) (by rw [show f_7 21 (Int32.toNatClampNeg y4_5) = v_6 from (by rw [ef_7, sg_up_s, sgu_s])]) ?_
          refine va_mmin hx hb (hml.trans hl.1.symm) hown (hts _ (List.mem_cons_of_mem _ mw_386)) (hts _ (List.mem_cons_of_mem _ mw_10)) (hts _ (List.mem_cons_of_mem _ mw_11)) (hts _ (List.mem_cons_of_mem _ mw_12)) (Nat.le_of_ble_eq_true rfl) (Nat.le_of_ble_eq_true rfl) (Nat.le_refl _) (Nat.le_refl _) dX8_sumGroupsUpTo_67 ?_
          refine lv_topi (fun v_11 ev_11 => ?_)
          have q_12 : (v_6.toInt < v_10.toInt ∧ v_11.toInt = v_6.toInt) ∨ (v_10.toInt ≤ v_6.toInt ∧ v_11.toInt = v_10.toInt) := by have z := bn_minI v_6 v_10; rw [← ev_11] at z; omega
          refine sg_iast hx hb hh hA hK hP hS 22 (by decide) 0 (fun _ => rfl) rfl (i := y4_5) (x := v_11) (vp_in_iff.mpr ⟨by omega, by omega⟩) dX8_sumGroupsUpTo_70 (fun f_13 H locs ef_13 hP hS => ?_)
          have hI : sgI loX hiX f_13 := by rw [ef_13]; exact sgI.put hI 22 y4_5.toNatClampNeg (bn_top _)
          have hF : sgK WkX8_sumGroupsUpTo_1 f f_13 := sgK.put hF ef_13 (by rfl)
          obtain ⟨v_14, ev_14⟩ : ∃ z : Int32, z = y4_5 + 1 := ⟨_, rfl⟩
          have q_15 : v_14.toInt = y4_5.toInt + 1 := by rw [ev_14]; exact (bn_addc y4_5 1 (by decide) (by omega) (by omega))
          refine lv_iinc (v := v_14) (lv' := [(4, .int v_14), (0, .ref (h 17)), (1, .int 1), (2, .int x1), (3, .int x2)]) hx hb dX8_sumGroupsUpTo_71 hl (k := 4) rfl (by rw [ev_14]; rfl) (by decide) rfl (fun ls hl => ?_)
          refine lv_goto (tgt := 5) hx hb dX8_sumGroupsUpTo_74 (by decide) ?_
          exact ih_5 v_14 f_13 _ _ _ (hs.trans ((if_pos c_8).trans (spl_e ev_10 (spl_e ev_11 (spl_e ef_13 (spl_e ev_14 rfl)))))) (by omega) ⟨by omega, by omega⟩ hI hF hP hS (lv_sub hl [1, 2, 3, 4, 0] rfl)
        · skip
          have c_9 : x2.toInt ≠ 0 := (by first | exact (cm_ne1 ti_0 c) | (have z := bn_ne c; have k1 : (0 : Int32).toInt = 0 := ti_0; omega))
          refine lv_aload_n hx hb dX8_sumGroupsUpTo_43 rfl (lv_at hl 0 rfl) ?_
          refine sl_gX_17_5_8 hx hb hts hown hK hP dX8_sumGroupsUpTo_44 ?_
          refine lv_iload hx hb dX8_sumGroupsUpTo_47 (lv_at hl 4 rfl) ?_
          refine sg_iald hx hb hK hP 21 (by decide) 0 rfl rfl (i := y4_5) (vp_in_iff.mpr ⟨by omega, by omega⟩) dX8_sumGroupsUpTo_49 ?_
          refine W.eq (g2 := F0 m 50 ls [.int v_6, .int y4_5, .ref (h 22)]) (by rw [show f_7 21 (Int32.toNatClampNeg y4_5) = v_6 from (by rw [ef_7, sg_up_s, sgu_s])]) ?_
          refine lv_goto (tgt := 70) hx hb dX8_sumGroupsUpTo_50 (by decide) ?_
          refine sg_iast hx hb hh hA hK hP hS 22 (by decide) 0 (fun _ => rfl) rfl (i := y4_5) (x := v_6) (vp_in_iff.mpr ⟨by omega, by omega⟩) dX8_sumGroupsUpTo_70 (fun f_16 H locs ef_16 hP hS => ?_)
          have hI : sgI loX hiX f_16 := by rw [ef_16]; exact sgI.put hI 22 y4_5.toNatClampNeg (bn_top _)
          have hF : sgK WkX8_sumGroupsUpTo_1 f f_16 := sgK.put hF ef_16 (by rfl)
          obtain ⟨v_17, ev_17⟩ : ∃ z : Int32, z = y4_5 + 1 := ⟨_, rfl⟩
          have q_18 : v_17.toInt = y4_5.toInt + 1 := by rw [ev_17]; exact (bn_addc y4_5 1 (by decide) (by omega) (by omega))
          refine lv_iinc (v := v_17) (lv' := [(4, .int v_17), (0, .ref (h 17)), (1, .int 1), (2, .int x1), (3, .int x2)]) hx hb dX8_sumGroupsUpTo_71 hl (k := 4) rfl (by rw [ev_17]; rfl) (by decide) rfl (fun ls hl => ?_)
          refine lv_goto (tgt := 5) hx hb dX8_sumGroupsUpTo_74 (by decide) ?_
          exact ih_5 v_17 f_16 _ _ _ (hs.trans ((if_neg c_9).trans (spl_e ef_16 (spl_e ev_17 rfl)))) (by omega) ⟨by omega, by omega⟩ hI hF hP hS (lv_sub hl [1, 2, 3, 4, 0] rfl)
  refine lv_iconst (v := 1) hx hb dX8_sumGroupsUpTo_0 ic_1 ?_
  refine lv_iload_n hx hb dX8_sumGroupsUpTo_1 rfl (lv_at hl 1 rfl) ?_
  refine lv_ishl hx hb dX8_sumGroupsUpTo_2 ?_
  refine W.eq (g2 := F0 m 3 ls [.int 2]) (by rw [show ((1 : Int32) <<< ((1 : Int32) &&& 31) : Int32) = 2 from by decide]) ?_
  refine lv_istore (lv' := [(4, .int 2), (0, .ref (h 17)), (1, .int 1), (2, .int x1), (3, .int x2)]) hx hb dX8_sumGroupsUpTo_3 hl (by decide) rfl (fun ls hl => ?_)
  exact loop_5 3 2 f _ _ _ hs (by have kc0 : (2 : Int32).toInt = 2 := ti_2; omega) (by decide) hI hF hP hS (lv_sub hl [1, 2, 3, 4, 0] rfl)

abbrev WkX8_sumGroupsUpTo_2 : List (Nat × Nat × Option Nat) := [(21, 21, none), (22, 22, none)]
set_option maxHeartbeats 4000000 in
set_option maxRecDepth 100000 in
theorem kX8_sumGroupsUpTo_2 (l : Launch) (D : va_G) (ca : Nat → ClassId) (za h : Nat → Nat) (hh : sgH 52 h) (f : sg_F) (L : sg_L) (Q : sg_Q) (hI : sgI loX hiX f) (x1 : Int32) (x2 : Int32) (b2 : 0 ≤ x2.toInt ∧ x2.toInt ≤ 1) (sz : Nat) : Met l yX8_sumGroupsUpTo gwX8_sumGroupsUpTo { frames := 1, cells := 0, slots := 0, locals := 21 } (sgP D vwCl (tyX ca) 52 h (eX ca h) zcX za f L Q sz [.ref (h 17), .int 2, .int x1, .int x2]) (sgQv D vwCl 52 h (eX ca h) sz (fun f1 L1 Q1 => ((sgI loX hiX f1 ∧ sgK WkX8_sumGroupsUpTo_2 f f1 ∧ L1 = L ∧ Q1 = Q) ∧ (f1) = sX8_sumGroupsUpTo_2 x1 x2 f L))) 0 0 (sgA 52 h sz) := by
  refine sg_ofWv (cc := cX8_sumGroupsUpTo) (maxL := 5) RX8 (by decide) rfl rfl (Nat.le_of_ble_eq_true rfl) ?_
  intro p e s m below meth cd Qz ls hx hb hml hown hts hK hZ hP hS hl hret
  have hA := sgY.self (n := 52) (h := h) (sz := s.heap.size)
  have hl : lv_has ls 5 [(0, .ref (h 17)), (1, .int 2), (2, .int x1), (3, .int x2)] := hl
  obtain ⟨H, hH⟩ : ∃ z : Heap, z = s.heap := ⟨_, rfl⟩
  obtain ⟨locs, hlo⟩ : ∃ z : List Loc, z = [] := ⟨_, rfl⟩
  have hP : va_P D vwCl (sgw 52 h (eX ca h) f L Q) H := by rw [hH]; exact hP
  have hS : va_S (sgA 52 h s.heap.size) s.heap H locs := by rw [hH, hlo]; exact hS
  suffices hgo : W p l e ({ frames := 1, cells := 0, slots := 0, locals := 21 }) s m ([.ref (h 17), .int 2, .int x1, .int x2] : List Value).toArray below meth cd H locs 0 0 Qz (F0 m 0 ls []) by rw [hH, hlo] at hgo; exact hgo
  clear hH hlo
  obtain ⟨sp, hsp⟩ : ∃ z : sg_F, z = sX8_sumGroupsUpTo_2 x1 x2 f L := ⟨_, rfl⟩
  have hs : sp = sX8_sumGroupsUpTo_2 x1 x2 f L := hsp
  have hF : sgK WkX8_sumGroupsUpTo_2 f f := sgK.rf
  have loop_5 : ∀ (n_5 : Nat) (y4_5 : Int32) (fp_5 : sg_F) (H : Heap) (locs : List Loc) (ls : Array Slot), sp = sX8_sumGroupsUpTo_2_l5 x1 x2 n_5 y4_5 fp_5 L → 8 - y4_5.toInt < (n_5 : Int) → 4 ≤ y4_5.toInt ∧ y4_5.toInt ≤ 8 → sgI loX hiX fp_5 → sgK WkX8_sumGroupsUpTo_2 f fp_5 → va_P D vwCl (sgw 52 h (eX ca h) fp_5 L Q) H → va_S (sgA 52 h s.heap.size) s.heap H locs → lv_has ls 5 [(0, .ref (h 17)), (1, .int 2), (2, .int x1), (3, .int x2), (4, .int y4_5)] → W p l e ({ frames := 1, cells := 0, slots := 0, locals := 21 }) s m ([.ref (h 17), .int 2, .int x1, .int x2] : List Value).toArray below meth cd H locs 0 0 Qz (F0 m 5 ls []) := by
    intro n_5
    induction n_5 with
    | zero => intro y4_5 fp_5 H locs ls hs hm_5 hy0_5 hI hF hP hS hl; exact absurd hm_5 (by omega)
    | succ n_5 ih_5 =>
      intro y4_5 fp_5 H locs ls hs hm_5 hy0_5 hI hF hP hS hl
      have hs : sp = sX8_sumGroupsUpTo_2_h5 x1 x2 (sX8_sumGroupsUpTo_2_l5 x1 x2 n_5) y4_5 fp_5 L := hs
      refine lv_iload hx hb dX8_sumGroupsUpTo_5 (lv_at hl 4 rfl) ?_
      refine lv_iconst (v := 2) hx hb dX8_sumGroupsUpTo_7 ic_2 ?_
      refine lv_iload_n hx hb dX8_sumGroupsUpTo_8 rfl (lv_at hl 1 rfl) ?_
      refine lv_ishl hx hb dX8_sumGroupsUpTo_9 ?_
      refine W.eq (g2 := F0 m 10 ls [.int 8, .int y4_5]) (by rw [show ((2 : Int32) <<< ((2 : Int32) &&& 31) : Int32) = 8 from by decide]) ?_
      refine lv_icmp_ge (tgt := 77) hx hb dX8_sumGroupsUpTo_10 (by decide) (fun c => ?_) (fun c => ?_)
      · skip
        have c_1 : 8 ≤ y4_5.toInt := (by first | exact (cm_le0 ti_8 c) | (have z := bn_le c; have k1 : (8 : Int32).toInt = 8 := ti_8; omega))
        exact hret _ _ _ _ fp_5 L Q dX8_sumGroupsUpTo_77 hP hS ⟨⟨hI, hF, rfl, rfl⟩, (Eq.trans (Eq.symm (hs.trans (((if_neg (Int.not_lt.mpr c_1)).trans rfl)))) hsp)⟩
      · skip
        have c_2 : y4_5.toInt < 8 := (by first | exact (cm_nle0 ti_8 c) | (have z := bn_nle c; have k1 : (8 : Int32).toInt = 8 := ti_8; omega))
        refine lv_aload_n hx hb dX8_sumGroupsUpTo_13 rfl (lv_at hl 0 rfl) ?_
        refine sl_gX_17_5_8 hx hb hts hown hK hP dX8_sumGroupsUpTo_14 ?_
        refine lv_iload hx hb dX8_sumGroupsUpTo_17 (lv_at hl 4 rfl) ?_
        refine lv_aload_n hx hb dX8_sumGroupsUpTo_19 rfl (lv_at hl 0 rfl) ?_
        refine sl_gX_17_5_8 hx hb hts hown hK hP dX8_sumGroupsUpTo_20 ?_
        refine lv_iload hx hb dX8_sumGroupsUpTo_23 (lv_at hl 4 rfl) ?_
        refine lv_iconst (v := 1) hx hb dX8_sumGroupsUpTo_25 ic_1 ?_
        refine lv_iload_n hx hb dX8_sumGroupsUpTo_26 rfl (lv_at hl 1 rfl) ?_
        refine lv_ishl hx hb dX8_sumGroupsUpTo_27 ?_
        refine W.eq (g2 := F0 m 28 ls [.int 4, .int y4_5, .ref (h 21), .int y4_5, .ref (h 21)]) (by rw [show ((1 : Int32) <<< ((2 : Int32) &&& 31) : Int32) = 4 from by decide]) ?_
        refine lv_isub hx hb dX8_sumGroupsUpTo_28 ?_
        refine lv_topi (fun v_3 ev_3 => ?_)
        have q_4 : v_3.toInt = y4_5.toInt - 4 := by rw [ev_3]; first | exact cm_sub ti_4 (by omega) (by omega) | (have k1 : (4 : Int32).toInt = 4 := ti_4; exact (bn_subI (by omega) (by omega)).trans (by omega))
        refine sg_iald hx hb hK hP 21 (by decide) 0 rfl rfl (i := v_3) (vp_in_iff.mpr ⟨by omega, by omega⟩) dX8_sumGroupsUpTo_29 ?_
        refine lv_topi (fun v_5 ev_5 => ?_)
        refine lv_iload_n hx hb dX8_sumGroupsUpTo_30 rfl (lv_at hl 2 rfl) ?_
        refine lv_iadd hx hb dX8_sumGroupsUpTo_31 ?_
        refine lv_topi (fun v_6 ev_6 => ?_)
        refine sg_iast hx hb hh hA hK hP hS 21 (by decide) 0 (fun _ => rfl) rfl (i := y4_5) (x := v_6) (vp_in_iff.mpr ⟨by omega, by omega⟩) dX8_sumGroupsUpTo_32 (fun f_7 H locs ef_7 hP hS => ?_)
        replace hs := hs.trans ((if_pos c_2).trans (spl_e ev_3 (spl_e ev_5 (spl_e ev_6 (spl_e ef_7 rfl)))))
        have hI : sgI loX hiX f_7 := by rw [ef_7]; exact sgI.put hI 21 y4_5.toNatClampNeg (bn_top _)
        have hF : sgK WkX8_sumGroupsUpTo_2 f f_7 := sgK.put hF ef_7 (by rfl)
        refine lv_aload_n hx hb dX8_sumGroupsUpTo_33 rfl (lv_at hl 0 rfl) ?_
        refine sl_gX_17_6_8 hx hb hts hown hK hP dX8_sumGroupsUpTo_34 ?_
        refine lv_iload hx hb dX8_sumGroupsUpTo_37 (lv_at hl 4 rfl) ?_
        refine lv_iload_n hx hb dX8_sumGroupsUpTo_39 rfl (lv_at hl 3 rfl) ?_
        refine lv_if_eq (tgt := 53) hx hb dX8_sumGroupsUpTo_40 (by decide) (fun c => ?_) (fun c => ?_)
        · skip
          have c_8 : x2.toInt = 0 := (by first | exact (cm_eq1 ti_0 c) | (have z := Int32.toInt_inj.mpr c; have k1 : (0 : Int32).toInt = 0 := ti_0; omega))
          refine lv_aload_n hx hb dX8_sumGroupsUpTo_53 rfl (lv_at hl 0 rfl) ?_
          refine sl_gX_17_6_8 hx hb hts hown hK hP dX8_sumGroupsUpTo_54 ?_
          refine lv_iload hx hb dX8_sumGroupsUpTo_57 (lv_at hl 4 rfl) ?_
          refine sg_iald hx hb hK hP 22 (by decide) 0 rfl rfl (i := y4_5) (vp_in_iff.mpr ⟨by omega, by omega⟩) dX8_sumGroupsUpTo_59 ?_
          refine lv_topi (fun v_10 ev_10 => ?_)
          refine lv_aload_n hx hb dX8_sumGroupsUpTo_60 rfl (lv_at hl 0 rfl) ?_
          refine sl_gX_17_5_8 hx hb hts hown hK hP dX8_sumGroupsUpTo_61 ?_
          refine lv_iload hx hb dX8_sumGroupsUpTo_64 (lv_at hl 4 rfl) ?_
          refine sg_iald hx hb hK hP 21 (by decide) 0 rfl rfl (i := y4_5) (vp_in_iff.mpr ⟨by omega, by omega⟩) dX8_sumGroupsUpTo_66 ?_
          refine W.eq (g2 := F0 m 67 ls [.int v_6, .int v_10, .int y4_5, .ref (h 22)]) (by rw [show f_7 21 (Int32.toNatClampNeg y4_5) = v_6 from (by rw [ef_7, sg_up_s, sgu_s])]) ?_
          refine va_mmin hx hb (hml.trans hl.1.symm) hown (hts _ (List.mem_cons_of_mem _ mw_386)) (hts _ (List.mem_cons_of_mem _ mw_10)) (hts _ (List.mem_cons_of_mem _ mw_11)) (hts _ (List.mem_cons_of_mem _ mw_12)) (Nat.le_of_ble_eq_true rfl) (Nat.le_of_ble_eq_true rfl) (Nat.le_refl _) (Nat.le_refl _) dX8_sumGroupsUpTo_67 ?_
          refine lv_topi (fun v_11 ev_11 => ?_)
          have q_12 : (v_6.toInt < v_10.toInt ∧ v_11.toInt = v_6.toInt) ∨ (v_10.toInt ≤ v_6.toInt ∧ v_11.toInt = v_10.toInt) := by have z := bn_minI v_6 v_10; rw [← ev_11] at z; omega
          refine sg_iast hx hb hh hA hK hP hS 22 (by decide) 0 (fun _ => rfl) rfl (i := y4_5) (x := v_11) (vp_in_iff.mpr ⟨by omega, by omega⟩) dX8_sumGroupsUpTo_70 (fun f_13 H locs ef_13 hP hS => ?_)
          have hI : sgI loX hiX f_13 := by rw [ef_13]; exact sgI.put hI 22 y4_5.toNatClampNeg (bn_top _)
          have hF : sgK WkX8_sumGroupsUpTo_2 f f_13 := sgK.put hF ef_13 (by rfl)
          obtain ⟨v_14, ev_14⟩ : ∃ z : Int32, z = y4_5 + 1 := ⟨_, rfl⟩
          have q_15 : v_14.toInt = y4_5.toInt + 1 := by rw [ev_14]; exact (bn_addc y4_5 1 (by decide) (by omega) (by omega))
          refine lv_iinc (v := v_14) (lv' := [(4, .int v_14), (0, .ref (h 17)), (1, .int 2), (2, .int x1), (3, .int x2)]) hx hb dX8_sumGroupsUpTo_71 hl (k := 4) rfl (by rw [ev_14]; rfl) (by decide) rfl (fun ls hl => ?_)
          refine lv_goto (tgt := 5) hx hb dX8_sumGroupsUpTo_74 (by decide) ?_
          exact ih_5 v_14 f_13 _ _ _ (hs.trans ((if_pos c_8).trans (spl_e ev_10 (spl_e ev_11 (spl_e ef_13 (spl_e ev_14 rfl)))))) (by omega) ⟨by omega, by omega⟩ hI hF hP hS (lv_sub hl [1, 2, 3, 4, 0] rfl)
        · skip
          have c_9 : x2.toInt ≠ 0 := (by first | exact (cm_ne1 ti_0 c) | (have z := bn_ne c; have k1 : (0 : Int32).toInt = 0 := ti_0; omega))
          refine lv_aload_n hx hb dX8_sumGroupsUpTo_43 rfl (lv_at hl 0 rfl) ?_
          refine sl_gX_17_5_8 hx hb hts hown hK hP dX8_sumGroupsUpTo_44 ?_
          refine lv_iload hx hb dX8_sumGroupsUpTo_47 (lv_at hl 4 rfl) ?_
          refine sg_iald hx hb hK hP 21 (by decide) 0 rfl rfl (i := y4_5) (vp_in_iff.mpr ⟨by omega, by omega⟩) dX8_sumGroupsUpTo_49 ?_
          refine W.eq (g2 := F0 m 50 ls [.int v_6, .int y4_5, .ref (h 22)]) (by rw [show f_7 21 (Int32.toNatClampNeg y4_5) = v_6 from (by rw [ef_7, sg_up_s, sgu_s])]) ?_
          refine lv_goto (tgt := 70) hx hb dX8_sumGroupsUpTo_50 (by decide) ?_
          refine sg_iast hx hb hh hA hK hP hS 22 (by decide) 0 (fun _ => rfl) rfl (i := y4_5) (x := v_6) (vp_in_iff.mpr ⟨by omega, by omega⟩) dX8_sumGroupsUpTo_70 (fun f_16 H locs ef_16 hP hS => ?_)
          have hI : sgI loX hiX f_16 := by rw [ef_16]; exact sgI.put hI 22 y4_5.toNatClampNeg (bn_top _)
          have hF : sgK WkX8_sumGroupsUpTo_2 f f_16 := sgK.put hF ef_16 (by rfl)
          obtain ⟨v_17, ev_17⟩ : ∃ z : Int32, z = y4_5 + 1 := ⟨_, rfl⟩
          have q_18 : v_17.toInt = y4_5.toInt + 1 := by rw [ev_17]; exact (bn_addc y4_5 1 (by decide) (by omega) (by omega))
          refine lv_iinc (v := v_17) (lv' := [(4, .int v_17), (0, .ref (h 17)), (1, .int 2), (2, .int x1), (3, .int x2)]) hx hb dX8_sumGroupsUpTo_71 hl (k := 4) rfl (by rw [ev_17]; rfl) (by decide) rfl (fun ls hl => ?_)
          refine lv_goto (tgt := 5) hx hb dX8_sumGroupsUpTo_74 (by decide) ?_
          exact ih_5 v_17 f_16 _ _ _ (hs.trans ((if_neg c_9).trans (spl_e ef_16 (spl_e ev_17 rfl)))) (by omega) ⟨by omega, by omega⟩ hI hF hP hS (lv_sub hl [1, 2, 3, 4, 0] rfl)
  refine lv_iconst (v := 1) hx hb dX8_sumGroupsUpTo_0 ic_1 ?_
  refine lv_iload_n hx hb dX8_sumGroupsUpTo_1 rfl (lv_at hl 1 rfl) ?_
  refine lv_ishl hx hb dX8_sumGroupsUpTo_2 ?_
  refine W.eq (g2 := F0 m 3 ls [.int 4]) (by rw [show ((1 : Int32) <<< ((2 : Int32) &&& 31) : Int32) = 4 from by decide]) ?_
  refine lv_istore (lv' := [(4, .int 4), (0, .ref (h 17)), (1, .int 2), (2, .int x1), (3, .int x2)]) hx hb dX8_sumGroupsUpTo_3 hl (by decide) rfl (fun ls hl => ?_)
  exact loop_5 5 4 f _ _ _ hs (by have kc0 : (4 : Int32).toInt = 4 := ti_4; omega) (by decide) hI hF hP hS (lv_sub hl [1, 2, 3, 4, 0] rfl)

abbrev WkX8_sumGroupsUpTo_3 : List (Nat × Nat × Option Nat) := [(21, 21, none), (22, 22, none)]
set_option maxHeartbeats 4000000 in
set_option maxRecDepth 100000 in
theorem kX8_sumGroupsUpTo_3 (l : Launch) (D : va_G) (ca : Nat → ClassId) (za h : Nat → Nat) (hh : sgH 52 h) (f : sg_F) (L : sg_L) (Q : sg_Q) (hI : sgI loX hiX f) (x1 : Int32) (x2 : Int32) (b2 : 0 ≤ x2.toInt ∧ x2.toInt ≤ 1) (sz : Nat) : Met l yX8_sumGroupsUpTo gwX8_sumGroupsUpTo { frames := 1, cells := 0, slots := 0, locals := 21 } (sgP D vwCl (tyX ca) 52 h (eX ca h) zcX za f L Q sz [.ref (h 17), .int 3, .int x1, .int x2]) (sgQv D vwCl 52 h (eX ca h) sz (fun f1 L1 Q1 => ((sgI loX hiX f1 ∧ sgK WkX8_sumGroupsUpTo_3 f f1 ∧ L1 = L ∧ Q1 = Q) ∧ (f1) = sX8_sumGroupsUpTo_3 x1 x2 f L))) 0 0 (sgA 52 h sz) := by
  refine sg_ofWv (cc := cX8_sumGroupsUpTo) (maxL := 5) RX8 (by decide) rfl rfl (Nat.le_of_ble_eq_true rfl) ?_
  intro p e s m below meth cd Qz ls hx hb hml hown hts hK hZ hP hS hl hret
  have hA := sgY.self (n := 52) (h := h) (sz := s.heap.size)
  have hl : lv_has ls 5 [(0, .ref (h 17)), (1, .int 3), (2, .int x1), (3, .int x2)] := hl
  obtain ⟨H, hH⟩ : ∃ z : Heap, z = s.heap := ⟨_, rfl⟩
  obtain ⟨locs, hlo⟩ : ∃ z : List Loc, z = [] := ⟨_, rfl⟩
  have hP : va_P D vwCl (sgw 52 h (eX ca h) f L Q) H := by rw [hH]; exact hP
  have hS : va_S (sgA 52 h s.heap.size) s.heap H locs := by rw [hH, hlo]; exact hS
  suffices hgo : W p l e ({ frames := 1, cells := 0, slots := 0, locals := 21 }) s m ([.ref (h 17), .int 3, .int x1, .int x2] : List Value).toArray below meth cd H locs 0 0 Qz (F0 m 0 ls []) by rw [hH, hlo] at hgo; exact hgo
  clear hH hlo
  obtain ⟨sp, hsp⟩ : ∃ z : sg_F, z = sX8_sumGroupsUpTo_3 x1 x2 f L := ⟨_, rfl⟩
  have hs : sp = sX8_sumGroupsUpTo_3 x1 x2 f L := hsp
  have hF : sgK WkX8_sumGroupsUpTo_3 f f := sgK.rf
  have loop_5 : ∀ (n_5 : Nat) (y4_5 : Int32) (fp_5 : sg_F) (H : Heap) (locs : List Loc) (ls : Array Slot), sp = sX8_sumGroupsUpTo_3_l5 x1 x2 n_5 y4_5 fp_5 L → 16 - y4_5.toInt < (n_5 : Int) → 8 ≤ y4_5.toInt ∧ y4_5.toInt ≤ 16 → sgI loX hiX fp_5 → sgK WkX8_sumGroupsUpTo_3 f fp_5 → va_P D vwCl (sgw 52 h (eX ca h) fp_5 L Q) H → va_S (sgA 52 h s.heap.size) s.heap H locs → lv_has ls 5 [(0, .ref (h 17)), (1, .int 3), (2, .int x1), (3, .int x2), (4, .int y4_5)] → W p l e ({ frames := 1, cells := 0, slots := 0, locals := 21 }) s m ([.ref (h 17), .int 3, .int x1, .int x2] : List Value).toArray below meth cd H locs 0 0 Qz (F0 m 5 ls []) := by
    intro n_5
    induction n_5 with
    | zero => intro y4_5 fp_5 H locs ls hs hm_5 hy0_5 hI hF hP hS hl; exact absurd hm_5 (by omega)
    | succ n_5 ih_5 =>
      intro y4_5 fp_5 H locs ls hs hm_5 hy0_5 hI hF hP hS hl
      have hs : sp = sX8_sumGroupsUpTo_3_h5 x1 x2 (sX8_sumGroupsUpTo_3_l5 x1 x2 n_5) y4_5 fp_5 L := hs
      refine lv_iload hx hb dX8_sumGroupsUpTo_5 (lv_at hl 4 rfl) ?_
      refine lv_iconst (v := 2) hx hb dX8_sumGroupsUpTo_7 ic_2 ?_
      refine lv_iload_n hx hb dX8_sumGroupsUpTo_8 rfl (lv_at hl 1 rfl) ?_
      refine lv_ishl hx hb dX8_sumGroupsUpTo_9 ?_
      refine W.eq (g2 := F0 m 10 ls [.int 16, .int y4_5]) (by rw [show ((2 : Int32) <<< ((3 : Int32) &&& 31) : Int32) = 16 from by decide]) ?_
      refine lv_icmp_ge (tgt := 77) hx hb dX8_sumGroupsUpTo_10 (by decide) (fun c => ?_) (fun c => ?_)
      · skip
        have c_1 : 16 ≤ y4_5.toInt := (by first | exact (cm_le0 ti_16 c) | (have z := bn_le c; have k1 : (16 : Int32).toInt = 16 := ti_16; omega))
        exact hret _ _ _ _ fp_5 L Q dX8_sumGroupsUpTo_77 hP hS ⟨⟨hI, hF, rfl, rfl⟩, (Eq.trans (Eq.symm (hs.trans (((if_neg (Int.not_lt.mpr c_1)).trans rfl)))) hsp)⟩
      · skip
        have c_2 : y4_5.toInt < 16 := (by first | exact (cm_nle0 ti_16 c) | (have z := bn_nle c; have k1 : (16 : Int32).toInt = 16 := ti_16; omega))
        refine lv_aload_n hx hb dX8_sumGroupsUpTo_13 rfl (lv_at hl 0 rfl) ?_
        refine sl_gX_17_5_8 hx hb hts hown hK hP dX8_sumGroupsUpTo_14 ?_
        refine lv_iload hx hb dX8_sumGroupsUpTo_17 (lv_at hl 4 rfl) ?_
        refine lv_aload_n hx hb dX8_sumGroupsUpTo_19 rfl (lv_at hl 0 rfl) ?_
        refine sl_gX_17_5_8 hx hb hts hown hK hP dX8_sumGroupsUpTo_20 ?_
        refine lv_iload hx hb dX8_sumGroupsUpTo_23 (lv_at hl 4 rfl) ?_
        refine lv_iconst (v := 1) hx hb dX8_sumGroupsUpTo_25 ic_1 ?_
        refine lv_iload_n hx hb dX8_sumGroupsUpTo_26 rfl (lv_at hl 1 rfl) ?_
        refine lv_ishl hx hb dX8_sumGroupsUpTo_27 ?_
        refine W.eq (g2 := F0 m 28 ls [.int 8, .int y4_5, .ref (h 21), .int y4_5, .ref (h 21)]) (by rw [show ((1 : Int32) <<< ((3 : Int32) &&& 31) : Int32) = 8 from by decide]) ?_
        refine lv_isub hx hb dX8_sumGroupsUpTo_28 ?_
        refine lv_topi (fun v_3 ev_3 => ?_)
        have q_4 : v_3.toInt = y4_5.toInt - 8 := by rw [ev_3]; first | exact cm_sub ti_8 (by omega) (by omega) | (have k1 : (8 : Int32).toInt = 8 := ti_8; exact (bn_subI (by omega) (by omega)).trans (by omega))
        refine sg_iald hx hb hK hP 21 (by decide) 0 rfl rfl (i := v_3) (vp_in_iff.mpr ⟨by omega, by omega⟩) dX8_sumGroupsUpTo_29 ?_
        refine lv_topi (fun v_5 ev_5 => ?_)
        refine lv_iload_n hx hb dX8_sumGroupsUpTo_30 rfl (lv_at hl 2 rfl) ?_
        refine lv_iadd hx hb dX8_sumGroupsUpTo_31 ?_
        refine lv_topi (fun v_6 ev_6 => ?_)
        refine sg_iast hx hb hh hA hK hP hS 21 (by decide) 0 (fun _ => rfl) rfl (i := y4_5) (x := v_6) (vp_in_iff.mpr ⟨by omega, by omega⟩) dX8_sumGroupsUpTo_32 (fun f_7 H locs ef_7 hP hS => ?_)
        replace hs := hs.trans ((if_pos c_2).trans (spl_e ev_3 (spl_e ev_5 (spl_e ev_6 (spl_e ef_7 rfl)))))
        have hI : sgI loX hiX f_7 := by rw [ef_7]; exact sgI.put hI 21 y4_5.toNatClampNeg (bn_top _)
        have hF : sgK WkX8_sumGroupsUpTo_3 f f_7 := sgK.put hF ef_7 (by rfl)
        refine lv_aload_n hx hb dX8_sumGroupsUpTo_33 rfl (lv_at hl 0 rfl) ?_
        refine sl_gX_17_6_8 hx hb hts hown hK hP dX8_sumGroupsUpTo_34 ?_
        refine lv_iload hx hb dX8_sumGroupsUpTo_37 (lv_at hl 4 rfl) ?_
        refine lv_iload_n hx hb dX8_sumGroupsUpTo_39 rfl (lv_at hl 3 rfl) ?_
        refine lv_if_eq (tgt := 53) hx hb dX8_sumGroupsUpTo_40 (by decide) (fun c => ?_) (fun c => ?_)
        · skip
          have c_8 : x2.toInt = 0 := (by first | exact (cm_eq1 ti_0 c) | (have z := Int32.toInt_inj.mpr c; have k1 : (0 : Int32).toInt = 0 := ti_0; omega))
          refine lv_aload_n hx hb dX8_sumGroupsUpTo_53 rfl (lv_at hl 0 rfl) ?_
          refine sl_gX_17_6_8 hx hb hts hown hK hP dX8_sumGroupsUpTo_54 ?_
          refine lv_iload hx hb dX8_sumGroupsUpTo_57 (lv_at hl 4 rfl) ?_
          refine sg_iald hx hb hK hP 22 (by decide) 0 rfl rfl (i := y4_5) (vp_in_iff.mpr ⟨by omega, by omega⟩) dX8_sumGroupsUpTo_59 ?_
          refine lv_topi (fun v_10 ev_10 => ?_)
          refine lv_aload_n hx hb dX8_sumGroupsUpTo_60 rfl (lv_at hl 0 rfl) ?_
          refine sl_gX_17_5_8 hx hb hts hown hK hP dX8_sumGroupsUpTo_61 ?_
          refine lv_iload hx hb dX8_sumGroupsUpTo_64 (lv_at hl 4 rfl) ?_
          refine sg_iald hx hb hK hP 21 (by decide) 0 rfl rfl (i := y4_5) (vp_in_iff.mpr ⟨by omega, by omega⟩) dX8_sumGroupsUpTo_66 ?_
          refine W.eq (g2 := F0 m 67 ls [.int v_6, .int v_10, .int y4_5, .ref (h 22)]) (by rw [show f_7 21 (Int32.toNatClampNeg y4_5) = v_6 from (by rw [ef_7, sg_up_s, sgu_s])]) ?_
          refine va_mmin hx hb (hml.trans hl.1.symm) hown (hts _ (List.mem_cons_of_mem _ mw_386)) (hts _ (List.mem_cons_of_mem _ mw_10)) (hts _ (List.mem_cons_of_mem _ mw_11)) (hts _ (List.mem_cons_of_mem _ mw_12)) (Nat.le_of_ble_eq_true rfl) (Nat.le_of_ble_eq_true rfl) (Nat.le_refl _) (Nat.le_refl _) dX8_sumGroupsUpTo_67 ?_
          refine lv_topi (fun v_11 ev_11 => ?_)
          have q_12 : (v_6.toInt < v_10.toInt ∧ v_11.toInt = v_6.toInt) ∨ (v_10.toInt ≤ v_6.toInt ∧ v_11.toInt = v_10.toInt) := by have z := bn_minI v_6 v_10; rw [← ev_11] at z; omega
          refine sg_iast hx hb hh hA hK hP hS 22 (by decide) 0 (fun _ => rfl) rfl (i := y4_5) (x := v_11) (vp_in_iff.mpr ⟨by omega, by omega⟩) dX8_sumGroupsUpTo_70 (fun f_13 H locs ef_13 hP hS => ?_)
          have hI : sgI loX hiX f_13 := by rw [ef_13]; exact sgI.put hI 22 y4_5.toNatClampNeg (bn_top _)
          have hF : sgK WkX8_sumGroupsUpTo_3 f f_13 := sgK.put hF ef_13 (by rfl)
          obtain ⟨v_14, ev_14⟩ : ∃ z : Int32, z = y4_5 + 1 := ⟨_, rfl⟩
          have q_15 : v_14.toInt = y4_5.toInt + 1 := by rw [ev_14]; exact (bn_addc y4_5 1 (by decide) (by omega) (by omega))
          refine lv_iinc (v := v_14) (lv' := [(4, .int v_14), (0, .ref (h 17)), (1, .int 3), (2, .int x1), (3, .int x2)]) hx hb dX8_sumGroupsUpTo_71 hl (k := 4) rfl (by rw [ev_14]; rfl) (by decide) rfl (fun ls hl => ?_)
          refine lv_goto (tgt := 5) hx hb dX8_sumGroupsUpTo_74 (by decide) ?_
          exact ih_5 v_14 f_13 _ _ _ (hs.trans ((if_pos c_8).trans (spl_e ev_10 (spl_e ev_11 (spl_e ef_13 (spl_e ev_14 rfl)))))) (by omega) ⟨by omega, by omega⟩ hI hF hP hS (lv_sub hl [1, 2, 3, 4, 0] rfl)
        · skip
          have c_9 : x2.toInt ≠ 0 := (by first | exact (cm_ne1 ti_0 c) | (have z := bn_ne c; have k1 : (0 : Int32).toInt = 0 := ti_0; omega))
          refine lv_aload_n hx hb dX8_sumGroupsUpTo_43 rfl (lv_at hl 0 rfl) ?_
          refine sl_gX_17_5_8 hx hb hts hown hK hP dX8_sumGroupsUpTo_44 ?_
          refine lv_iload hx hb dX8_sumGroupsUpTo_47 (lv_at hl 4 rfl) ?_
          refine sg_iald hx hb hK hP 21 (by decide) 0 rfl rfl (i := y4_5) (vp_in_iff.mpr ⟨by omega, by omega⟩) dX8_sumGroupsUpTo_49 ?_
          refine W.eq (g2 := F0 m 50 ls [.int v_6, .int y4_5, .ref (h 22)]) (by rw [show f_7 21 (Int32.toNatClampNeg y4_5) = v_6 from (by rw [ef_7, sg_up_s, sgu_s])]) ?_
          refine lv_goto (tgt := 70) hx hb dX8_sumGroupsUpTo_50 (by decide) ?_
          refine sg_iast hx hb hh hA hK hP hS 22 (by decide) 0 (fun _ => rfl) rfl (i := y4_5) (x := v_6) (vp_in_iff.mpr ⟨by omega, by omega⟩) dX8_sumGroupsUpTo_70 (fun f_16 H locs ef_16 hP hS => ?_)
          have hI : sgI loX hiX f_16 := by rw [ef_16]; exact sgI.put hI 22 y4_5.toNatClampNeg (bn_top _)
          have hF : sgK WkX8_sumGroupsUpTo_3 f f_16 := sgK.put hF ef_16 (by rfl)
          obtain ⟨v_17, ev_17⟩ : ∃ z : Int32, z = y4_5 + 1 := ⟨_, rfl⟩
          have q_18 : v_17.toInt = y4_5.toInt + 1 := by rw [ev_17]; exact (bn_addc y4_5 1 (by decide) (by omega) (by omega))
          refine lv_iinc (v := v_17) (lv' := [(4, .int v_17), (0, .ref (h 17)), (1, .int 3), (2, .int x1), (3, .int x2)]) hx hb dX8_sumGroupsUpTo_71 hl (k := 4) rfl (by rw [ev_17]; rfl) (by decide) rfl (fun ls hl => ?_)
          refine lv_goto (tgt := 5) hx hb dX8_sumGroupsUpTo_74 (by decide) ?_
          exact ih_5 v_17 f_16 _ _ _ (hs.trans ((if_neg c_9).trans (spl_e ef_16 (spl_e ev_17 rfl)))) (by omega) ⟨by omega, by omega⟩ hI hF hP hS (lv_sub hl [1, 2, 3, 4, 0] rfl)
  refine lv_iconst (v := 1) hx hb dX8_sumGroupsUpTo_0 ic_1 ?_
  refine lv_iload_n hx hb dX8_sumGroupsUpTo_1 rfl (lv_at hl 1 rfl) ?_
  refine lv_ishl hx hb dX8_sumGroupsUpTo_2 ?_
  refine W.eq (g2 := F0 m 3 ls [.int 8]) (by rw [show ((1 : Int32) <<< ((3 : Int32) &&& 31) : Int32) = 8 from by decide]) ?_
  refine lv_istore (lv' := [(4, .int 8), (0, .ref (h 17)), (1, .int 3), (2, .int x1), (3, .int x2)]) hx hb dX8_sumGroupsUpTo_3 hl (by decide) rfl (fun ls hl => ?_)
  exact loop_5 9 8 f _ _ _ hs (by have kc0 : (8 : Int32).toInt = 8 := ti_8; omega) (by decide) hI hF hP hS (lv_sub hl [1, 2, 3, 4, 0] rfl)

abbrev WkX8_sumGroupsUpTo_4 : List (Nat × Nat × Option Nat) := [(21, 21, none), (22, 22, none)]
set_option maxHeartbeats 4000000 in
set_option maxRecDepth 100000 in
theorem kX8_sumGroupsUpTo_4 (l : Launch) (D : va_G) (ca : Nat → ClassId) (za h : Nat → Nat) (hh : sgH 52 h) (f : sg_F) (L : sg_L) (Q : sg_Q) (hI : sgI loX hiX f) (x1 : Int32) (x2 : Int32) (b2 : 0 ≤ x2.toInt ∧ x2.toInt ≤ 1) (sz : Nat) : Met l yX8_sumGroupsUpTo gwX8_sumGroupsUpTo { frames := 1, cells := 0, slots := 0, locals := 21 } (sgP D vwCl (tyX ca) 52 h (eX ca h) zcX za f L Q sz [.ref (h 17), .int 4, .int x1, .int x2]) (sgQv D vwCl 52 h (eX ca h) sz (fun f1 L1 Q1 => ((sgI loX hiX f1 ∧ sgK WkX8_sumGroupsUpTo_4 f f1 ∧ L1 = L ∧ Q1 = Q) ∧ (f1) = sX8_sumGroupsUpTo_4 x1 x2 f L))) 0 0 (sgA 52 h sz) := by
  refine sg_ofWv (cc := cX8_sumGroupsUpTo) (maxL := 5) RX8 (by decide) rfl rfl (Nat.le_of_ble_eq_true rfl) ?_
  intro p e s m below meth cd Qz ls hx hb hml hown hts hK hZ hP hS hl hret
  have hA := sgY.self (n := 52) (h := h) (sz := s.heap.size)
  have hl : lv_has ls 5 [(0, .ref (h 17)), (1, .int 4), (2, .int x1), (3, .int x2)] := hl
  obtain ⟨H, hH⟩ : ∃ z : Heap, z = s.heap := ⟨_, rfl⟩
  obtain ⟨locs, hlo⟩ : ∃ z : List Loc, z = [] := ⟨_, rfl⟩
  have hP : va_P D vwCl (sgw 52 h (eX ca h) f L Q) H := by rw [hH]; exact hP
  have hS : va_S (sgA 52 h s.heap.size) s.heap H locs := by rw [hH, hlo]; exact hS
  suffices hgo : W p l e ({ frames := 1, cells := 0, slots := 0, locals := 21 }) s m ([.ref (h 17), .int 4, .int x1, .int x2] : List Value).toArray below meth cd H locs 0 0 Qz (F0 m 0 ls []) by rw [hH, hlo] at hgo; exact hgo
  clear hH hlo
  obtain ⟨sp, hsp⟩ : ∃ z : sg_F, z = sX8_sumGroupsUpTo_4 x1 x2 f L := ⟨_, rfl⟩
  have hs : sp = sX8_sumGroupsUpTo_4 x1 x2 f L := hsp
  have hF : sgK WkX8_sumGroupsUpTo_4 f f := sgK.rf
  have loop_5 : ∀ (n_5 : Nat) (y4_5 : Int32) (fp_5 : sg_F) (H : Heap) (locs : List Loc) (ls : Array Slot), sp = sX8_sumGroupsUpTo_4_l5 x1 x2 n_5 y4_5 fp_5 L → 32 - y4_5.toInt < (n_5 : Int) → 16 ≤ y4_5.toInt ∧ y4_5.toInt ≤ 32 → sgI loX hiX fp_5 → sgK WkX8_sumGroupsUpTo_4 f fp_5 → va_P D vwCl (sgw 52 h (eX ca h) fp_5 L Q) H → va_S (sgA 52 h s.heap.size) s.heap H locs → lv_has ls 5 [(0, .ref (h 17)), (1, .int 4), (2, .int x1), (3, .int x2), (4, .int y4_5)] → W p l e ({ frames := 1, cells := 0, slots := 0, locals := 21 }) s m ([.ref (h 17), .int 4, .int x1, .int x2] : List Value).toArray below meth cd H locs 0 0 Qz (F0 m 5 ls []) := by
    intro n_5
    induction n_5 with
    | zero => intro y4_5 fp_5 H locs ls hs hm_5 hy0_5 hI hF hP hS hl; exact absurd hm_5 (by omega)
    | succ n_5 ih_5 =>
      intro y4_5 fp_5 H locs ls hs hm_5 hy0_5 hI hF hP hS hl
      have hs : sp = sX8_sumGroupsUpTo_4_h5 x1 x2 (sX8_sumGroupsUpTo_4_l5 x1 x2 n_5) y4_5 fp_5 L := hs
      refine lv_iload hx hb dX8_sumGroupsUpTo_5 (lv_at hl 4 rfl) ?_
      refine lv_iconst (v := 2) hx hb dX8_sumGroupsUpTo_7 ic_2 ?_
      refine lv_iload_n hx hb dX8_sumGroupsUpTo_8 rfl (lv_at hl 1 rfl) ?_
      refine lv_ishl hx hb dX8_sumGroupsUpTo_9 ?_
      refine W.eq (g2 := F0 m 10 ls [.int 32, .int y4_5]) (by rw [show ((2 : Int32) <<< ((4 : Int32) &&& 31) : Int32) = 32 from by decide]) ?_
      refine lv_icmp_ge (tgt := 77) hx hb dX8_sumGroupsUpTo_10 (by decide) (fun c => ?_) (fun c => ?_)
      · skip
        have c_1 : 32 ≤ y4_5.toInt := (by first | exact (cm_le0 ti_32 c) | (have z := bn_le c; have k1 : (32 : Int32).toInt = 32 := ti_32; omega))
        exact hret _ _ _ _ fp_5 L Q dX8_sumGroupsUpTo_77 hP hS ⟨⟨hI, hF, rfl, rfl⟩, (Eq.trans (Eq.symm (hs.trans (((if_neg (Int.not_lt.mpr c_1)).trans rfl)))) hsp)⟩
      · skip
        have c_2 : y4_5.toInt < 32 := (by first | exact (cm_nle0 ti_32 c) | (have z := bn_nle c; have k1 : (32 : Int32).toInt = 32 := ti_32; omega))
        refine lv_aload_n hx hb dX8_sumGroupsUpTo_13 rfl (lv_at hl 0 rfl) ?_
        refine sl_gX_17_5_8 hx hb hts hown hK hP dX8_sumGroupsUpTo_14 ?_
        refine lv_iload hx hb dX8_sumGroupsUpTo_17 (lv_at hl 4 rfl) ?_
        refine lv_aload_n hx hb dX8_sumGroupsUpTo_19 rfl (lv_at hl 0 rfl) ?_
        refine sl_gX_17_5_8 hx hb hts hown hK hP dX8_sumGroupsUpTo_20 ?_
        refine lv_iload hx hb dX8_sumGroupsUpTo_23 (lv_at hl 4 rfl) ?_
        refine lv_iconst (v := 1) hx hb dX8_sumGroupsUpTo_25 ic_1 ?_
        refine lv_iload_n hx hb dX8_sumGroupsUpTo_26 rfl (lv_at hl 1 rfl) ?_
        refine lv_ishl hx hb dX8_sumGroupsUpTo_27 ?_
        refine W.eq (g2 := F0 m 28 ls [.int 16, .int y4_5, .ref (h 21), .int y4_5, .ref (h 21)]) (by rw [show ((1 : Int32) <<< ((4 : Int32) &&& 31) : Int32) = 16 from by decide]) ?_
        refine lv_isub hx hb dX8_sumGroupsUpTo_28 ?_
        refine lv_topi (fun v_3 ev_3 => ?_)
        have q_4 : v_3.toInt = y4_5.toInt - 16 := by rw [ev_3]; first | exact cm_sub ti_16 (by omega) (by omega) | (have k1 : (16 : Int32).toInt = 16 := ti_16; exact (bn_subI (by omega) (by omega)).trans (by omega))
        refine sg_iald hx hb hK hP 21 (by decide) 0 rfl rfl (i := v_3) (vp_in_iff.mpr ⟨by omega, by omega⟩) dX8_sumGroupsUpTo_29 ?_
        refine lv_topi (fun v_5 ev_5 => ?_)
        refine lv_iload_n hx hb dX8_sumGroupsUpTo_30 rfl (lv_at hl 2 rfl) ?_
        refine lv_iadd hx hb dX8_sumGroupsUpTo_31 ?_
        refine lv_topi (fun v_6 ev_6 => ?_)
        refine sg_iast hx hb hh hA hK hP hS 21 (by decide) 0 (fun _ => rfl) rfl (i := y4_5) (x := v_6) (vp_in_iff.mpr ⟨by omega, by omega⟩) dX8_sumGroupsUpTo_32 (fun f_7 H locs ef_7 hP hS => ?_)
        replace hs := hs.trans ((if_pos c_2).trans (spl_e ev_3 (spl_e ev_5 (spl_e ev_6 (spl_e ef_7 rfl)))))
        have hI : sgI loX hiX f_7 := by rw [ef_7]; exact sgI.put hI 21 y4_5.toNatClampNeg (bn_top _)
        have hF : sgK WkX8_sumGroupsUpTo_4 f f_7 := sgK.put hF ef_7 (by rfl)
        refine lv_aload_n hx hb dX8_sumGroupsUpTo_33 rfl (lv_at hl 0 rfl) ?_
        refine sl_gX_17_6_8 hx hb hts hown hK hP dX8_sumGroupsUpTo_34 ?_
        refine lv_iload hx hb dX8_sumGroupsUpTo_37 (lv_at hl 4 rfl) ?_
        refine lv_iload_n hx hb dX8_sumGroupsUpTo_39 rfl (lv_at hl 3 rfl) ?_
        refine lv_if_eq (tgt := 53) hx hb dX8_sumGroupsUpTo_40 (by decide) (fun c => ?_) (fun c => ?_)
        · skip
          have c_8 : x2.toInt = 0 := (by first | exact (cm_eq1 ti_0 c) | (have z := Int32.toInt_inj.mpr c; have k1 : (0 : Int32).toInt = 0 := ti_0; omega))
          refine lv_aload_n hx hb dX8_sumGroupsUpTo_53 rfl (lv_at hl 0 rfl) ?_
          refine sl_gX_17_6_8 hx hb hts hown hK hP dX8_sumGroupsUpTo_54 ?_
          refine lv_iload hx hb dX8_sumGroupsUpTo_57 (lv_at hl 4 rfl) ?_
          refine sg_iald hx hb hK hP 22 (by decide) 0 rfl rfl (i := y4_5) (vp_in_iff.mpr ⟨by omega, by omega⟩) dX8_sumGroupsUpTo_59 ?_
          refine lv_topi (fun v_10 ev_10 => ?_)
          refine lv_aload_n hx hb dX8_sumGroupsUpTo_60 rfl (lv_at hl 0 rfl) ?_
          refine sl_gX_17_5_8 hx hb hts hown hK hP dX8_sumGroupsUpTo_61 ?_
          refine lv_iload hx hb dX8_sumGroupsUpTo_64 (lv_at hl 4 rfl) ?_
          refine sg_iald hx hb hK hP 21 (by decide) 0 rfl rfl (i := y4_5) (vp_in_iff.mpr ⟨by omega, by omega⟩) dX8_sumGroupsUpTo_66 ?_
          refine W.eq (g2 := F0 m 67 ls [.int v_6, .int v_10, .int y4_5, .ref (h 22)]) (by rw [show f_7 21 (Int32.toNatClampNeg y4_5) = v_6 from (by rw [ef_7, sg_up_s, sgu_s])]) ?_
          refine va_mmin hx hb (hml.trans hl.1.symm) hown (hts _ (List.mem_cons_of_mem _ mw_386)) (hts _ (List.mem_cons_of_mem _ mw_10)) (hts _ (List.mem_cons_of_mem _ mw_11)) (hts _ (List.mem_cons_of_mem _ mw_12)) (Nat.le_of_ble_eq_true rfl) (Nat.le_of_ble_eq_true rfl) (Nat.le_refl _) (Nat.le_refl _) dX8_sumGroupsUpTo_67 ?_
          refine lv_topi (fun v_11 ev_11 => ?_)
          have q_12 : (v_6.toInt < v_10.toInt ∧ v_11.toInt = v_6.toInt) ∨ (v_10.toInt ≤ v_6.toInt ∧ v_11.toInt = v_10.toInt) := by have z := bn_minI v_6 v_10; rw [← ev_11] at z; omega
          refine sg_iast hx hb hh hA hK hP hS 22 (by decide) 0 (fun _ => rfl) rfl (i := y4_5) (x := v_11) (vp_in_iff.mpr ⟨by omega, by omega⟩) dX8_sumGroupsUpTo_70 (fun f_13 H locs ef_13 hP hS => ?_)
          have hI : sgI loX hiX f_13 := by rw [ef_13]; exact sgI.put hI 22 y4_5.toNatClampNeg (bn_top _)
          have hF : sgK WkX8_sumGroupsUpTo_4 f f_13 := sgK.put hF ef_13 (by rfl)
          obtain ⟨v_14, ev_14⟩ : ∃ z : Int32, z = y4_5 + 1 := ⟨_, rfl⟩
          have q_15 : v_14.toInt = y4_5.toInt + 1 := by rw [ev_14]; exact (bn_addc y4_5 1 (by decide) (by omega) (by omega))
          refine lv_iinc (v := v_14) (lv' := [(4, .int v_14), (0, .ref (h 17)), (1, .int 4), (2, .int x1), (3, .int x2)]) hx hb dX8_sumGroupsUpTo_71 hl (k := 4) rfl (by rw [ev_14]; rfl) (by decide) rfl (fun ls hl => ?_)
          refine lv_goto (tgt := 5) hx hb dX8_sumGroupsUpTo_74 (by decide) ?_
          exact ih_5 v_14 f_13 _ _ _ (hs.trans ((if_pos c_8).trans (spl_e ev_10 (spl_e ev_11 (spl_e ef_13 (spl_e ev_14 rfl)))))) (by omega) ⟨by omega, by omega⟩ hI hF hP hS (lv_sub hl [1, 2, 3, 4, 0] rfl)
        · skip
          have c_9 : x2.toInt ≠ 0 := (by first | exact (cm_ne1 ti_0 c) | (have z := bn_ne c; have k1 : (0 : Int32).toInt = 0 := ti_0; omega))
          refine lv_aload_n hx hb dX8_sumGroupsUpTo_43 rfl (lv_at hl 0 rfl) ?_
          refine sl_gX_17_5_8 hx hb hts hown hK hP dX8_sumGroupsUpTo_44 ?_
          refine lv_iload hx hb dX8_sumGroupsUpTo_47 (lv_at hl 4 rfl) ?_
          refine sg_iald hx hb hK hP 21 (by decide) 0 rfl rfl (i := y4_5) (vp_in_iff.mpr ⟨by omega, by omega⟩) dX8_sumGroupsUpTo_49 ?_
          refine W.eq (g2 := F0 m 50 ls [.int v_6, .int y4_5, .ref (h 22)]) (by rw [show f_7 21 (Int32.toNatClampNeg y4_5) = v_6 from (by rw [ef_7, sg_up_s, sgu_s])]) ?_
          refine lv_goto (tgt := 70) hx hb dX8_sumGroupsUpTo_50 (by decide) ?_
          refine sg_iast hx hb hh hA hK hP hS 22 (by decide) 0 (fun _ => rfl) rfl (i := y4_5) (x := v_6) (vp_in_iff.mpr ⟨by omega, by omega⟩) dX8_sumGroupsUpTo_70 (fun f_16 H locs ef_16 hP hS => ?_)
          have hI : sgI loX hiX f_16 := by rw [ef_16]; exact sgI.put hI 22 y4_5.toNatClampNeg (bn_top _)
          have hF : sgK WkX8_sumGroupsUpTo_4 f f_16 := sgK.put hF ef_16 (by rfl)
          obtain ⟨v_17, ev_17⟩ : ∃ z : Int32, z = y4_5 + 1 := ⟨_, rfl⟩
          have q_18 : v_17.toInt = y4_5.toInt + 1 := by rw [ev_17]; exact (bn_addc y4_5 1 (by decide) (by omega) (by omega))
          refine lv_iinc (v := v_17) (lv' := [(4, .int v_17), (0, .ref (h 17)), (1, .int 4), (2, .int x1), (3, .int x2)]) hx hb dX8_sumGroupsUpTo_71 hl (k := 4) rfl (by rw [ev_17]; rfl) (by decide) rfl (fun ls hl => ?_)
          refine lv_goto (tgt := 5) hx hb dX8_sumGroupsUpTo_74 (by decide) ?_
          exact ih_5 v_17 f_16 _ _ _ (hs.trans ((if_neg c_9).trans (spl_e ef_16 (spl_e ev_17 rfl)))) (by omega) ⟨by omega, by omega⟩ hI hF hP hS (lv_sub hl [1, 2, 3, 4, 0] rfl)
  refine lv_iconst (v := 1) hx hb dX8_sumGroupsUpTo_0 ic_1 ?_
  refine lv_iload_n hx hb dX8_sumGroupsUpTo_1 rfl (lv_at hl 1 rfl) ?_
  refine lv_ishl hx hb dX8_sumGroupsUpTo_2 ?_
  refine W.eq (g2 := F0 m 3 ls [.int 16]) (by rw [show ((1 : Int32) <<< ((4 : Int32) &&& 31) : Int32) = 16 from by decide]) ?_
  refine lv_istore (lv' := [(4, .int 16), (0, .ref (h 17)), (1, .int 4), (2, .int x1), (3, .int x2)]) hx hb dX8_sumGroupsUpTo_3 hl (by decide) rfl (fun ls hl => ?_)
  exact loop_5 17 16 f _ _ _ hs (by have kc0 : (16 : Int32).toInt = 16 := ti_16; omega) (by decide) hI hF hP hS (lv_sub hl [1, 2, 3, 4, 0] rfl)

abbrev WkX8_sumGroupsUpTo_5 : List (Nat × Nat × Option Nat) := [(21, 21, none), (22, 22, none)]
set_option maxHeartbeats 4000000 in
set_option maxRecDepth 100000 in
theorem kX8_sumGroupsUpTo_5 (l : Launch) (D : va_G) (ca : Nat → ClassId) (za h : Nat → Nat) (hh : sgH 52 h) (f : sg_F) (L : sg_L) (Q : sg_Q) (hI : sgI loX hiX f) (x1 : Int32) (x2 : Int32) (b2 : 0 ≤ x2.toInt ∧ x2.toInt ≤ 1) (sz : Nat) : Met l yX8_sumGroupsUpTo gwX8_sumGroupsUpTo { frames := 1, cells := 0, slots := 0, locals := 21 } (sgP D vwCl (tyX ca) 52 h (eX ca h) zcX za f L Q sz [.ref (h 17), .int 5, .int x1, .int x2]) (sgQv D vwCl 52 h (eX ca h) sz (fun f1 L1 Q1 => ((sgI loX hiX f1 ∧ sgK WkX8_sumGroupsUpTo_5 f f1 ∧ L1 = L ∧ Q1 = Q) ∧ (f1) = sX8_sumGroupsUpTo_5 x1 x2 f L))) 0 0 (sgA 52 h sz) := by
  refine sg_ofWv (cc := cX8_sumGroupsUpTo) (maxL := 5) RX8 (by decide) rfl rfl (Nat.le_of_ble_eq_true rfl) ?_
  intro p e s m below meth cd Qz ls hx hb hml hown hts hK hZ hP hS hl hret
  have hA := sgY.self (n := 52) (h := h) (sz := s.heap.size)
  have hl : lv_has ls 5 [(0, .ref (h 17)), (1, .int 5), (2, .int x1), (3, .int x2)] := hl
  obtain ⟨H, hH⟩ : ∃ z : Heap, z = s.heap := ⟨_, rfl⟩
  obtain ⟨locs, hlo⟩ : ∃ z : List Loc, z = [] := ⟨_, rfl⟩
  have hP : va_P D vwCl (sgw 52 h (eX ca h) f L Q) H := by rw [hH]; exact hP
  have hS : va_S (sgA 52 h s.heap.size) s.heap H locs := by rw [hH, hlo]; exact hS
  suffices hgo : W p l e ({ frames := 1, cells := 0, slots := 0, locals := 21 }) s m ([.ref (h 17), .int 5, .int x1, .int x2] : List Value).toArray below meth cd H locs 0 0 Qz (F0 m 0 ls []) by rw [hH, hlo] at hgo; exact hgo
  clear hH hlo
  obtain ⟨sp, hsp⟩ : ∃ z : sg_F, z = sX8_sumGroupsUpTo_5 x1 x2 f L := ⟨_, rfl⟩
  have hs : sp = sX8_sumGroupsUpTo_5 x1 x2 f L := hsp
  have hF : sgK WkX8_sumGroupsUpTo_5 f f := sgK.rf
  have loop_5 : ∀ (n_5 : Nat) (y4_5 : Int32) (fp_5 : sg_F) (H : Heap) (locs : List Loc) (ls : Array Slot), sp = sX8_sumGroupsUpTo_5_l5 x1 x2 n_5 y4_5 fp_5 L → 64 - y4_5.toInt < (n_5 : Int) → 32 ≤ y4_5.toInt ∧ y4_5.toInt ≤ 64 → sgI loX hiX fp_5 → sgK WkX8_sumGroupsUpTo_5 f fp_5 → va_P D vwCl (sgw 52 h (eX ca h) fp_5 L Q) H → va_S (sgA 52 h s.heap.size) s.heap H locs → lv_has ls 5 [(0, .ref (h 17)), (1, .int 5), (2, .int x1), (3, .int x2), (4, .int y4_5)] → W p l e ({ frames := 1, cells := 0, slots := 0, locals := 21 }) s m ([.ref (h 17), .int 5, .int x1, .int x2] : List Value).toArray below meth cd H locs 0 0 Qz (F0 m 5 ls []) := by
    intro n_5
    induction n_5 with
    | zero => intro y4_5 fp_5 H locs ls hs hm_5 hy0_5 hI hF hP hS hl; exact absurd hm_5 (by omega)
    | succ n_5 ih_5 =>
      intro y4_5 fp_5 H locs ls hs hm_5 hy0_5 hI hF hP hS hl
      have hs : sp = sX8_sumGroupsUpTo_5_h5 x1 x2 (sX8_sumGroupsUpTo_5_l5 x1 x2 n_5) y4_5 fp_5 L := hs
      refine lv_iload hx hb dX8_sumGroupsUpTo_5 (lv_at hl 4 rfl) ?_
      refine lv_iconst (v := 2) hx hb dX8_sumGroupsUpTo_7 ic_2 ?_
      refine lv_iload_n hx hb dX8_sumGroupsUpTo_8 rfl (lv_at hl 1 rfl) ?_
      refine lv_ishl hx hb dX8_sumGroupsUpTo_9 ?_
      refine W.eq (g2 := F0 m 10 ls [.int 64, .int y4_5]) (by rw [show ((2 : Int32) <<< ((5 : Int32) &&& 31) : Int32) = 64 from by decide]) ?_
      refine lv_icmp_ge (tgt := 77) hx hb dX8_sumGroupsUpTo_10 (by decide) (fun c => ?_) (fun c => ?_)
      · skip
        have c_1 : 64 ≤ y4_5.toInt := (by first | exact (cm_le0 ti_64 c) | (have z := bn_le c; have k1 : (64 : Int32).toInt = 64 := ti_64; omega))
        exact hret _ _ _ _ fp_5 L Q dX8_sumGroupsUpTo_77 hP hS ⟨⟨hI, hF, rfl, rfl⟩, (Eq.trans (Eq.symm (hs.trans (((if_neg (Int.not_lt.mpr c_1)).trans rfl)))) hsp)⟩
      · skip
        have c_2 : y4_5.toInt < 64 := (by first | exact (cm_nle0 ti_64 c) | (have z := bn_nle c; have k1 : (64 : Int32).toInt = 64 := ti_64; omega))
        refine lv_aload_n hx hb dX8_sumGroupsUpTo_13 rfl (lv_at hl 0 rfl) ?_
        refine sl_gX_17_5_8 hx hb hts hown hK hP dX8_sumGroupsUpTo_14 ?_
        refine lv_iload hx hb dX8_sumGroupsUpTo_17 (lv_at hl 4 rfl) ?_
        refine lv_aload_n hx hb dX8_sumGroupsUpTo_19 rfl (lv_at hl 0 rfl) ?_
        refine sl_gX_17_5_8 hx hb hts hown hK hP dX8_sumGroupsUpTo_20 ?_
        refine lv_iload hx hb dX8_sumGroupsUpTo_23 (lv_at hl 4 rfl) ?_
        refine lv_iconst (v := 1) hx hb dX8_sumGroupsUpTo_25 ic_1 ?_
        refine lv_iload_n hx hb dX8_sumGroupsUpTo_26 rfl (lv_at hl 1 rfl) ?_
        refine lv_ishl hx hb dX8_sumGroupsUpTo_27 ?_
        refine W.eq (g2 := F0 m 28 ls [.int 32, .int y4_5, .ref (h 21), .int y4_5, .ref (h 21)]) (by rw [show ((1 : Int32) <<< ((5 : Int32) &&& 31) : Int32) = 32 from by decide]) ?_
        refine lv_isub hx hb dX8_sumGroupsUpTo_28 ?_
        refine lv_topi (fun v_3 ev_3 => ?_)
        have q_4 : v_3.toInt = y4_5.toInt - 32 := by rw [ev_3]; first | exact cm_sub ti_32 (by omega) (by omega) | (have k1 : (32 : Int32).toInt = 32 := ti_32; exact (bn_subI (by omega) (by omega)).trans (by omega))
        refine sg_iald hx hb hK hP 21 (by decide) 0 rfl rfl (i := v_3) (vp_in_iff.mpr ⟨by omega, by omega⟩) dX8_sumGroupsUpTo_29 ?_
        refine lv_topi (fun v_5 ev_5 => ?_)
        refine lv_iload_n hx hb dX8_sumGroupsUpTo_30 rfl (lv_at hl 2 rfl) ?_
        refine lv_iadd hx hb dX8_sumGroupsUpTo_31 ?_
        refine lv_topi (fun v_6 ev_6 => ?_)
        refine sg_iast hx hb hh hA hK hP hS 21 (by decide) 0 (fun _ => rfl) rfl (i := y4_5) (x := v_6) (vp_in_iff.mpr ⟨by omega, by omega⟩) dX8_sumGroupsUpTo_32 (fun f_7 H locs ef_7 hP hS => ?_)
        replace hs := hs.trans ((if_pos c_2).trans (spl_e ev_3 (spl_e ev_5 (spl_e ev_6 (spl_e ef_7 rfl)))))
        have hI : sgI loX hiX f_7 := by rw [ef_7]; exact sgI.put hI 21 y4_5.toNatClampNeg (bn_top _)
        have hF : sgK WkX8_sumGroupsUpTo_5 f f_7 := sgK.put hF ef_7 (by rfl)
        refine lv_aload_n hx hb dX8_sumGroupsUpTo_33 rfl (lv_at hl 0 rfl) ?_
        refine sl_gX_17_6_8 hx hb hts hown hK hP dX8_sumGroupsUpTo_34 ?_
        refine lv_iload hx hb dX8_sumGroupsUpTo_37 (lv_at hl 4 rfl) ?_
        refine lv_iload_n hx hb dX8_sumGroupsUpTo_39 rfl (lv_at hl 3 rfl) ?_
        refine lv_if_eq (tgt := 53) hx hb dX8_sumGroupsUpTo_40 (by decide) (fun c => ?_) (fun c => ?_)
        · skip
          have c_8 : x2.toInt = 0 := (by first | exact (cm_eq1 ti_0 c) | (have z := Int32.toInt_inj.mpr c; have k1 : (0 : Int32).toInt = 0 := ti_0; omega))
          refine lv_aload_n hx hb dX8_sumGroupsUpTo_53 rfl (lv_at hl 0 rfl) ?_
          refine sl_gX_17_6_8 hx hb hts hown hK hP dX8_sumGroupsUpTo_54 ?_
          refine lv_iload hx hb dX8_sumGroupsUpTo_57 (lv_at hl 4 rfl) ?_
          refine sg_iald hx hb hK hP 22 (by decide) 0 rfl rfl (i := y4_5) (vp_in_iff.mpr ⟨by omega, by omega⟩) dX8_sumGroupsUpTo_59 ?_
          refine lv_topi (fun v_10 ev_10 => ?_)
          refine lv_aload_n hx hb dX8_sumGroupsUpTo_60 rfl (lv_at hl 0 rfl) ?_
          refine sl_gX_17_5_8 hx hb hts hown hK hP dX8_sumGroupsUpTo_61 ?_
          refine lv_iload hx hb dX8_sumGroupsUpTo_64 (lv_at hl 4 rfl) ?_
          refine sg_iald hx hb hK hP 21 (by decide) 0 rfl rfl (i := y4_5) (vp_in_iff.mpr ⟨by omega, by omega⟩) dX8_sumGroupsUpTo_66 ?_
          refine W.eq (g2 := F0 m 67 ls [.int v_6, .int v_10, .int y4_5, .ref (h 22)]) (by rw [show f_7 21 (Int32.toNatClampNeg y4_5) = v_6 from (by rw [ef_7, sg_up_s, sgu_s])]) ?_
          refine va_mmin hx hb (hml.trans hl.1.symm) hown (hts _ (List.mem_cons_of_mem _ mw_386)) (hts _ (List.mem_cons_of_mem _ mw_10)) (hts _ (List.mem_cons_of_mem _ mw_11)) (hts _ (List.mem_cons_of_mem _ mw_12)) (Nat.le_of_ble_eq_true rfl) (Nat.le_of_ble_eq_true rfl) (Nat.le_refl _) (Nat.le_refl _) dX8_sumGroupsUpTo_67 ?_
          refine lv_topi (fun v_11 ev_11 => ?_)
          have q_12 : (v_6.toInt < v_10.toInt ∧ v_11.toInt = v_6.toInt) ∨ (v_10.toInt ≤ v_6.toInt ∧ v_11.toInt = v_10.toInt) := by have z := bn_minI v_6 v_10; rw [← ev_11] at z; omega
          refine sg_iast hx hb hh hA hK hP hS 22 (by decide) 0 (fun _ => rfl) rfl (i := y4_5) (x := v_11) (vp_in_iff.mpr ⟨by omega, by omega⟩) dX8_sumGroupsUpTo_70 (fun f_13 H locs ef_13 hP hS => ?_)
          have hI : sgI loX hiX f_13 := by rw [ef_13]; exact sgI.put hI 22 y4_5.toNatClampNeg (bn_top _)
          have hF : sgK WkX8_sumGroupsUpTo_5 f f_13 := sgK.put hF ef_13 (by rfl)
          obtain ⟨v_14, ev_14⟩ : ∃ z : Int32, z = y4_5 + 1 := ⟨_, rfl⟩
          have q_15 : v_14.toInt = y4_5.toInt + 1 := by rw [ev_14]; exact (bn_addc y4_5 1 (by decide) (by omega) (by omega))
          refine lv_iinc (v := v_14) (lv' := [(4, .int v_14), (0, .ref (h 17)), (1, .int 5), (2, .int x1), (3, .int x2)]) hx hb dX8_sumGroupsUpTo_71 hl (k := 4) rfl (by rw [ev_14]; rfl) (by decide) rfl (fun ls hl => ?_)
          refine lv_goto (tgt := 5) hx hb dX8_sumGroupsUpTo_74 (by decide) ?_
          exact ih_5 v_14 f_13 _ _ _ (hs.trans ((if_pos c_8).trans (spl_e ev_10 (spl_e ev_11 (spl_e ef_13 (spl_e ev_14 rfl)))))) (by omega) ⟨by omega, by omega⟩ hI hF hP hS (lv_sub hl [1, 2, 3, 4, 0] rfl)
        · skip
          have c_9 : x2.toInt ≠ 0 := (by first | exact (cm_ne1 ti_0 c) | (have z := bn_ne c; have k1 : (0 : Int32).toInt = 0 := ti_0; omega))
          refine lv_aload_n hx hb dX8_sumGroupsUpTo_43 rfl (lv_at hl 0 rfl) ?_
          refine sl_gX_17_5_8 hx hb hts hown hK hP dX8_sumGroupsUpTo_44 ?_
          refine lv_iload hx hb dX8_sumGroupsUpTo_47 (lv_at hl 4 rfl) ?_
          refine sg_iald hx hb hK hP 21 (by decide) 0 rfl rfl (i := y4_5) (vp_in_iff.mpr ⟨by omega, by omega⟩) dX8_sumGroupsUpTo_49 ?_
          refine W.eq (g2 := F0 m 50 ls [.int v_6, .int y4_5, .ref (h 22)]) (by rw [show f_7 21 (Int32.toNatClampNeg y4_5) = v_6 from (by rw [ef_7, sg_up_s, sgu_s])]) ?_
          refine lv_goto (tgt := 70) hx hb dX8_sumGroupsUpTo_50 (by decide) ?_
          refine sg_iast hx hb hh hA hK hP hS 22 (by decide) 0 (fun _ => rfl) rfl (i := y4_5) (x := v_6) (vp_in_iff.mpr ⟨by omega, by omega⟩) dX8_sumGroupsUpTo_70 (fun f_16 H locs ef_16 hP hS => ?_)
          have hI : sgI loX hiX f_16 := by rw [ef_16]; exact sgI.put hI 22 y4_5.toNatClampNeg (bn_top _)
          have hF : sgK WkX8_sumGroupsUpTo_5 f f_16 := sgK.put hF ef_16 (by rfl)
          obtain ⟨v_17, ev_17⟩ : ∃ z : Int32, z = y4_5 + 1 := ⟨_, rfl⟩
          have q_18 : v_17.toInt = y4_5.toInt + 1 := by rw [ev_17]; exact (bn_addc y4_5 1 (by decide) (by omega) (by omega))
          refine lv_iinc (v := v_17) (lv' := [(4, .int v_17), (0, .ref (h 17)), (1, .int 5), (2, .int x1), (3, .int x2)]) hx hb dX8_sumGroupsUpTo_71 hl (k := 4) rfl (by rw [ev_17]; rfl) (by decide) rfl (fun ls hl => ?_)
          refine lv_goto (tgt := 5) hx hb dX8_sumGroupsUpTo_74 (by decide) ?_
          exact ih_5 v_17 f_16 _ _ _ (hs.trans ((if_neg c_9).trans (spl_e ef_16 (spl_e ev_17 rfl)))) (by omega) ⟨by omega, by omega⟩ hI hF hP hS (lv_sub hl [1, 2, 3, 4, 0] rfl)
  refine lv_iconst (v := 1) hx hb dX8_sumGroupsUpTo_0 ic_1 ?_
  refine lv_iload_n hx hb dX8_sumGroupsUpTo_1 rfl (lv_at hl 1 rfl) ?_
  refine lv_ishl hx hb dX8_sumGroupsUpTo_2 ?_
  refine W.eq (g2 := F0 m 3 ls [.int 32]) (by rw [show ((1 : Int32) <<< ((5 : Int32) &&& 31) : Int32) = 32 from by decide]) ?_
  refine lv_istore (lv' := [(4, .int 32), (0, .ref (h 17)), (1, .int 5), (2, .int x1), (3, .int x2)]) hx hb dX8_sumGroupsUpTo_3 hl (by decide) rfl (fun ls hl => ?_)
  exact loop_5 33 32 f _ _ _ hs (by have kc0 : (32 : Int32).toInt = 32 := ti_32; omega) (by decide) hI hF hP hS (lv_sub hl [1, 2, 3, 4, 0] rfl)

abbrev WkX8_sumGroupsUpTo_6 : List (Nat × Nat × Option Nat) := [(21, 21, none), (22, 22, none)]
set_option maxHeartbeats 4000000 in
set_option maxRecDepth 100000 in
theorem kX8_sumGroupsUpTo_6 (l : Launch) (D : va_G) (ca : Nat → ClassId) (za h : Nat → Nat) (hh : sgH 52 h) (f : sg_F) (L : sg_L) (Q : sg_Q) (hI : sgI loX hiX f) (x1 : Int32) (x2 : Int32) (b2 : 0 ≤ x2.toInt ∧ x2.toInt ≤ 1) (sz : Nat) : Met l yX8_sumGroupsUpTo gwX8_sumGroupsUpTo { frames := 1, cells := 0, slots := 0, locals := 21 } (sgP D vwCl (tyX ca) 52 h (eX ca h) zcX za f L Q sz [.ref (h 17), .int 6, .int x1, .int x2]) (sgQv D vwCl 52 h (eX ca h) sz (fun f1 L1 Q1 => ((sgI loX hiX f1 ∧ sgK WkX8_sumGroupsUpTo_6 f f1 ∧ L1 = L ∧ Q1 = Q) ∧ (f1) = sX8_sumGroupsUpTo_6 x1 x2 f L))) 0 0 (sgA 52 h sz) := by
  refine sg_ofWv (cc := cX8_sumGroupsUpTo) (maxL := 5) RX8 (by decide) rfl rfl (Nat.le_of_ble_eq_true rfl) ?_
  intro p e s m below meth cd Qz ls hx hb hml hown hts hK hZ hP hS hl hret
  have hA := sgY.self (n := 52) (h := h) (sz := s.heap.size)
  have hl : lv_has ls 5 [(0, .ref (h 17)), (1, .int 6), (2, .int x1), (3, .int x2)] := hl
  obtain ⟨H, hH⟩ : ∃ z : Heap, z = s.heap := ⟨_, rfl⟩
  obtain ⟨locs, hlo⟩ : ∃ z : List Loc, z = [] := ⟨_, rfl⟩
  have hP : va_P D vwCl (sgw 52 h (eX ca h) f L Q) H := by rw [hH]; exact hP
  have hS : va_S (sgA 52 h s.heap.size) s.heap H locs := by rw [hH, hlo]; exact hS
  suffices hgo : W p l e ({ frames := 1, cells := 0, slots := 0, locals := 21 }) s m ([.ref (h 17), .int 6, .int x1, .int x2] : List Value).toArray below meth cd H locs 0 0 Qz (F0 m 0 ls []) by rw [hH, hlo] at hgo; exact hgo
  clear hH hlo
  obtain ⟨sp, hsp⟩ : ∃ z : sg_F, z = sX8_sumGroupsUpTo_6 x1 x2 f L := ⟨_, rfl⟩
  have hs : sp = sX8_sumGroupsUpTo_6 x1 x2 f L := hsp
  have hF : sgK WkX8_sumGroupsUpTo_6 f f := sgK.rf
  have loop_5 : ∀ (n_5 : Nat) (y4_5 : Int32) (fp_5 : sg_F) (H : Heap) (locs : List Loc) (ls : Array Slot), sp = sX8_sumGroupsUpTo_6_l5 x1 x2 n_5 y4_5 fp_5 L → 128 - y4_5.toInt < (n_5 : Int) → 64 ≤ y4_5.toInt ∧ y4_5.toInt ≤ 128 → sgI loX hiX fp_5 → sgK WkX8_sumGroupsUpTo_6 f fp_5 → va_P D vwCl (sgw 52 h (eX ca h) fp_5 L Q) H → va_S (sgA 52 h s.heap.size) s.heap H locs → lv_has ls 5 [(0, .ref (h 17)), (1, .int 6), (2, .int x1), (3, .int x2), (4, .int y4_5)] → W p l e ({ frames := 1, cells := 0, slots := 0, locals := 21 }) s m ([.ref (h 17), .int 6, .int x1, .int x2] : List Value).toArray below meth cd H locs 0 0 Qz (F0 m 5 ls []) := by
    intro n_5
    induction n_5 with
    | zero => intro y4_5 fp_5 H locs ls hs hm_5 hy0_5 hI hF hP hS hl; exact absurd hm_5 (by omega)
    | succ n_5 ih_5 =>
      intro y4_5 fp_5 H locs ls hs hm_5 hy0_5 hI hF hP hS hl
      have hs : sp = sX8_sumGroupsUpTo_6_h5 x1 x2 (sX8_sumGroupsUpTo_6_l5 x1 x2 n_5) y4_5 fp_5 L := hs
      refine lv_iload hx hb dX8_sumGroupsUpTo_5 (lv_at hl 4 rfl) ?_
      refine lv_iconst (v := 2) hx hb dX8_sumGroupsUpTo_7 ic_2 ?_
      refine lv_iload_n hx hb dX8_sumGroupsUpTo_8 rfl (lv_at hl 1 rfl) ?_
      refine lv_ishl hx hb dX8_sumGroupsUpTo_9 ?_
      refine W.eq (g2 := F0 m 10 ls [.int 128, .int y4_5]) (by rw [show ((2 : Int32) <<< ((6 : Int32) &&& 31) : Int32) = 128 from by decide]) ?_
      refine lv_icmp_ge (tgt := 77) hx hb dX8_sumGroupsUpTo_10 (by decide) (fun c => ?_) (fun c => ?_)
      · skip
        have c_1 : 128 ≤ y4_5.toInt := (by first | exact (cm_le0 ti_128 c) | (have z := bn_le c; have k1 : (128 : Int32).toInt = 128 := ti_128; omega))
        exact hret _ _ _ _ fp_5 L Q dX8_sumGroupsUpTo_77 hP hS ⟨⟨hI, hF, rfl, rfl⟩, (Eq.trans (Eq.symm (hs.trans (((if_neg (Int.not_lt.mpr c_1)).trans rfl)))) hsp)⟩
      · skip
        have c_2 : y4_5.toInt < 128 := (by first | exact (cm_nle0 ti_128 c) | (have z := bn_nle c; have k1 : (128 : Int32).toInt = 128 := ti_128; omega))
        refine lv_aload_n hx hb dX8_sumGroupsUpTo_13 rfl (lv_at hl 0 rfl) ?_
        refine sl_gX_17_5_8 hx hb hts hown hK hP dX8_sumGroupsUpTo_14 ?_
        refine lv_iload hx hb dX8_sumGroupsUpTo_17 (lv_at hl 4 rfl) ?_
        refine lv_aload_n hx hb dX8_sumGroupsUpTo_19 rfl (lv_at hl 0 rfl) ?_
        refine sl_gX_17_5_8 hx hb hts hown hK hP dX8_sumGroupsUpTo_20 ?_
        refine lv_iload hx hb dX8_sumGroupsUpTo_23 (lv_at hl 4 rfl) ?_
        refine lv_iconst (v := 1) hx hb dX8_sumGroupsUpTo_25 ic_1 ?_
        refine lv_iload_n hx hb dX8_sumGroupsUpTo_26 rfl (lv_at hl 1 rfl) ?_
        refine lv_ishl hx hb dX8_sumGroupsUpTo_27 ?_
        refine W.eq (g2 := F0 m 28 ls [.int 64, .int y4_5, .ref (h 21), .int y4_5, .ref (h 21)]) (by rw [show ((1 : Int32) <<< ((6 : Int32) &&& 31) : Int32) = 64 from by decide]) ?_
        refine lv_isub hx hb dX8_sumGroupsUpTo_28 ?_
        refine lv_topi (fun v_3 ev_3 => ?_)
        have q_4 : v_3.toInt = y4_5.toInt - 64 := by rw [ev_3]; first | exact cm_sub ti_64 (by omega) (by omega) | (have k1 : (64 : Int32).toInt = 64 := ti_64; exact (bn_subI (by omega) (by omega)).trans (by omega))
        refine sg_iald hx hb hK hP 21 (by decide) 0 rfl rfl (i := v_3) (vp_in_iff.mpr ⟨by omega, by omega⟩) dX8_sumGroupsUpTo_29 ?_
        refine lv_topi (fun v_5 ev_5 => ?_)
        refine lv_iload_n hx hb dX8_sumGroupsUpTo_30 rfl (lv_at hl 2 rfl) ?_
        refine lv_iadd hx hb dX8_sumGroupsUpTo_31 ?_
        refine lv_topi (fun v_6 ev_6 => ?_)
        refine sg_iast hx hb hh hA hK hP hS 21 (by decide) 0 (fun _ => rfl) rfl (i := y4_5) (x := v_6) (vp_in_iff.mpr ⟨by omega, by omega⟩) dX8_sumGroupsUpTo_32 (fun f_7 H locs ef_7 hP hS => ?_)
        replace hs := hs.trans ((if_pos c_2).trans (spl_e ev_3 (spl_e ev_5 (spl_e ev_6 (spl_e ef_7 rfl)))))
        have hI : sgI loX hiX f_7 := by rw [ef_7]; exact sgI.put hI 21 y4_5.toNatClampNeg (bn_top _)
        have hF : sgK WkX8_sumGroupsUpTo_6 f f_7 := sgK.put hF ef_7 (by rfl)
        refine lv_aload_n hx hb dX8_sumGroupsUpTo_33 rfl (lv_at hl 0 rfl) ?_
        refine sl_gX_17_6_8 hx hb hts hown hK hP dX8_sumGroupsUpTo_34 ?_
        refine lv_iload hx hb dX8_sumGroupsUpTo_37 (lv_at hl 4 rfl) ?_
        refine lv_iload_n hx hb dX8_sumGroupsUpTo_39 rfl (lv_at hl 3 rfl) ?_
        refine lv_if_eq (tgt := 53) hx hb dX8_sumGroupsUpTo_40 (by decide) (fun c => ?_) (fun c => ?_)
        · skip
          have c_8 : x2.toInt = 0 := (by first | exact (cm_eq1 ti_0 c) | (have z := Int32.toInt_inj.mpr c; have k1 : (0 : Int32).toInt = 0 := ti_0; omega))
          refine lv_aload_n hx hb dX8_sumGroupsUpTo_53 rfl (lv_at hl 0 rfl) ?_
          refine sl_gX_17_6_8 hx hb hts hown hK hP dX8_sumGroupsUpTo_54 ?_
          refine lv_iload hx hb dX8_sumGroupsUpTo_57 (lv_at hl 4 rfl) ?_
          refine sg_iald hx hb hK hP 22 (by decide) 0 rfl rfl (i := y4_5) (vp_in_iff.mpr ⟨by omega, by omega⟩) dX8_sumGroupsUpTo_59 ?_
          refine lv_topi (fun v_10 ev_10 => ?_)
          refine lv_aload_n hx hb dX8_sumGroupsUpTo_60 rfl (lv_at hl 0 rfl) ?_
          refine sl_gX_17_5_8 hx hb hts hown hK hP dX8_sumGroupsUpTo_61 ?_
          refine lv_iload hx hb dX8_sumGroupsUpTo_64 (lv_at hl 4 rfl) ?_
          refine sg_iald hx hb hK hP 21 (by decide) 0 rfl rfl (i := y4_5) (vp_in_iff.mpr ⟨by omega, by omega⟩) dX8_sumGroupsUpTo_66 ?_
          refine W.eq (g2 := F0 m 67 ls [.int v_6, .int v_10, .int y4_5, .ref (h 22)]) (by rw [show f_7 21 (Int32.toNatClampNeg y4_5) = v_6 from (by rw [ef_7, sg_up_s, sgu_s])]) ?_
          refine va_mmin hx hb (hml.trans hl.1.symm) hown (hts _ (List.mem_cons_of_mem _ mw_386)) (hts _ (List.mem_cons_of_mem _ mw_10)) (hts _ (List.mem_cons_of_mem _ mw_11)) (hts _ (List.mem_cons_of_mem _ mw_12)) (Nat.le_of_ble_eq_true rfl) (Nat.le_of_ble_eq_true rfl) (Nat.le_refl _) (Nat.le_refl _) dX8_sumGroupsUpTo_67 ?_
          refine lv_topi (fun v_11 ev_11 => ?_)
          have q_12 : (v_6.toInt < v_10.toInt ∧ v_11.toInt = v_6.toInt) ∨ (v_10.toInt ≤ v_6.toInt ∧ v_11.toInt = v_10.toInt) := by have z := bn_minI v_6 v_10; rw [← ev_11] at z; omega
          refine sg_iast hx hb hh hA hK hP hS 22 (by decide) 0 (fun _ => rfl) rfl (i := y4_5) (x := v_11) (vp_in_iff.mpr ⟨by omega, by omega⟩) dX8_sumGroupsUpTo_70 (fun f_13 H locs ef_13 hP hS => ?_)
          have hI : sgI loX hiX f_13 := by rw [ef_13]; exact sgI.put hI 22 y4_5.toNatClampNeg (bn_top _)
          have hF : sgK WkX8_sumGroupsUpTo_6 f f_13 := sgK.put hF ef_13 (by rfl)
          obtain ⟨v_14, ev_14⟩ : ∃ z : Int32, z = y4_5 + 1 := ⟨_, rfl⟩
          have q_15 : v_14.toInt = y4_5.toInt + 1 := by rw [ev_14]; exact (bn_addc y4_5 1 (by decide) (by omega) (by omega))
          refine lv_iinc (v := v_14) (lv' := [(4, .int v_14), (0, .ref (h 17)), (1, .int 6), (2, .int x1), (3, .int x2)]) hx hb dX8_sumGroupsUpTo_71 hl (k := 4) rfl (by rw [ev_14]; rfl) (by decide) rfl (fun ls hl => ?_)
          refine lv_goto (tgt := 5) hx hb dX8_sumGroupsUpTo_74 (by decide) ?_
          exact ih_5 v_14 f_13 _ _ _ (hs.trans ((if_pos c_8).trans (spl_e ev_10 (spl_e ev_11 (spl_e ef_13 (spl_e ev_14 rfl)))))) (by omega) ⟨by omega, by omega⟩ hI hF hP hS (lv_sub hl [1, 2, 3, 4, 0] rfl)
        · skip
          have c_9 : x2.toInt ≠ 0 := (by first | exact (cm_ne1 ti_0 c) | (have z := bn_ne c; have k1 : (0 : Int32).toInt = 0 := ti_0; omega))
          refine lv_aload_n hx hb dX8_sumGroupsUpTo_43 rfl (lv_at hl 0 rfl) ?_
          refine sl_gX_17_5_8 hx hb hts hown hK hP dX8_sumGroupsUpTo_44 ?_
          refine lv_iload hx hb dX8_sumGroupsUpTo_47 (lv_at hl 4 rfl) ?_
          refine sg_iald hx hb hK hP 21 (by decide) 0 rfl rfl (i := y4_5) (vp_in_iff.mpr ⟨by omega, by omega⟩) dX8_sumGroupsUpTo_49 ?_
          refine W.eq (g2 := F0 m 50 ls [.int v_6, .int y4_5, .ref (h 22)]) (by rw [show f_7 21 (Int32.toNatClampNeg y4_5) = v_6 from (by rw [ef_7, sg_up_s, sgu_s])]) ?_
          refine lv_goto (tgt := 70) hx hb dX8_sumGroupsUpTo_50 (by decide) ?_
          refine sg_iast hx hb hh hA hK hP hS 22 (by decide) 0 (fun _ => rfl) rfl (i := y4_5) (x := v_6) (vp_in_iff.mpr ⟨by omega, by omega⟩) dX8_sumGroupsUpTo_70 (fun f_16 H locs ef_16 hP hS => ?_)
          have hI : sgI loX hiX f_16 := by rw [ef_16]; exact sgI.put hI 22 y4_5.toNatClampNeg (bn_top _)
          have hF : sgK WkX8_sumGroupsUpTo_6 f f_16 := sgK.put hF ef_16 (by rfl)
          obtain ⟨v_17, ev_17⟩ : ∃ z : Int32, z = y4_5 + 1 := ⟨_, rfl⟩
          have q_18 : v_17.toInt = y4_5.toInt + 1 := by rw [ev_17]; exact (bn_addc y4_5 1 (by decide) (by omega) (by omega))
          refine lv_iinc (v := v_17) (lv' := [(4, .int v_17), (0, .ref (h 17)), (1, .int 6), (2, .int x1), (3, .int x2)]) hx hb dX8_sumGroupsUpTo_71 hl (k := 4) rfl (by rw [ev_17]; rfl) (by decide) rfl (fun ls hl => ?_)
          refine lv_goto (tgt := 5) hx hb dX8_sumGroupsUpTo_74 (by decide) ?_
          exact ih_5 v_17 f_16 _ _ _ (hs.trans ((if_neg c_9).trans (spl_e ef_16 (spl_e ev_17 rfl)))) (by omega) ⟨by omega, by omega⟩ hI hF hP hS (lv_sub hl [1, 2, 3, 4, 0] rfl)
  refine lv_iconst (v := 1) hx hb dX8_sumGroupsUpTo_0 ic_1 ?_
  refine lv_iload_n hx hb dX8_sumGroupsUpTo_1 rfl (lv_at hl 1 rfl) ?_
  refine lv_ishl hx hb dX8_sumGroupsUpTo_2 ?_
  refine W.eq (g2 := F0 m 3 ls [.int 64]) (by rw [show ((1 : Int32) <<< ((6 : Int32) &&& 31) : Int32) = 64 from by decide]) ?_
  refine lv_istore (lv' := [(4, .int 64), (0, .ref (h 17)), (1, .int 6), (2, .int x1), (3, .int x2)]) hx hb dX8_sumGroupsUpTo_3 hl (by decide) rfl (fun ls hl => ?_)
  exact loop_5 65 64 f _ _ _ hs (by have kc0 : (64 : Int32).toInt = 64 := ti_64; omega) (by decide) hI hF hP hS (lv_sub hl [1, 2, 3, 4, 0] rfl)

abbrev WkX8_sumGroupsUpTo_7 : List (Nat × Nat × Option Nat) := [(21, 21, none), (22, 22, none)]
set_option maxHeartbeats 4000000 in
set_option maxRecDepth 100000 in
theorem kX8_sumGroupsUpTo_7 (l : Launch) (D : va_G) (ca : Nat → ClassId) (za h : Nat → Nat) (hh : sgH 52 h) (f : sg_F) (L : sg_L) (Q : sg_Q) (hI : sgI loX hiX f) (x1 : Int32) (x2 : Int32) (b2 : 0 ≤ x2.toInt ∧ x2.toInt ≤ 1) (sz : Nat) : Met l yX8_sumGroupsUpTo gwX8_sumGroupsUpTo { frames := 1, cells := 0, slots := 0, locals := 21 } (sgP D vwCl (tyX ca) 52 h (eX ca h) zcX za f L Q sz [.ref (h 17), .int 7, .int x1, .int x2]) (sgQv D vwCl 52 h (eX ca h) sz (fun f1 L1 Q1 => ((sgI loX hiX f1 ∧ sgK WkX8_sumGroupsUpTo_7 f f1 ∧ L1 = L ∧ Q1 = Q) ∧ (f1) = sX8_sumGroupsUpTo_7 x1 x2 f L))) 0 0 (sgA 52 h sz) := by
  refine sg_ofWv (cc := cX8_sumGroupsUpTo) (maxL := 5) RX8 (by decide) rfl rfl (Nat.le_of_ble_eq_true rfl) ?_
  intro p e s m below meth cd Qz ls hx hb hml hown hts hK hZ hP hS hl hret
  have hA := sgY.self (n := 52) (h := h) (sz := s.heap.size)
  have hl : lv_has ls 5 [(0, .ref (h 17)), (1, .int 7), (2, .int x1), (3, .int x2)] := hl
  obtain ⟨H, hH⟩ : ∃ z : Heap, z = s.heap := ⟨_, rfl⟩
  obtain ⟨locs, hlo⟩ : ∃ z : List Loc, z = [] := ⟨_, rfl⟩
  have hP : va_P D vwCl (sgw 52 h (eX ca h) f L Q) H := by rw [hH]; exact hP
  have hS : va_S (sgA 52 h s.heap.size) s.heap H locs := by rw [hH, hlo]; exact hS
  suffices hgo : W p l e ({ frames := 1, cells := 0, slots := 0, locals := 21 }) s m ([.ref (h 17), .int 7, .int x1, .int x2] : List Value).toArray below meth cd H locs 0 0 Qz (F0 m 0 ls []) by rw [hH, hlo] at hgo; exact hgo
  clear hH hlo
  obtain ⟨sp, hsp⟩ : ∃ z : sg_F, z = sX8_sumGroupsUpTo_7 x1 x2 f L := ⟨_, rfl⟩
  have hs : sp = sX8_sumGroupsUpTo_7 x1 x2 f L := hsp
  have hF : sgK WkX8_sumGroupsUpTo_7 f f := sgK.rf
  have loop_5 : ∀ (n_5 : Nat) (y4_5 : Int32) (fp_5 : sg_F) (H : Heap) (locs : List Loc) (ls : Array Slot), sp = sX8_sumGroupsUpTo_7_l5 x1 x2 n_5 y4_5 fp_5 L → 256 - y4_5.toInt < (n_5 : Int) → 128 ≤ y4_5.toInt ∧ y4_5.toInt ≤ 256 → sgI loX hiX fp_5 → sgK WkX8_sumGroupsUpTo_7 f fp_5 → va_P D vwCl (sgw 52 h (eX ca h) fp_5 L Q) H → va_S (sgA 52 h s.heap.size) s.heap H locs → lv_has ls 5 [(0, .ref (h 17)), (1, .int 7), (2, .int x1), (3, .int x2), (4, .int y4_5)] → W p l e ({ frames := 1, cells := 0, slots := 0, locals := 21 }) s m ([.ref (h 17), .int 7, .int x1, .int x2] : List Value).toArray below meth cd H locs 0 0 Qz (F0 m 5 ls []) := by
    intro n_5
    induction n_5 with
    | zero => intro y4_5 fp_5 H locs ls hs hm_5 hy0_5 hI hF hP hS hl; exact absurd hm_5 (by omega)
    | succ n_5 ih_5 =>
      intro y4_5 fp_5 H locs ls hs hm_5 hy0_5 hI hF hP hS hl
      have hs : sp = sX8_sumGroupsUpTo_7_h5 x1 x2 (sX8_sumGroupsUpTo_7_l5 x1 x2 n_5) y4_5 fp_5 L := hs
      refine lv_iload hx hb dX8_sumGroupsUpTo_5 (lv_at hl 4 rfl) ?_
      refine lv_iconst (v := 2) hx hb dX8_sumGroupsUpTo_7 ic_2 ?_
      refine lv_iload_n hx hb dX8_sumGroupsUpTo_8 rfl (lv_at hl 1 rfl) ?_
      refine lv_ishl hx hb dX8_sumGroupsUpTo_9 ?_
      refine W.eq (g2 := F0 m 10 ls [.int 256, .int y4_5]) (by rw [show ((2 : Int32) <<< ((7 : Int32) &&& 31) : Int32) = 256 from by decide]) ?_
      refine lv_icmp_ge (tgt := 77) hx hb dX8_sumGroupsUpTo_10 (by decide) (fun c => ?_) (fun c => ?_)
      · skip
        have c_1 : 256 ≤ y4_5.toInt := (by first | exact (cm_le0 ti_256 c) | (have z := bn_le c; have k1 : (256 : Int32).toInt = 256 := ti_256; omega))
        exact hret _ _ _ _ fp_5 L Q dX8_sumGroupsUpTo_77 hP hS ⟨⟨hI, hF, rfl, rfl⟩, (Eq.trans (Eq.symm (hs.trans (((if_neg (Int.not_lt.mpr c_1)).trans rfl)))) hsp)⟩
      · skip
        have c_2 : y4_5.toInt < 256 := (by first | exact (cm_nle0 ti_256 c) | (have z := bn_nle c; have k1 : (256 : Int32).toInt = 256 := ti_256; omega))
        refine lv_aload_n hx hb dX8_sumGroupsUpTo_13 rfl (lv_at hl 0 rfl) ?_
        refine sl_gX_17_5_8 hx hb hts hown hK hP dX8_sumGroupsUpTo_14 ?_
        refine lv_iload hx hb dX8_sumGroupsUpTo_17 (lv_at hl 4 rfl) ?_
        refine lv_aload_n hx hb dX8_sumGroupsUpTo_19 rfl (lv_at hl 0 rfl) ?_
        refine sl_gX_17_5_8 hx hb hts hown hK hP dX8_sumGroupsUpTo_20 ?_
        refine lv_iload hx hb dX8_sumGroupsUpTo_23 (lv_at hl 4 rfl) ?_
        refine lv_iconst (v := 1) hx hb dX8_sumGroupsUpTo_25 ic_1 ?_
        refine lv_iload_n hx hb dX8_sumGroupsUpTo_26 rfl (lv_at hl 1 rfl) ?_
        refine lv_ishl hx hb dX8_sumGroupsUpTo_27 ?_
        refine W.eq (g2 := F0 m 28 ls [.int 128, .int y4_5, .ref (h 21), .int y4_5, .ref (h 21)]) (by rw [show ((1 : Int32) <<< ((7 : Int32) &&& 31) : Int32) = 128 from by decide]) ?_
        refine lv_isub hx hb dX8_sumGroupsUpTo_28 ?_
        refine lv_topi (fun v_3 ev_3 => ?_)
        have q_4 : v_3.toInt = y4_5.toInt - 128 := by rw [ev_3]; first | exact cm_sub ti_128 (by omega) (by omega) | (have k1 : (128 : Int32).toInt = 128 := ti_128; exact (bn_subI (by omega) (by omega)).trans (by omega))
        refine sg_iald hx hb hK hP 21 (by decide) 0 rfl rfl (i := v_3) (vp_in_iff.mpr ⟨by omega, by omega⟩) dX8_sumGroupsUpTo_29 ?_
        refine lv_topi (fun v_5 ev_5 => ?_)
        refine lv_iload_n hx hb dX8_sumGroupsUpTo_30 rfl (lv_at hl 2 rfl) ?_
        refine lv_iadd hx hb dX8_sumGroupsUpTo_31 ?_
        refine lv_topi (fun v_6 ev_6 => ?_)
        refine sg_iast hx hb hh hA hK hP hS 21 (by decide) 0 (fun _ => rfl) rfl (i := y4_5) (x := v_6) (vp_in_iff.mpr ⟨by omega, by omega⟩) dX8_sumGroupsUpTo_32 (fun f_7 H locs ef_7 hP hS => ?_)
        replace hs := hs.trans ((if_pos c_2).trans (spl_e ev_3 (spl_e ev_5 (spl_e ev_6 (spl_e ef_7 rfl)))))
        have hI : sgI loX hiX f_7 := by rw [ef_7]; exact sgI.put hI 21 y4_5.toNatClampNeg (bn_top _)
        have hF : sgK WkX8_sumGroupsUpTo_7 f f_7 := sgK.put hF ef_7 (by rfl)
        refine lv_aload_n hx hb dX8_sumGroupsUpTo_33 rfl (lv_at hl 0 rfl) ?_
        refine sl_gX_17_6_8 hx hb hts hown hK hP dX8_sumGroupsUpTo_34 ?_
        refine lv_iload hx hb dX8_sumGroupsUpTo_37 (lv_at hl 4 rfl) ?_
        refine lv_iload_n hx hb dX8_sumGroupsUpTo_39 rfl (lv_at hl 3 rfl) ?_
        refine lv_if_eq (tgt := 53) hx hb dX8_sumGroupsUpTo_40 (by decide) (fun c => ?_) (fun c => ?_)
        · skip
          have c_8 : x2.toInt = 0 := (by first | exact (cm_eq1 ti_0 c) | (have z := Int32.toInt_inj.mpr c; have k1 : (0 : Int32).toInt = 0 := ti_0; omega))
          refine lv_aload_n hx hb dX8_sumGroupsUpTo_53 rfl (lv_at hl 0 rfl) ?_
          refine sl_gX_17_6_8 hx hb hts hown hK hP dX8_sumGroupsUpTo_54 ?_
          refine lv_iload hx hb dX8_sumGroupsUpTo_57 (lv_at hl 4 rfl) ?_
          refine sg_iald hx hb hK hP 22 (by decide) 0 rfl rfl (i := y4_5) (vp_in_iff.mpr ⟨by omega, by omega⟩) dX8_sumGroupsUpTo_59 ?_
          refine lv_topi (fun v_10 ev_10 => ?_)
          refine lv_aload_n hx hb dX8_sumGroupsUpTo_60 rfl (lv_at hl 0 rfl) ?_
          refine sl_gX_17_5_8 hx hb hts hown hK hP dX8_sumGroupsUpTo_61 ?_
          refine lv_iload hx hb dX8_sumGroupsUpTo_64 (lv_at hl 4 rfl) ?_
          refine sg_iald hx hb hK hP 21 (by decide) 0 rfl rfl (i := y4_5) (vp_in_iff.mpr ⟨by omega, by omega⟩) dX8_sumGroupsUpTo_66 ?_
          refine W.eq (g2 := F0 m 67 ls [.int v_6, .int v_10, .int y4_5, .ref (h 22)]) (by rw [show f_7 21 (Int32.toNatClampNeg y4_5) = v_6 from (by rw [ef_7, sg_up_s, sgu_s])]) ?_
          refine va_mmin hx hb (hml.trans hl.1.symm) hown (hts _ (List.mem_cons_of_mem _ mw_386)) (hts _ (List.mem_cons_of_mem _ mw_10)) (hts _ (List.mem_cons_of_mem _ mw_11)) (hts _ (List.mem_cons_of_mem _ mw_12)) (Nat.le_of_ble_eq_true rfl) (Nat.le_of_ble_eq_true rfl) (Nat.le_refl _) (Nat.le_refl _) dX8_sumGroupsUpTo_67 ?_
          refine lv_topi (fun v_11 ev_11 => ?_)
          have q_12 : (v_6.toInt < v_10.toInt ∧ v_11.toInt = v_6.toInt) ∨ (v_10.toInt ≤ v_6.toInt ∧ v_11.toInt = v_10.toInt) := by have z := bn_minI v_6 v_10; rw [← ev_11] at z; omega
          refine sg_iast hx hb hh hA hK hP hS 22 (by decide) 0 (fun _ => rfl) rfl (i := y4_5) (x := v_11) (vp_in_iff.mpr ⟨by omega, by omega⟩) dX8_sumGroupsUpTo_70 (fun f_13 H locs ef_13 hP hS => ?_)
          have hI : sgI loX hiX f_13 := by rw [ef_13]; exact sgI.put hI 22 y4_5.toNatClampNeg (bn_top _)
          have hF : sgK WkX8_sumGroupsUpTo_7 f f_13 := sgK.put hF ef_13 (by rfl)
          obtain ⟨v_14, ev_14⟩ : ∃ z : Int32, z = y4_5 + 1 := ⟨_, rfl⟩
          have q_15 : v_14.toInt = y4_5.toInt + 1 := by rw [ev_14]; exact (bn_addc y4_5 1 (by decide) (by omega) (by omega))
          refine lv_iinc (v := v_14) (lv' := [(4, .int v_14), (0, .ref (h 17)), (1, .int 7), (2, .int x1), (3, .int x2)]) hx hb dX8_sumGroupsUpTo_71 hl (k := 4) rfl (by rw [ev_14]; rfl) (by decide) rfl (fun ls hl => ?_)
          refine lv_goto (tgt := 5) hx hb dX8_sumGroupsUpTo_74 (by decide) ?_
          exact ih_5 v_14 f_13 _ _ _ (hs.trans ((if_pos c_8).trans (spl_e ev_10 (spl_e ev_11 (spl_e ef_13 (spl_e ev_14 rfl)))))) (by omega) ⟨by omega, by omega⟩ hI hF hP hS (lv_sub hl [1, 2, 3, 4, 0] rfl)
        · skip
          have c_9 : x2.toInt ≠ 0 := (by first | exact (cm_ne1 ti_0 c) | (have z := bn_ne c; have k1 : (0 : Int32).toInt = 0 := ti_0; omega))
          refine lv_aload_n hx hb dX8_sumGroupsUpTo_43 rfl (lv_at hl 0 rfl) ?_
          refine sl_gX_17_5_8 hx hb hts hown hK hP dX8_sumGroupsUpTo_44 ?_
          refine lv_iload hx hb dX8_sumGroupsUpTo_47 (lv_at hl 4 rfl) ?_
          refine sg_iald hx hb hK hP 21 (by decide) 0 rfl rfl (i := y4_5) (vp_in_iff.mpr ⟨by omega, by omega⟩) dX8_sumGroupsUpTo_49 ?_
          refine W.eq (g2 := F0 m 50 ls [.int v_6, .int y4_5, .ref (h 22)]) (by rw [show f_7 21 (Int32.toNatClampNeg y4_5) = v_6 from (by rw [ef_7, sg_up_s, sgu_s])]) ?_
          refine lv_goto (tgt := 70) hx hb dX8_sumGroupsUpTo_50 (by decide) ?_
          refine sg_iast hx hb hh hA hK hP hS 22 (by decide) 0 (fun _ => rfl) rfl (i := y4_5) (x := v_6) (vp_in_iff.mpr ⟨by omega, by omega⟩) dX8_sumGroupsUpTo_70 (fun f_16 H locs ef_16 hP hS => ?_)
          have hI : sgI loX hiX f_16 := by rw [ef_16]; exact sgI.put hI 22 y4_5.toNatClampNeg (bn_top _)
          have hF : sgK WkX8_sumGroupsUpTo_7 f f_16 := sgK.put hF ef_16 (by rfl)
          obtain ⟨v_17, ev_17⟩ : ∃ z : Int32, z = y4_5 + 1 := ⟨_, rfl⟩
          have q_18 : v_17.toInt = y4_5.toInt + 1 := by rw [ev_17]; exact (bn_addc y4_5 1 (by decide) (by omega) (by omega))
          refine lv_iinc (v := v_17) (lv' := [(4, .int v_17), (0, .ref (h 17)), (1, .int 7), (2, .int x1), (3, .int x2)]) hx hb dX8_sumGroupsUpTo_71 hl (k := 4) rfl (by rw [ev_17]; rfl) (by decide) rfl (fun ls hl => ?_)
          refine lv_goto (tgt := 5) hx hb dX8_sumGroupsUpTo_74 (by decide) ?_
          exact ih_5 v_17 f_16 _ _ _ (hs.trans ((if_neg c_9).trans (spl_e ef_16 (spl_e ev_17 rfl)))) (by omega) ⟨by omega, by omega⟩ hI hF hP hS (lv_sub hl [1, 2, 3, 4, 0] rfl)
  refine lv_iconst (v := 1) hx hb dX8_sumGroupsUpTo_0 ic_1 ?_
  refine lv_iload_n hx hb dX8_sumGroupsUpTo_1 rfl (lv_at hl 1 rfl) ?_
  refine lv_ishl hx hb dX8_sumGroupsUpTo_2 ?_
  refine W.eq (g2 := F0 m 3 ls [.int 128]) (by rw [show ((1 : Int32) <<< ((7 : Int32) &&& 31) : Int32) = 128 from by decide]) ?_
  refine lv_istore (lv' := [(4, .int 128), (0, .ref (h 17)), (1, .int 7), (2, .int x1), (3, .int x2)]) hx hb dX8_sumGroupsUpTo_3 hl (by decide) rfl (fun ls hl => ?_)
  exact loop_5 129 128 f _ _ _ hs (by have kc0 : (128 : Int32).toInt = 128 := ti_128; omega) (by decide) hI hF hP hS (lv_sub hl [1, 2, 3, 4, 0] rfl)

abbrev WkX8_sumGroups : List (Nat × Nat × Option Nat) := [(8, 8, none), (9, 9, none), (21, 21, none), (22, 22, none)]
set_option maxHeartbeats 4000000 in
set_option maxRecDepth 100000 in
theorem kX8_sumGroups (l : Launch) (D : va_G) (ca : Nat → ClassId) (za h : Nat → Nat) (hh : sgH 52 h) (f : sg_F) (L : sg_L) (Q : sg_Q) (hI : sgI loX hiX f) (x0 : Int32) (b0 : 0 ≤ x0.toInt ∧ x0.toInt ≤ 2) (sz : Nat) : Met l yX8_sumGroups gwX8_sumGroups { frames := 4, cells := 0, slots := 0, locals := 102 } (sgP D vwCl (tyX ca) 52 h (eX ca h) zcX za f L Q sz [.ref (h 17), .int x0]) (sgQv D vwCl 52 h (eX ca h) sz (fun f1 L1 Q1 => ((sgI loX hiX f1 ∧ sgK WkX8_sumGroups f f1 ∧ L1 = L ∧ Q1 = Q) ∧ (f1) = sX8_sumGroups x0 f L))) 0 0 (sgA 52 h sz) := by
  refine sg_ofWv (cc := cX8_sumGroups) (maxL := 4) RX8 (by decide) rfl rfl (Nat.le_of_ble_eq_true rfl) ?_
  intro p e s m below meth cd Qz ls hx hb hml hown hts hK hZ hP hS hl hret
  have hA := sgY.self (n := 52) (h := h) (sz := s.heap.size)
  have hl : lv_has ls 4 [(0, .ref (h 17)), (1, .int x0)] := hl
  obtain ⟨H, hH⟩ : ∃ z : Heap, z = s.heap := ⟨_, rfl⟩
  obtain ⟨locs, hlo⟩ : ∃ z : List Loc, z = [] := ⟨_, rfl⟩
  have hP : va_P D vwCl (sgw 52 h (eX ca h) f L Q) H := by rw [hH]; exact hP
  have hS : va_S (sgA 52 h s.heap.size) s.heap H locs := by rw [hH, hlo]; exact hS
  suffices hgo : W p l e ({ frames := 4, cells := 0, slots := 0, locals := 102 }) s m ([.ref (h 17), .int x0] : List Value).toArray below meth cd H locs 0 0 Qz (F0 m 0 ls []) by rw [hH, hlo] at hgo; exact hgo
  clear hH hlo
  obtain ⟨sp, hsp⟩ : ∃ z : sg_F, z = sX8_sumGroups x0 f L := ⟨_, rfl⟩
  have hs : sp = sX8_sumGroups x0 f L := hsp
  have hF : sgK WkX8_sumGroups f f := sgK.rf
  have loop_2 : ∀ (n_2 : Nat) (y2_2 : Int32) (fp_2 : sg_F) (H : Heap) (locs : List Loc) (ls : Array Slot), sp = sX8_sumGroups_l2 x0 n_2 y2_2 fp_2 L → 61 - y2_2.toInt < (n_2 : Int) → 0 ≤ y2_2.toInt ∧ y2_2.toInt ≤ 61 → sgI loX hiX fp_2 → sgK WkX8_sumGroups f fp_2 → va_P D vwCl (sgw 52 h (eX ca h) fp_2 L Q) H → va_S (sgA 52 h s.heap.size) s.heap H locs → lv_has ls 4 [(0, .ref (h 17)), (1, .int x0), (2, .int y2_2)] → W p l e ({ frames := 4, cells := 0, slots := 0, locals := 102 }) s m ([.ref (h 17), .int x0] : List Value).toArray below meth cd H locs 0 0 Qz (F0 m 2 ls []) := by
    intro n_2
    induction n_2 with
    | zero => intro y2_2 fp_2 H locs ls hs hm_2 hy0_2 hI hF hP hS hl; exact absurd hm_2 (by omega)
    | succ n_2 ih_2 =>
      have loop_10 : ∀ (n_10 : Nat) (y2_10 : Int32) (y3_10 : Int32) (fp_10 : sg_F) (H : Heap) (locs : List Loc) (ls : Array Slot), sp = sX8_sumGroups_l10 (sX8_sumGroups_l2 x0 n_2) x0 n_10 y2_10 y3_10 fp_10 L → 8 - y3_10.toInt < (n_10 : Int) → 61 - y2_10.toInt < ((n_2 + 1 : Nat) : Int) → 0 ≤ y2_10.toInt ∧ y2_10.toInt ≤ 60 → 0 ≤ y3_10.toInt ∧ y3_10.toInt ≤ 8 → sgI loX hiX fp_10 → sgK WkX8_sumGroups f fp_10 → va_P D vwCl (sgw 52 h (eX ca h) fp_10 L Q) H → va_S (sgA 52 h s.heap.size) s.heap H locs → lv_has ls 4 [(0, .ref (h 17)), (1, .int x0), (2, .int y2_10), (3, .int y3_10)] → W p l e ({ frames := 4, cells := 0, slots := 0, locals := 102 }) s m ([.ref (h 17), .int x0] : List Value).toArray below meth cd H locs 0 0 Qz (F0 m 10 ls []) := by
        intro n_10
        induction n_10 with
        | zero => intro y2_10 y3_10 fp_10 H locs ls hs hm_10 hm_2 hy0_10 hy1_10 hI hF hP hS hl; exact absurd hm_10 (by omega)
        | succ n_10 ih_10 =>
          intro y2_10 y3_10 fp_10 H locs ls hs hm_10 hm_2 hy0_10 hy1_10 hI hF hP hS hl
          have hs : sp = sX8_sumGroups_h10 (sX8_sumGroups_l2 x0 n_2) x0 (sX8_sumGroups_l10 (sX8_sumGroups_l2 x0 n_2) x0 n_10) y2_10 y3_10 fp_10 L := hs
          refine lv_iload_n hx hb dX8_sumGroups_10 rfl (lv_at hl 3 rfl) ?_
          refine lv_aload_n hx hb dX8_sumGroups_11 rfl (lv_at hl 0 rfl) ?_
          refine sl_gX_17_9_8 (v := (fp_10 17 9)) hx hb hts hown hK hP rfl dX8_sumGroups_12 ?_
          refine lv_topi (fun v_1 ev_1 => ?_)
          replace hs := hs.trans (spl_e ev_1 rfl)
          have q_2 : 0 ≤ v_1.toInt ∧ v_1.toInt ≤ 8 := by rw [ev_1]; exact hI 17 9
          refine lv_icmp_ge (tgt := 68) hx hb dX8_sumGroups_15 (by decide) (fun c => ?_) (fun c => ?_)
          · skip
            have c_3 : v_1.toInt ≤ y3_10.toInt := (by first | exact (bn_le c) | (have z := bn_le c; omega))
            obtain ⟨v_5, ev_5⟩ : ∃ z : Int32, z = y2_10 + 1 := ⟨_, rfl⟩
            have q_6 : v_5.toInt = y2_10.toInt + 1 := by rw [ev_5]; exact (bn_addc y2_10 1 (by decide) (by omega) (by omega))
            refine lv_iinc (v := v_5) (lv' := [(2, .int v_5), (0, .ref (h 17)), (1, .int x0), (3, .int y3_10)]) hx hb dX8_sumGroups_68 hl (k := 2) rfl (by rw [ev_5]; rfl) (by decide) rfl (fun ls hl => ?_)
            refine lv_goto (tgt := 2) hx hb dX8_sumGroups_71 (by decide) ?_
            exact ih_2 v_5 fp_10 _ _ _ (hs.trans ((if_neg (Int.not_lt.mpr c_3)).trans (spl_e ev_5 rfl))) (by omega) ⟨by omega, by omega⟩ hI hF hP hS (lv_sub hl [1, 2, 0] rfl)
          · skip
            have c_4 : y3_10.toInt < v_1.toInt := (by first | exact (bn_nle c) | (have z := bn_nle c; omega))
            refine lv_aload_n hx hb dX8_sumGroups_18 rfl (lv_at hl 0 rfl) ?_
            refine lv_iload_n hx hb dX8_sumGroups_19 rfl (lv_at hl 3 rfl) ?_
            refine lv_aload_n hx hb dX8_sumGroups_20 rfl (lv_at hl 0 rfl) ?_
            refine sl_gX_17_1_8 hx hb hts hown hK hP dX8_sumGroups_21 ?_
            refine sl_gX_10_1_8 hx hb hts hown hK hP dX8_sumGroups_24 ?_
            refine lv_aload_n hx hb dX8_sumGroups_27 rfl (lv_at hl 0 rfl) ?_
            refine sl_gX_17_4_8 hx hb hts hown hK hP dX8_sumGroups_28 ?_
            refine lv_iload_n hx hb dX8_sumGroups_31 rfl (lv_at hl 3 rfl) ?_
            refine sg_iald hx hb hK hP 20 (by decide) 0 rfl rfl (i := y3_10) (vp_in_iff.mpr ⟨by omega, by omega⟩) dX8_sumGroups_32 ?_
            refine lv_topi (fun v_7 ev_7 => ?_)
            have q_8 : 0 ≤ v_7.toInt ∧ v_7.toInt ≤ 7 := by rw [ev_7]; exact hI 20 _
            refine sg_iald hx hb hK hP 12 (by decide) 0 rfl rfl (i := v_7) (vp_in_iff.mpr ⟨by omega, by omega⟩) dX8_sumGroups_33 ?_
            refine lv_topi (fun v_9 ev_9 => ?_)
            refine lv_aload_n hx hb dX8_sumGroups_34 rfl (lv_at hl 0 rfl) ?_
            refine sl_gX_17_0_8 hx hb hts hown hK hP dX8_sumGroups_35 ?_
            refine lv_aload_n hx hb dX8_sumGroups_38 rfl (lv_at hl 0 rfl) ?_
            refine sl_gX_17_4_8 hx hb hts hown hK hP dX8_sumGroups_39 ?_
            refine lv_iload_n hx hb dX8_sumGroups_42 rfl (lv_at hl 3 rfl) ?_
            refine sg_iald hx hb hK hP 20 (by decide) 0 rfl rfl (i := y3_10) (vp_in_iff.mpr ⟨by omega, by omega⟩) dX8_sumGroups_43 ?_
            rw [← ev_7]
            refine lv_iload_n hx hb dX8_sumGroups_44 rfl (lv_at hl 1 rfl) ?_
            refine lv_iload_n hx hb dX8_sumGroups_45 rfl (lv_at hl 2 rfl) ?_
            refine sg_calli (va_runV (As := [.int v_7, .int x0, .int y2_10]) (rest := [.int v_9, .int y3_10, .ref (h 17)]) ⟨hx, hb, hml, hown, hts⟩ (kX0_lossAt l D ca za h hh fp_10 L Q hI v_7 x0 y2_10 ⟨by omega, by omega⟩ b0 hy0_10 H.size) (sl_c0_lossAt_3_0_0_74_8 hts ⟨Nat.le_of_ble_eq_true rfl, Nat.le_of_ble_eq_true rfl⟩) (sl_vX_1 hA hK hP hS hZ) rfl rfl hl.1 rfl (lv_room (Nat.le_of_ble_eq_true rfl)) dX8_sumGroups_46 ⟨Nat.le_refl _, Nat.le_refl _⟩) hA hS (fun r_13 f_10 L_11 Q_12 H locs hq hP hS => ?_)
            obtain ⟨⟨hI, hk_f_10, eL9, eQ9⟩, hq, u_14⟩ := hq
            rw [eL9, eQ9] at hP; clear eL9 eQ9
            have hF : sgK WkX8_sumGroups f f_10 := sgK.tr hF hk_f_10 (by decide +kernel)
            refine lv_imul hx hb dX8_sumGroups_49 ?_
            refine lv_topi (fun v_15 ev_15 => ?_)
            replace hs := hs.trans ((if_pos c_4).trans (spl_e ev_7 (spl_e ev_9 (spl2_e u_14 (spl_e ev_15 rfl)))))
            refine lv_iload_n hx hb dX8_sumGroups_50 rfl (lv_at hl 2 rfl) ?_
            refine lv_if_ne (tgt := 58) hx hb dX8_sumGroups_51 (by decide) (fun c => ?_) (fun c => ?_)
            · skip
              have c_16 : y2_10.toInt ≠ 0 := (by first | exact (cm_ne1 ti_0 c) | (have z := bn_ne c; have k1 : (0 : Int32).toInt = 0 := ti_0; omega))
              replace hs := hs.trans ((if_neg c_16).trans rfl)
              refine lv_iconst (v := 0) hx hb dX8_sumGroups_58 ic_0 ?_
              rcases (show y3_10.toInt = 0 ∨ y3_10.toInt = 1 ∨ y3_10.toInt = 2 ∨ y3_10.toInt = 3 ∨ y3_10.toInt = 4 ∨ y3_10.toInt = 5 ∨ y3_10.toInt = 6 ∨ y3_10.toInt = 7 from by omega) with c | c | c | c | c | c | c | c
              · skip
                have cs_18 := c
                have c_19 : y3_10 = 0 := Int32.toInt_inj.mp (by have k9 : (0 : Int32).toInt = 0 := ti_0; omega)
                refine W.eq (g2 := F0 m 59 ls [.int 0, .int v_15, .int 0, .ref (h 17)]) (by rw [c_19]) ?_
                refine sg_callv (va_runV (As := [.int 0, .int v_15, .int 0]) (rest := []) ⟨hx, hb, hml, hown, hts⟩ (kX8_sumGroupsUpTo_0 l D ca za h hh f_10 L Q hI v_15 0 (by decide) H.size) (sl_c8_sumGroupsUpTo_1_0_0_21_8 hts ⟨Nat.le_of_ble_eq_true rfl, Nat.le_of_ble_eq_true rfl⟩) (sl_vX_17 hA hK hP hS hZ) rfl rfl hl.1 rfl (lv_room (Nat.le_of_ble_eq_true rfl)) dX8_sumGroups_59 ⟨Nat.le_refl _, Nat.le_refl _⟩) hA hS (fun f_20 L_21 Q_22 H locs hq hP hS => ?_)
                obtain ⟨⟨hI, hk_f_20, eL9, eQ9⟩, u_23⟩ := hq
                rw [eL9, eQ9] at hP; clear eL9 eQ9
                have hF : sgK WkX8_sumGroups f f_20 := sgK.tr hF hk_f_20 (by decide +kernel)
                obtain ⟨v_24, ev_24⟩ : ∃ z : Int32, z = y3_10 + 1 := ⟨_, rfl⟩
                have q_25 : v_24.toInt = y3_10.toInt + 1 := by rw [ev_24]; exact (bn_addc y3_10 1 (by decide) (by omega) (by omega))
                refine lv_iinc (v := v_24) (lv' := [(3, .int v_24), (0, .ref (h 17)), (1, .int x0), (2, .int y2_10)]) hx hb dX8_sumGroups_62 hl (k := 3) rfl (by rw [ev_24]; rfl) (by decide) rfl (fun ls hl => ?_)
                refine lv_goto (tgt := 10) hx hb dX8_sumGroups_65 (by decide) ?_
                exact ih_10 y2_10 v_24 f_20 _ _ _ (hs.trans ((if_pos cs_18).trans (spl_e u_23 (spl_e ev_24 rfl)))) (by omega) hm_2 hy0_10 ⟨by omega, by omega⟩ hI hF hP hS (lv_sub hl [1, 2, 3, 0] rfl)
              · skip
                have cs_18 := c
                have c_26 : y3_10 = 1 := Int32.toInt_inj.mp (by have k9 : (1 : Int32).toInt = 1 := ti_1; omega)
                refine W.eq (g2 := F0 m 59 ls [.int 0, .int v_15, .int 1, .ref (h 17)]) (by rw [c_26]) ?_
                refine sg_callv (va_runV (As := [.int 1, .int v_15, .int 0]) (rest := []) ⟨hx, hb, hml, hown, hts⟩ (kX8_sumGroupsUpTo_1 l D ca za h hh f_10 L Q hI v_15 0 (by decide) H.size) (sl_c8_sumGroupsUpTo_1_0_0_21_8 hts ⟨Nat.le_of_ble_eq_true rfl, Nat.le_of_ble_eq_true rfl⟩) (sl_vX_17 hA hK hP hS hZ) rfl rfl hl.1 rfl (lv_room (Nat.le_of_ble_eq_true rfl)) dX8_sumGroups_59 ⟨Nat.le_refl _, Nat.le_refl _⟩) hA hS (fun f_27 L_28 Q_29 H locs hq hP hS => ?_)
                obtain ⟨⟨hI, hk_f_27, eL9, eQ9⟩, u_30⟩ := hq
                rw [eL9, eQ9] at hP; clear eL9 eQ9
                have hF : sgK WkX8_sumGroups f f_27 := sgK.tr hF hk_f_27 (by decide +kernel)
                obtain ⟨v_31, ev_31⟩ : ∃ z : Int32, z = y3_10 + 1 := ⟨_, rfl⟩
                have q_32 : v_31.toInt = y3_10.toInt + 1 := by rw [ev_31]; exact (bn_addc y3_10 1 (by decide) (by omega) (by omega))
                refine lv_iinc (v := v_31) (lv' := [(3, .int v_31), (0, .ref (h 17)), (1, .int x0), (2, .int y2_10)]) hx hb dX8_sumGroups_62 hl (k := 3) rfl (by rw [ev_31]; rfl) (by decide) rfl (fun ls hl => ?_)
                refine lv_goto (tgt := 10) hx hb dX8_sumGroups_65 (by decide) ?_
                exact ih_10 y2_10 v_31 f_27 _ _ _ (hs.trans ((if_neg (fun z => absurd (z.symm.trans cs_18) (by decide))).trans ((if_pos cs_18).trans (spl_e u_30 (spl_e ev_31 rfl))))) (by omega) hm_2 hy0_10 ⟨by omega, by omega⟩ hI hF hP hS (lv_sub hl [1, 2, 3, 0] rfl)
              · skip
                have cs_18 := c
                have c_33 : y3_10 = 2 := Int32.toInt_inj.mp (by have k9 : (2 : Int32).toInt = 2 := ti_2; omega)
                refine W.eq (g2 := F0 m 59 ls [.int 0, .int v_15, .int 2, .ref (h 17)]) (by rw [c_33]) ?_
                refine sg_callv (va_runV (As := [.int 2, .int v_15, .int 0]) (rest := []) ⟨hx, hb, hml, hown, hts⟩ (kX8_sumGroupsUpTo_2 l D ca za h hh f_10 L Q hI v_15 0 (by decide) H.size) (sl_c8_sumGroupsUpTo_1_0_0_21_8 hts ⟨Nat.le_of_ble_eq_true rfl, Nat.le_of_ble_eq_true rfl⟩) (sl_vX_17 hA hK hP hS hZ) rfl rfl hl.1 rfl (lv_room (Nat.le_of_ble_eq_true rfl)) dX8_sumGroups_59 ⟨Nat.le_refl _, Nat.le_refl _⟩) hA hS (fun f_34 L_35 Q_36 H locs hq hP hS => ?_)
                obtain ⟨⟨hI, hk_f_34, eL9, eQ9⟩, u_37⟩ := hq
                rw [eL9, eQ9] at hP; clear eL9 eQ9
                have hF : sgK WkX8_sumGroups f f_34 := sgK.tr hF hk_f_34 (by decide +kernel)
                obtain ⟨v_38, ev_38⟩ : ∃ z : Int32, z = y3_10 + 1 := ⟨_, rfl⟩
                have q_39 : v_38.toInt = y3_10.toInt + 1 := by rw [ev_38]; exact (bn_addc y3_10 1 (by decide) (by omega) (by omega))
                refine lv_iinc (v := v_38) (lv' := [(3, .int v_38), (0, .ref (h 17)), (1, .int x0), (2, .int y2_10)]) hx hb dX8_sumGroups_62 hl (k := 3) rfl (by rw [ev_38]; rfl) (by decide) rfl (fun ls hl => ?_)
                refine lv_goto (tgt := 10) hx hb dX8_sumGroups_65 (by decide) ?_
                exact ih_10 y2_10 v_38 f_34 _ _ _ (hs.trans ((if_neg (fun z => absurd (z.symm.trans cs_18) (by decide))).trans ((if_neg (fun z => absurd (z.symm.trans cs_18) (by decide))).trans ((if_pos cs_18).trans (spl_e u_37 (spl_e ev_38 rfl)))))) (by omega) hm_2 hy0_10 ⟨by omega, by omega⟩ hI hF hP hS (lv_sub hl [1, 2, 3, 0] rfl)
              · skip
                have cs_18 := c
                have c_40 : y3_10 = 3 := Int32.toInt_inj.mp (by have k9 : (3 : Int32).toInt = 3 := ti_3; omega)
                refine W.eq (g2 := F0 m 59 ls [.int 0, .int v_15, .int 3, .ref (h 17)]) (by rw [c_40]) ?_
                refine sg_callv (va_runV (As := [.int 3, .int v_15, .int 0]) (rest := []) ⟨hx, hb, hml, hown, hts⟩ (kX8_sumGroupsUpTo_3 l D ca za h hh f_10 L Q hI v_15 0 (by decide) H.size) (sl_c8_sumGroupsUpTo_1_0_0_21_8 hts ⟨Nat.le_of_ble_eq_true rfl, Nat.le_of_ble_eq_true rfl⟩) (sl_vX_17 hA hK hP hS hZ) rfl rfl hl.1 rfl (lv_room (Nat.le_of_ble_eq_true rfl)) dX8_sumGroups_59 ⟨Nat.le_refl _, Nat.le_refl _⟩) hA hS (fun f_41 L_42 Q_43 H locs hq hP hS => ?_)
                obtain ⟨⟨hI, hk_f_41, eL9, eQ9⟩, u_44⟩ := hq
                rw [eL9, eQ9] at hP; clear eL9 eQ9
                have hF : sgK WkX8_sumGroups f f_41 := sgK.tr hF hk_f_41 (by decide +kernel)
                obtain ⟨v_45, ev_45⟩ : ∃ z : Int32, z = y3_10 + 1 := ⟨_, rfl⟩
                have q_46 : v_45.toInt = y3_10.toInt + 1 := by rw [ev_45]; exact (bn_addc y3_10 1 (by decide) (by omega) (by omega))
                refine lv_iinc (v := v_45) (lv' := [(3, .int v_45), (0, .ref (h 17)), (1, .int x0), (2, .int y2_10)]) hx hb dX8_sumGroups_62 hl (k := 3) rfl (by rw [ev_45]; rfl) (by decide) rfl (fun ls hl => ?_)
                refine lv_goto (tgt := 10) hx hb dX8_sumGroups_65 (by decide) ?_
                exact ih_10 y2_10 v_45 f_41 _ _ _ (hs.trans ((if_neg (fun z => absurd (z.symm.trans cs_18) (by decide))).trans ((if_neg (fun z => absurd (z.symm.trans cs_18) (by decide))).trans ((if_neg (fun z => absurd (z.symm.trans cs_18) (by decide))).trans ((if_pos cs_18).trans (spl_e u_44 (spl_e ev_45 rfl))))))) (by omega) hm_2 hy0_10 ⟨by omega, by omega⟩ hI hF hP hS (lv_sub hl [1, 2, 3, 0] rfl)
              · skip
                have cs_18 := c
                have c_47 : y3_10 = 4 := Int32.toInt_inj.mp (by have k9 : (4 : Int32).toInt = 4 := ti_4; omega)
                refine W.eq (g2 := F0 m 59 ls [.int 0, .int v_15, .int 4, .ref (h 17)]) (by rw [c_47]) ?_
                refine sg_callv (va_runV (As := [.int 4, .int v_15, .int 0]) (rest := []) ⟨hx, hb, hml, hown, hts⟩ (kX8_sumGroupsUpTo_4 l D ca za h hh f_10 L Q hI v_15 0 (by decide) H.size) (sl_c8_sumGroupsUpTo_1_0_0_21_8 hts ⟨Nat.le_of_ble_eq_true rfl, Nat.le_of_ble_eq_true rfl⟩) (sl_vX_17 hA hK hP hS hZ) rfl rfl hl.1 rfl (lv_room (Nat.le_of_ble_eq_true rfl)) dX8_sumGroups_59 ⟨Nat.le_refl _, Nat.le_refl _⟩) hA hS (fun f_48 L_49 Q_50 H locs hq hP hS => ?_)
                obtain ⟨⟨hI, hk_f_48, eL9, eQ9⟩, u_51⟩ := hq
                rw [eL9, eQ9] at hP; clear eL9 eQ9
                have hF : sgK WkX8_sumGroups f f_48 := sgK.tr hF hk_f_48 (by decide +kernel)
                obtain ⟨v_52, ev_52⟩ : ∃ z : Int32, z = y3_10 + 1 := ⟨_, rfl⟩
                have q_53 : v_52.toInt = y3_10.toInt + 1 := by rw [ev_52]; exact (bn_addc y3_10 1 (by decide) (by omega) (by omega))
                refine lv_iinc (v := v_52) (lv' := [(3, .int v_52), (0, .ref (h 17)), (1, .int x0), (2, .int y2_10)]) hx hb dX8_sumGroups_62 hl (k := 3) rfl (by rw [ev_52]; rfl) (by decide) rfl (fun ls hl => ?_)
                refine lv_goto (tgt := 10) hx hb dX8_sumGroups_65 (by decide) ?_
                exact ih_10 y2_10 v_52 f_48 _ _ _ (hs.trans ((if_neg (fun z => absurd (z.symm.trans cs_18) (by decide))).trans ((if_neg (fun z => absurd (z.symm.trans cs_18) (by decide))).trans ((if_neg (fun z => absurd (z.symm.trans cs_18) (by decide))).trans ((if_neg (fun z => absurd (z.symm.trans cs_18) (by decide))).trans ((if_pos cs_18).trans (spl_e u_51 (spl_e ev_52 rfl)))))))) (by omega) hm_2 hy0_10 ⟨by omega, by omega⟩ hI hF hP hS (lv_sub hl [1, 2, 3, 0] rfl)
              · skip
                have cs_18 := c
                have c_54 : y3_10 = 5 := Int32.toInt_inj.mp (by have k9 : (5 : Int32).toInt = 5 := ti_5; omega)
                refine W.eq (g2 := F0 m 59 ls [.int 0, .int v_15, .int 5, .ref (h 17)]) (by rw [c_54]) ?_
                refine sg_callv (va_runV (As := [.int 5, .int v_15, .int 0]) (rest := []) ⟨hx, hb, hml, hown, hts⟩ (kX8_sumGroupsUpTo_5 l D ca za h hh f_10 L Q hI v_15 0 (by decide) H.size) (sl_c8_sumGroupsUpTo_1_0_0_21_8 hts ⟨Nat.le_of_ble_eq_true rfl, Nat.le_of_ble_eq_true rfl⟩) (sl_vX_17 hA hK hP hS hZ) rfl rfl hl.1 rfl (lv_room (Nat.le_of_ble_eq_true rfl)) dX8_sumGroups_59 ⟨Nat.le_refl _, Nat.le_refl _⟩) hA hS (fun f_55 L_56 Q_57 H locs hq hP hS => ?_)
                obtain ⟨⟨hI, hk_f_55, eL9, eQ9⟩, u_58⟩ := hq
                rw [eL9, eQ9] at hP; clear eL9 eQ9
                have hF : sgK WkX8_sumGroups f f_55 := sgK.tr hF hk_f_55 (by decide +kernel)
                obtain ⟨v_59, ev_59⟩ : ∃ z : Int32, z = y3_10 + 1 := ⟨_, rfl⟩
                have q_60 : v_59.toInt = y3_10.toInt + 1 := by rw [ev_59]; exact (bn_addc y3_10 1 (by decide) (by omega) (by omega))
                refine lv_iinc (v := v_59) (lv' := [(3, .int v_59), (0, .ref (h 17)), (1, .int x0), (2, .int y2_10)]) hx hb dX8_sumGroups_62 hl (k := 3) rfl (by rw [ev_59]; rfl) (by decide) rfl (fun ls hl => ?_)
                refine lv_goto (tgt := 10) hx hb dX8_sumGroups_65 (by decide) ?_
                exact ih_10 y2_10 v_59 f_55 _ _ _ (hs.trans ((if_neg (fun z => absurd (z.symm.trans cs_18) (by decide))).trans ((if_neg (fun z => absurd (z.symm.trans cs_18) (by decide))).trans ((if_neg (fun z => absurd (z.symm.trans cs_18) (by decide))).trans ((if_neg (fun z => absurd (z.symm.trans cs_18) (by decide))).trans ((if_neg (fun z => absurd (z.symm.trans cs_18) (by decide))).trans ((if_pos cs_18).trans (spl_e u_58 (spl_e ev_59 rfl))))))))) (by omega) hm_2 hy0_10 ⟨by omega, by omega⟩ hI hF hP hS (lv_sub hl [1, 2, 3, 0] rfl)
              · skip
                have cs_18 := c
                have c_61 : y3_10 = 6 := Int32.toInt_inj.mp (by have k9 : (6 : Int32).toInt = 6 := ti_6; omega)
                refine W.eq (g2 := F0 m 59 ls [.int 0, .int v_15, .int 6, .ref (h 17)]) (by rw [c_61]) ?_
                refine sg_callv (va_runV (As := [.int 6, .int v_15, .int 0]) (rest := []) ⟨hx, hb, hml, hown, hts⟩ (kX8_sumGroupsUpTo_6 l D ca za h hh f_10 L Q hI v_15 0 (by decide) H.size) (sl_c8_sumGroupsUpTo_1_0_0_21_8 hts ⟨Nat.le_of_ble_eq_true rfl, Nat.le_of_ble_eq_true rfl⟩) (sl_vX_17 hA hK hP hS hZ) rfl rfl hl.1 rfl (lv_room (Nat.le_of_ble_eq_true rfl)) dX8_sumGroups_59 ⟨Nat.le_refl _, Nat.le_refl _⟩) hA hS (fun f_62 L_63 Q_64 H locs hq hP hS => ?_)
                obtain ⟨⟨hI, hk_f_62, eL9, eQ9⟩, u_65⟩ := hq
                rw [eL9, eQ9] at hP; clear eL9 eQ9
                have hF : sgK WkX8_sumGroups f f_62 := sgK.tr hF hk_f_62 (by decide +kernel)
                obtain ⟨v_66, ev_66⟩ : ∃ z : Int32, z = y3_10 + 1 := ⟨_, rfl⟩
                have q_67 : v_66.toInt = y3_10.toInt + 1 := by rw [ev_66]; exact (bn_addc y3_10 1 (by decide) (by omega) (by omega))
                refine lv_iinc (v := v_66) (lv' := [(3, .int v_66), (0, .ref (h 17)), (1, .int x0), (2, .int y2_10)]) hx hb dX8_sumGroups_62 hl (k := 3) rfl (by rw [ev_66]; rfl) (by decide) rfl (fun ls hl => ?_)
                refine lv_goto (tgt := 10) hx hb dX8_sumGroups_65 (by decide) ?_
                exact ih_10 y2_10 v_66 f_62 _ _ _ (hs.trans ((if_neg (fun z => absurd (z.symm.trans cs_18) (by decide))).trans ((if_neg (fun z => absurd (z.symm.trans cs_18) (by decide))).trans ((if_neg (fun z => absurd (z.symm.trans cs_18) (by decide))).trans ((if_neg (fun z => absurd (z.symm.trans cs_18) (by decide))).trans ((if_neg (fun z => absurd (z.symm.trans cs_18) (by decide))).trans ((if_neg (fun z => absurd (z.symm.trans cs_18) (by decide))).trans ((if_pos cs_18).trans (spl_e u_65 (spl_e ev_66 rfl)))))))))) (by omega) hm_2 hy0_10 ⟨by omega, by omega⟩ hI hF hP hS (lv_sub hl [1, 2, 3, 0] rfl)
              · skip
                have cs_18 := c
                have c_68 : y3_10 = 7 := Int32.toInt_inj.mp (by have k9 : (7 : Int32).toInt = 7 := ti_7; omega)
                refine W.eq (g2 := F0 m 59 ls [.int 0, .int v_15, .int 7, .ref (h 17)]) (by rw [c_68]) ?_
                refine sg_callv (va_runV (As := [.int 7, .int v_15, .int 0]) (rest := []) ⟨hx, hb, hml, hown, hts⟩ (kX8_sumGroupsUpTo_7 l D ca za h hh f_10 L Q hI v_15 0 (by decide) H.size) (sl_c8_sumGroupsUpTo_1_0_0_21_8 hts ⟨Nat.le_of_ble_eq_true rfl, Nat.le_of_ble_eq_true rfl⟩) (sl_vX_17 hA hK hP hS hZ) rfl rfl hl.1 rfl (lv_room (Nat.le_of_ble_eq_true rfl)) dX8_sumGroups_59 ⟨Nat.le_refl _, Nat.le_refl _⟩) hA hS (fun f_69 L_70 Q_71 H locs hq hP hS => ?_)
                obtain ⟨⟨hI, hk_f_69, eL9, eQ9⟩, u_72⟩ := hq
                rw [eL9, eQ9] at hP; clear eL9 eQ9
                have hF : sgK WkX8_sumGroups f f_69 := sgK.tr hF hk_f_69 (by decide +kernel)
                obtain ⟨v_73, ev_73⟩ : ∃ z : Int32, z = y3_10 + 1 := ⟨_, rfl⟩
                have q_74 : v_73.toInt = y3_10.toInt + 1 := by rw [ev_73]; exact (bn_addc y3_10 1 (by decide) (by omega) (by omega))
                refine lv_iinc (v := v_73) (lv' := [(3, .int v_73), (0, .ref (h 17)), (1, .int x0), (2, .int y2_10)]) hx hb dX8_sumGroups_62 hl (k := 3) rfl (by rw [ev_73]; rfl) (by decide) rfl (fun ls hl => ?_)
                refine lv_goto (tgt := 10) hx hb dX8_sumGroups_65 (by decide) ?_
                exact ih_10 y2_10 v_73 f_69 _ _ _ (hs.trans ((if_neg (fun z => absurd (z.symm.trans cs_18) (by decide))).trans ((if_neg (fun z => absurd (z.symm.trans cs_18) (by decide))).trans ((if_neg (fun z => absurd (z.symm.trans cs_18) (by decide))).trans ((if_neg (fun z => absurd (z.symm.trans cs_18) (by decide))).trans ((if_neg (fun z => absurd (z.symm.trans cs_18) (by decide))).trans ((if_neg (fun z => absurd (z.symm.trans cs_18) (by decide))).trans ((if_neg (fun z => absurd (z.symm.trans cs_18) (by decide))).trans (spl_e u_72 (spl_e ev_73 rfl)))))))))) (by omega) hm_2 hy0_10 ⟨by omega, by omega⟩ hI hF hP hS (lv_sub hl [1, 2, 3, 0] rfl)
            · skip
              have c_17 : y2_10.toInt = 0 := (by first | exact (cm_eq1 ti_0 c) | (have z := Int32.toInt_inj.mpr c; have k1 : (0 : Int32).toInt = 0 := ti_0; omega))
              replace hs := hs.trans ((if_pos c_17).trans rfl)
              refine lv_iconst (v := 1) hx hb dX8_sumGroups_54 ic_1 ?_
              refine lv_goto (tgt := 59) hx hb dX8_sumGroups_55 (by decide) ?_
              rcases (show y3_10.toInt = 0 ∨ y3_10.toInt = 1 ∨ y3_10.toInt = 2 ∨ y3_10.toInt = 3 ∨ y3_10.toInt = 4 ∨ y3_10.toInt = 5 ∨ y3_10.toInt = 6 ∨ y3_10.toInt = 7 from by omega) with c | c | c | c | c | c | c | c
              · skip
                have cs_75 := c
                have c_76 : y3_10 = 0 := Int32.toInt_inj.mp (by have k9 : (0 : Int32).toInt = 0 := ti_0; omega)
                refine W.eq (g2 := F0 m 59 ls [.int 1, .int v_15, .int 0, .ref (h 17)]) (by rw [c_76]) ?_
                refine sg_callv (va_runV (As := [.int 0, .int v_15, .int 1]) (rest := []) ⟨hx, hb, hml, hown, hts⟩ (kX8_sumGroupsUpTo_0 l D ca za h hh f_10 L Q hI v_15 1 (by decide) H.size) (sl_c8_sumGroupsUpTo_1_0_0_21_8 hts ⟨Nat.le_of_ble_eq_true rfl, Nat.le_of_ble_eq_true rfl⟩) (sl_vX_17 hA hK hP hS hZ) rfl rfl hl.1 rfl (lv_room (Nat.le_of_ble_eq_true rfl)) dX8_sumGroups_59 ⟨Nat.le_refl _, Nat.le_refl _⟩) hA hS (fun f_77 L_78 Q_79 H locs hq hP hS => ?_)
                obtain ⟨⟨hI, hk_f_77, eL9, eQ9⟩, u_80⟩ := hq
                rw [eL9, eQ9] at hP; clear eL9 eQ9
                have hF : sgK WkX8_sumGroups f f_77 := sgK.tr hF hk_f_77 (by decide +kernel)
                obtain ⟨v_81, ev_81⟩ : ∃ z : Int32, z = y3_10 + 1 := ⟨_, rfl⟩
                have q_82 : v_81.toInt = y3_10.toInt + 1 := by rw [ev_81]; exact (bn_addc y3_10 1 (by decide) (by omega) (by omega))
                refine lv_iinc (v := v_81) (lv' := [(3, .int v_81), (0, .ref (h 17)), (1, .int x0), (2, .int y2_10)]) hx hb dX8_sumGroups_62 hl (k := 3) rfl (by rw [ev_81]; rfl) (by decide) rfl (fun ls hl => ?_)
                refine lv_goto (tgt := 10) hx hb dX8_sumGroups_65 (by decide) ?_
                exact ih_10 y2_10 v_81 f_77 _ _ _ (hs.trans ((if_pos cs_75).trans (spl_e u_80 (spl_e ev_81 rfl)))) (by omega) hm_2 hy0_10 ⟨by omega, by omega⟩ hI hF hP hS (lv_sub hl [1, 2, 3, 0] rfl)
              · skip
                have cs_75 := c
                have c_83 : y3_10 = 1 := Int32.toInt_inj.mp (by have k9 : (1 : Int32).toInt = 1 := ti_1; omega)
                refine W.eq (g2 := F0 m 59 ls [.int 1, .int v_15, .int 1, .ref (h 17)]) (by rw [c_83]) ?_
                refine sg_callv (va_runV (As := [.int 1, .int v_15, .int 1]) (rest := []) ⟨hx, hb, hml, hown, hts⟩ (kX8_sumGroupsUpTo_1 l D ca za h hh f_10 L Q hI v_15 1 (by decide) H.size) (sl_c8_sumGroupsUpTo_1_0_0_21_8 hts ⟨Nat.le_of_ble_eq_true rfl, Nat.le_of_ble_eq_true rfl⟩) (sl_vX_17 hA hK hP hS hZ) rfl rfl hl.1 rfl (lv_room (Nat.le_of_ble_eq_true rfl)) dX8_sumGroups_59 ⟨Nat.le_refl _, Nat.le_refl _⟩) hA hS (fun f_84 L_85 Q_86 H locs hq hP hS => ?_)
                obtain ⟨⟨hI, hk_f_84, eL9, eQ9⟩, u_87⟩ := hq
                rw [eL9, eQ9] at hP; clear eL9 eQ9
                have hF : sgK WkX8_sumGroups f f_84 := sgK.tr hF hk_f_84 (by decide +kernel)
                obtain ⟨v_88, ev_88⟩ : ∃ z : Int32, z = y3_10 + 1 := ⟨_, rfl⟩
                have q_89 : v_88.toInt = y3_10.toInt + 1 := by rw [ev_88]; exact (bn_addc y3_10 1 (by decide) (by omega) (by omega))
                refine lv_iinc (v := v_88) (lv' := [(3, .int v_88), (0, .ref (h 17)), (1, .int x0), (2, .int y2_10)]) hx hb dX8_sumGroups_62 hl (k := 3) rfl (by rw [ev_88]; rfl) (by decide) rfl (fun ls hl => ?_)
                refine lv_goto (tgt := 10) hx hb dX8_sumGroups_65 (by decide) ?_
                exact ih_10 y2_10 v_88 f_84 _ _ _ (hs.trans ((if_neg (fun z => absurd (z.symm.trans cs_75) (by decide))).trans ((if_pos cs_75).trans (spl_e u_87 (spl_e ev_88 rfl))))) (by omega) hm_2 hy0_10 ⟨by omega, by omega⟩ hI hF hP hS (lv_sub hl [1, 2, 3, 0] rfl)
              · skip
                have cs_75 := c
                have c_90 : y3_10 = 2 := Int32.toInt_inj.mp (by have k9 : (2 : Int32).toInt = 2 := ti_2; omega)
                refine W.eq (g2 := F0 m 59 ls [.int 1, .int v_15, .int 2, .ref (h 17)]) (by rw [c_90]) ?_
                refine sg_callv (va_runV (As := [.int 2, .int v_15, .int 1]) (rest := []) ⟨hx, hb, hml, hown, hts⟩ (kX8_sumGroupsUpTo_2 l D ca za h hh f_10 L Q hI v_15 1 (by decide) H.size) (sl_c8_sumGroupsUpTo_1_0_0_21_8 hts ⟨Nat.le_of_ble_eq_true rfl, Nat.le_of_ble_eq_true rfl⟩) (sl_vX_17 hA hK hP hS hZ) rfl rfl hl.1 rfl (lv_room (Nat.le_of_ble_eq_true rfl)) dX8_sumGroups_59 ⟨Nat.le_refl _, Nat.le_refl _⟩) hA hS (fun f_91 L_92 Q_93 H locs hq hP hS => ?_)
                obtain ⟨⟨hI, hk_f_91, eL9, eQ9⟩, u_94⟩ := hq
                rw [eL9, eQ9] at hP; clear eL9 eQ9
                have hF : sgK WkX8_sumGroups f f_91 := sgK.tr hF hk_f_91 (by decide +kernel)
                obtain ⟨v_95, ev_95⟩ : ∃ z : Int32, z = y3_10 + 1 := ⟨_, rfl⟩
                have q_96 : v_95.toInt = y3_10.toInt + 1 := by rw [ev_95]; exact (bn_addc y3_10 1 (by decide) (by omega) (by omega))
                refine lv_iinc (v := v_95) (lv' := [(3, .int v_95), (0, .ref (h 17)), (1, .int x0), (2, .int y2_10)]) hx hb dX8_sumGroups_62 hl (k := 3) rfl (by rw [ev_95]; rfl) (by decide) rfl (fun ls hl => ?_)
                refine lv_goto (tgt := 10) hx hb dX8_sumGroups_65 (by decide) ?_
                exact ih_10 y2_10 v_95 f_91 _ _ _ (hs.trans ((if_neg (fun z => absurd (z.symm.trans cs_75) (by decide))).trans ((if_neg (fun z => absurd (z.symm.trans cs_75) (by decide))).trans ((if_pos cs_75).trans (spl_e u_94 (spl_e ev_95 rfl)))))) (by omega) hm_2 hy0_10 ⟨by omega, by omega⟩ hI hF hP hS (lv_sub hl [1, 2, 3, 0] rfl)
              · skip
                have cs_75 := c
                have c_97 : y3_10 = 3 := Int32.toInt_inj.mp (by have k9 : (3 : Int32).toInt = 3 := ti_3; omega)
                refine W.eq (g2 := F0 m 59 ls [.int 1, .int v_15, .int 3, .ref (h 17)]) (by rw [c_97]) ?_
                refine sg_callv (va_runV (As := [.int 3, .int v_15, .int 1]) (rest := []) ⟨hx, hb, hml, hown, hts⟩ (kX8_sumGroupsUpTo_3 l D ca za h hh f_10 L Q hI v_15 1 (by decide) H.size) (sl_c8_sumGroupsUpTo_1_0_0_21_8 hts ⟨Nat.le_of_ble_eq_true rfl, Nat.le_of_ble_eq_true rfl⟩) (sl_vX_17 hA hK hP hS hZ) rfl rfl hl.1 rfl (lv_room (Nat.le_of_ble_eq_true rfl)) dX8_sumGroups_59 ⟨Nat.le_refl _, Nat.le_refl _⟩) hA hS (fun f_98 L_99 Q_100 H locs hq hP hS => ?_)
                obtain ⟨⟨hI, hk_f_98, eL9, eQ9⟩, u_101⟩ := hq
                rw [eL9, eQ9] at hP; clear eL9 eQ9
                have hF : sgK WkX8_sumGroups f f_98 := sgK.tr hF hk_f_98 (by decide +kernel)
                obtain ⟨v_102, ev_102⟩ : ∃ z : Int32, z = y3_10 + 1 := ⟨_, rfl⟩
                have q_103 : v_102.toInt = y3_10.toInt + 1 := by rw [ev_102]; exact (bn_addc y3_10 1 (by decide) (by omega) (by omega))
                refine lv_iinc (v := v_102) (lv' := [(3, .int v_102), (0, .ref (h 17)), (1, .int x0), (2, .int y2_10)]) hx hb dX8_sumGroups_62 hl (k := 3) rfl (by rw [ev_102]; rfl) (by decide) rfl (fun ls hl => ?_)
                refine lv_goto (tgt := 10) hx hb dX8_sumGroups_65 (by decide) ?_
                exact ih_10 y2_10 v_102 f_98 _ _ _ (hs.trans ((if_neg (fun z => absurd (z.symm.trans cs_75) (by decide))).trans ((if_neg (fun z => absurd (z.symm.trans cs_75) (by decide))).trans ((if_neg (fun z => absurd (z.symm.trans cs_75) (by decide))).trans ((if_pos cs_75).trans (spl_e u_101 (spl_e ev_102 rfl))))))) (by omega) hm_2 hy0_10 ⟨by omega, by omega⟩ hI hF hP hS (lv_sub hl [1, 2, 3, 0] rfl)
              · skip
                have cs_75 := c
                have c_104 : y3_10 = 4 := Int32.toInt_inj.mp (by have k9 : (4 : Int32).toInt = 4 := ti_4; omega)
                refine W.eq (g2 := F0 m 59 ls [.int 1, .int v_15, .int 4, .ref (h 17)]) (by rw [c_104]) ?_
                refine sg_callv (va_runV (As := [.int 4, .int v_15, .int 1]) (rest := []) ⟨hx, hb, hml, hown, hts⟩ (kX8_sumGroupsUpTo_4 l D ca za h hh f_10 L Q hI v_15 1 (by decide) H.size) (sl_c8_sumGroupsUpTo_1_0_0_21_8 hts ⟨Nat.le_of_ble_eq_true rfl, Nat.le_of_ble_eq_true rfl⟩) (sl_vX_17 hA hK hP hS hZ) rfl rfl hl.1 rfl (lv_room (Nat.le_of_ble_eq_true rfl)) dX8_sumGroups_59 ⟨Nat.le_refl _, Nat.le_refl _⟩) hA hS (fun f_105 L_106 Q_107 H locs hq hP hS => ?_)
                obtain ⟨⟨hI, hk_f_105, eL9, eQ9⟩, u_108⟩ := hq
                rw [eL9, eQ9] at hP; clear eL9 eQ9
                have hF : sgK WkX8_sumGroups f f_105 := sgK.tr hF hk_f_105 (by decide +kernel)
                obtain ⟨v_109, ev_109⟩ : ∃ z : Int32, z = y3_10 + 1 := ⟨_, rfl⟩
                have q_110 : v_109.toInt = y3_10.toInt + 1 := by rw [ev_109]; exact (bn_addc y3_10 1 (by decide) (by omega) (by omega))
                refine lv_iinc (v := v_109) (lv' := [(3, .int v_109), (0, .ref (h 17)), (1, .int x0), (2, .int y2_10)]) hx hb dX8_sumGroups_62 hl (k := 3) rfl (by rw [ev_109]; rfl) (by decide) rfl (fun ls hl => ?_)
                refine lv_goto (tgt := 10) hx hb dX8_sumGroups_65 (by decide) ?_
                exact ih_10 y2_10 v_109 f_105 _ _ _ (hs.trans ((if_neg (fun z => absurd (z.symm.trans cs_75) (by decide))).trans ((if_neg (fun z => absurd (z.symm.trans cs_75) (by decide))).trans ((if_neg (fun z => absurd (z.symm.trans cs_75) (by decide))).trans ((if_neg (fun z => absurd (z.symm.trans cs_75) (by decide))).trans ((if_pos cs_75).trans (spl_e u_108 (spl_e ev_109 rfl)))))))) (by omega) hm_2 hy0_10 ⟨by omega, by omega⟩ hI hF hP hS (lv_sub hl [1, 2, 3, 0] rfl)
              · skip
                have cs_75 := c
                have c_111 : y3_10 = 5 := Int32.toInt_inj.mp (by have k9 : (5 : Int32).toInt = 5 := ti_5; omega)
                refine W.eq (g2 := F0 m 59 ls [.int 1, .int v_15, .int 5, .ref (h 17)]) (by rw [c_111]) ?_
                refine sg_callv (va_runV (As := [.int 5, .int v_15, .int 1]) (rest := []) ⟨hx, hb, hml, hown, hts⟩ (kX8_sumGroupsUpTo_5 l D ca za h hh f_10 L Q hI v_15 1 (by decide) H.size) (sl_c8_sumGroupsUpTo_1_0_0_21_8 hts ⟨Nat.le_of_ble_eq_true rfl, Nat.le_of_ble_eq_true rfl⟩) (sl_vX_17 hA hK hP hS hZ) rfl rfl hl.1 rfl (lv_room (Nat.le_of_ble_eq_true rfl)) dX8_sumGroups_59 ⟨Nat.le_refl _, Nat.le_refl _⟩) hA hS (fun f_112 L_113 Q_114 H locs hq hP hS => ?_)
                obtain ⟨⟨hI, hk_f_112, eL9, eQ9⟩, u_115⟩ := hq
                rw [eL9, eQ9] at hP; clear eL9 eQ9
                have hF : sgK WkX8_sumGroups f f_112 := sgK.tr hF hk_f_112 (by decide +kernel)
                obtain ⟨v_116, ev_116⟩ : ∃ z : Int32, z = y3_10 + 1 := ⟨_, rfl⟩
                have q_117 : v_116.toInt = y3_10.toInt + 1 := by rw [ev_116]; exact (bn_addc y3_10 1 (by decide) (by omega) (by omega))
                refine lv_iinc (v := v_116) (lv' := [(3, .int v_116), (0, .ref (h 17)), (1, .int x0), (2, .int y2_10)]) hx hb dX8_sumGroups_62 hl (k := 3) rfl (by rw [ev_116]; rfl) (by decide) rfl (fun ls hl => ?_)
                refine lv_goto (tgt := 10) hx hb dX8_sumGroups_65 (by decide) ?_
                exact ih_10 y2_10 v_116 f_112 _ _ _ (hs.trans ((if_neg (fun z => absurd (z.symm.trans cs_75) (by decide))).trans ((if_neg (fun z => absurd (z.symm.trans cs_75) (by decide))).trans ((if_neg (fun z => absurd (z.symm.trans cs_75) (by decide))).trans ((if_neg (fun z => absurd (z.symm.trans cs_75) (by decide))).trans ((if_neg (fun z => absurd (z.symm.trans cs_75) (by decide))).trans ((if_pos cs_75).trans (spl_e u_115 (spl_e ev_116 rfl))))))))) (by omega) hm_2 hy0_10 ⟨by omega, by omega⟩ hI hF hP hS (lv_sub hl [1, 2, 3, 0] rfl)
              · skip
                have cs_75 := c
                have c_118 : y3_10 = 6 := Int32.toInt_inj.mp (by have k9 : (6 : Int32).toInt = 6 := ti_6; omega)
                refine W.eq (g2 := F0 m 59 ls [.int 1, .int v_15, .int 6, .ref (h 17)]) (by rw [c_118]) ?_
                refine sg_callv (va_runV (As := [.int 6, .int v_15, .int 1]) (rest := []) ⟨hx, hb, hml, hown, hts⟩ (kX8_sumGroupsUpTo_6 l D ca za h hh f_10 L Q hI v_15 1 (by decide) H.size) (sl_c8_sumGroupsUpTo_1_0_0_21_8 hts ⟨Nat.le_of_ble_eq_true rfl, Nat.le_of_ble_eq_true rfl⟩) (sl_vX_17 hA hK hP hS hZ) rfl rfl hl.1 rfl (lv_room (Nat.le_of_ble_eq_true rfl)) dX8_sumGroups_59 ⟨Nat.le_refl _, Nat.le_refl _⟩) hA hS (fun f_119 L_120 Q_121 H locs hq hP hS => ?_)
                obtain ⟨⟨hI, hk_f_119, eL9, eQ9⟩, u_122⟩ := hq
                rw [eL9, eQ9] at hP; clear eL9 eQ9
                have hF : sgK WkX8_sumGroups f f_119 := sgK.tr hF hk_f_119 (by decide +kernel)
                obtain ⟨v_123, ev_123⟩ : ∃ z : Int32, z = y3_10 + 1 := ⟨_, rfl⟩
                have q_124 : v_123.toInt = y3_10.toInt + 1 := by rw [ev_123]; exact (bn_addc y3_10 1 (by decide) (by omega) (by omega))
                refine lv_iinc (v := v_123) (lv' := [(3, .int v_123), (0, .ref (h 17)), (1, .int x0), (2, .int y2_10)]) hx hb dX8_sumGroups_62 hl (k := 3) rfl (by rw [ev_123]; rfl) (by decide) rfl (fun ls hl => ?_)
                refine lv_goto (tgt := 10) hx hb dX8_sumGroups_65 (by decide) ?_
                exact ih_10 y2_10 v_123 f_119 _ _ _ (hs.trans ((if_neg (fun z => absurd (z.symm.trans cs_75) (by decide))).trans ((if_neg (fun z => absurd (z.symm.trans cs_75) (by decide))).trans ((if_neg (fun z => absurd (z.symm.trans cs_75) (by decide))).trans ((if_neg (fun z => absurd (z.symm.trans cs_75) (by decide))).trans ((if_neg (fun z => absurd (z.symm.trans cs_75) (by decide))).trans ((if_neg (fun z => absurd (z.symm.trans cs_75) (by decide))).trans ((if_pos cs_75).trans (spl_e u_122 (spl_e ev_123 rfl)))))))))) (by omega) hm_2 hy0_10 ⟨by omega, by omega⟩ hI hF hP hS (lv_sub hl [1, 2, 3, 0] rfl)
              · skip
                have cs_75 := c
                have c_125 : y3_10 = 7 := Int32.toInt_inj.mp (by have k9 : (7 : Int32).toInt = 7 := ti_7; omega)
                refine W.eq (g2 := F0 m 59 ls [.int 1, .int v_15, .int 7, .ref (h 17)]) (by rw [c_125]) ?_
                refine sg_callv (va_runV (As := [.int 7, .int v_15, .int 1]) (rest := []) ⟨hx, hb, hml, hown, hts⟩ (kX8_sumGroupsUpTo_7 l D ca za h hh f_10 L Q hI v_15 1 (by decide) H.size) (sl_c8_sumGroupsUpTo_1_0_0_21_8 hts ⟨Nat.le_of_ble_eq_true rfl, Nat.le_of_ble_eq_true rfl⟩) (sl_vX_17 hA hK hP hS hZ) rfl rfl hl.1 rfl (lv_room (Nat.le_of_ble_eq_true rfl)) dX8_sumGroups_59 ⟨Nat.le_refl _, Nat.le_refl _⟩) hA hS (fun f_126 L_127 Q_128 H locs hq hP hS => ?_)
                obtain ⟨⟨hI, hk_f_126, eL9, eQ9⟩, u_129⟩ := hq
                rw [eL9, eQ9] at hP; clear eL9 eQ9
                have hF : sgK WkX8_sumGroups f f_126 := sgK.tr hF hk_f_126 (by decide +kernel)
                obtain ⟨v_130, ev_130⟩ : ∃ z : Int32, z = y3_10 + 1 := ⟨_, rfl⟩
                have q_131 : v_130.toInt = y3_10.toInt + 1 := by rw [ev_130]; exact (bn_addc y3_10 1 (by decide) (by omega) (by omega))
                refine lv_iinc (v := v_130) (lv' := [(3, .int v_130), (0, .ref (h 17)), (1, .int x0), (2, .int y2_10)]) hx hb dX8_sumGroups_62 hl (k := 3) rfl (by rw [ev_130]; rfl) (by decide) rfl (fun ls hl => ?_)
                refine lv_goto (tgt := 10) hx hb dX8_sumGroups_65 (by decide) ?_
                exact ih_10 y2_10 v_130 f_126 _ _ _ (hs.trans ((if_neg (fun z => absurd (z.symm.trans cs_75) (by decide))).trans ((if_neg (fun z => absurd (z.symm.trans cs_75) (by decide))).trans ((if_neg (fun z => absurd (z.symm.trans cs_75) (by decide))).trans ((if_neg (fun z => absurd (z.symm.trans cs_75) (by decide))).trans ((if_neg (fun z => absurd (z.symm.trans cs_75) (by decide))).trans ((if_neg (fun z => absurd (z.symm.trans cs_75) (by decide))).trans ((if_neg (fun z => absurd (z.symm.trans cs_75) (by decide))).trans (spl_e u_129 (spl_e ev_130 rfl)))))))))) (by omega) hm_2 hy0_10 ⟨by omega, by omega⟩ hI hF hP hS (lv_sub hl [1, 2, 3, 0] rfl)
      intro y2_2 fp_2 H locs ls hs hm_2 hy0_2 hI hF hP hS hl
      have hs : sp = sX8_sumGroups_h2 x0 (sX8_sumGroups_l2 x0 n_2) y2_2 fp_2 L := hs
      refine lv_iload_n hx hb dX8_sumGroups_2 rfl (lv_at hl 2 rfl) ?_
      refine lv_bipush (v := 60) hx hb dX8_sumGroups_3 bp_60 ?_
      refine lv_icmp_gt (tgt := 74) hx hb dX8_sumGroups_5 (by decide) (fun c => ?_) (fun c => ?_)
      · skip
        have c_132 : 60 < y2_2.toInt := (by first | exact (cm_lt0 ti_60 c) | (have z := bn_lt c; have k1 : (60 : Int32).toInt = 60 := ti_60; omega))
        exact hret _ _ _ _ fp_2 L Q dX8_sumGroups_74 hP hS ⟨⟨hI, hF, rfl, rfl⟩, (Eq.trans (Eq.symm (hs.trans (((if_pos c_132).trans rfl)))) hsp)⟩
      · skip
        have c_133 : y2_2.toInt ≤ 60 := (by first | exact (cm_nlt0 ti_60 c) | (have z := bn_nlt c; have k1 : (60 : Int32).toInt = 60 := ti_60; omega))
        refine lv_iconst (v := 0) hx hb dX8_sumGroups_8 ic_0 ?_
        refine lv_istore_n (lv' := [(3, .int 0), (0, .ref (h 17)), (1, .int x0), (2, .int y2_2)]) hx hb dX8_sumGroups_9 rfl hl (by decide) rfl (fun ls hl => ?_)
        exact loop_10 9 y2_2 0 fp_2 _ _ _ (hs.trans (((if_neg (Int.not_lt.mpr c_133)).trans rfl))) (by have kc1 : (0 : Int32).toInt = 0 := ti_0; omega) (by have kc1 : (0 : Int32).toInt = 0 := ti_0; omega) ⟨by omega, by omega⟩ (by decide) hI hF hP hS (lv_sub hl [1, 2, 3, 0] rfl)
  refine lv_iconst (v := 0) hx hb dX8_sumGroups_0 ic_0 ?_
  refine lv_istore_n (lv' := [(2, .int 0), (0, .ref (h 17)), (1, .int x0)]) hx hb dX8_sumGroups_1 rfl hl (by decide) rfl (fun ls hl => ?_)
  exact loop_2 62 0 f _ _ _ hs (by have kc0 : (0 : Int32).toInt = 0 := ti_0; omega) (by decide) hI hF hP hS (lv_sub hl [1, 2, 0] rfl)

abbrev WkX8_weigh : List (Nat × Nat × Option Nat) := [(17, 17, some 11), (17, 17, some 12), (24, 24, none)]
set_option maxHeartbeats 4000000 in
set_option maxRecDepth 100000 in
theorem kX8_weigh (l : Launch) (D : va_G) (ca : Nat → ClassId) (za h : Nat → Nat) (hh : sgH 52 h) (f : sg_F) (L : sg_L) (Q : sg_Q) (hI : sgI loX hiX f) (sz : Nat) : Met l yX8_weigh gwX8_weigh { frames := 0, cells := 0, slots := 0, locals := 0 } (sgP D vwCl (tyX ca) 52 h (eX ca h) zcX za f L Q sz [.ref (h 17)]) (sgQv D vwCl 52 h (eX ca h) sz (fun f1 L1 Q1 => ((sgI loX hiX f1 ∧ sgK WkX8_weigh f f1 ∧ L1 = L ∧ Q1 = Q) ∧ (f1) = sX8_weigh f L))) 0 0 (sgA 52 h sz) := by
  refine sg_ofWv (cc := cX8_weigh) (maxL := 3) RX8 (by decide) rfl rfl (Nat.le_of_ble_eq_true rfl) ?_
  intro p e s m below meth cd Qz ls hx hb hml hown hts hK hZ hP hS hl hret
  have hA := sgY.self (n := 52) (h := h) (sz := s.heap.size)
  have hl : lv_has ls 3 [(0, .ref (h 17))] := hl
  obtain ⟨H, hH⟩ : ∃ z : Heap, z = s.heap := ⟨_, rfl⟩
  obtain ⟨locs, hlo⟩ : ∃ z : List Loc, z = [] := ⟨_, rfl⟩
  have hP : va_P D vwCl (sgw 52 h (eX ca h) f L Q) H := by rw [hH]; exact hP
  have hS : va_S (sgA 52 h s.heap.size) s.heap H locs := by rw [hH, hlo]; exact hS
  suffices hgo : W p l e ({ frames := 0, cells := 0, slots := 0, locals := 0 }) s m ([.ref (h 17)] : List Value).toArray below meth cd H locs 0 0 Qz (F0 m 0 ls []) by rw [hH, hlo] at hgo; exact hgo
  clear hH hlo
  obtain ⟨sp, hsp⟩ : ∃ z : sg_F, z = sX8_weigh f L := ⟨_, rfl⟩
  have hs : sp = sX8_weigh f L := hsp
  have hF : sgK WkX8_weigh f f := sgK.rf
  have loop_57 : ∀ (n_57 : Nat) (y2_57 : Int32) (fp_57 : sg_F) (H : Heap) (locs : List Loc) (ls : Array Slot), sp = sX8_weigh_l57 n_57 y2_57 fp_57 L → 3 - y2_57.toInt < (n_57 : Int) → 1 ≤ (fp_57 17 12).toInt ∧ (fp_57 17 12).toInt ≤ 1 → 0 ≤ y2_57.toInt ∧ y2_57.toInt ≤ 3 → sgI loX hiX fp_57 → sgK WkX8_weigh f fp_57 → va_P D vwCl (sgw 52 h (eX ca h) fp_57 L Q) H → va_S (sgA 52 h s.heap.size) s.heap H locs → lv_has ls 3 [(0, .ref (h 17)), (2, .int y2_57)] → W p l e ({ frames := 0, cells := 0, slots := 0, locals := 0 }) s m ([.ref (h 17)] : List Value).toArray below meth cd H locs 0 0 Qz (F0 m 57 ls []) := by
    intro n_57
    induction n_57 with
    | zero => intro y2_57 fp_57 H locs ls hs hm_57 hy0_57 hy1_57 hI hF hP hS hl; exact absurd hm_57 (by omega)
    | succ n_57 ih_57 =>
      intro y2_57 fp_57 H locs ls hs hm_57 hy0_57 hy1_57 hI hF hP hS hl
      have hs : sp = sX8_weigh_h57 (sX8_weigh_l57 n_57) y2_57 fp_57 L := hs
      obtain ⟨v_1, ev_1⟩ : ∃ z : Int32, z = fp_57 17 12 := ⟨_, rfl⟩
      replace hs := hs.trans (spl_e ev_1 rfl)
      have q_2 : 0 ≤ v_1.toInt ∧ v_1.toInt ≤ 1 := by rw [ev_1]; exact hI 17 12
      have q_3 : (fp_57 17 12).toInt = v_1.toInt := by rw [ev_1]
      refine lv_iload_n hx hb dX8_weigh_57 rfl (lv_at hl 1 rfl) ?_
      refine lv_iconst (v := 3) hx hb dX8_weigh_58 ic_3 ?_
      refine lv_icmp_ge (tgt := 80) hx hb dX8_weigh_59 (by decide) (fun c => ?_) (fun c => ?_)
      · skip
        have c_4 : 3 ≤ y2_57.toInt := (by first | exact (cm_le0 ti_3 c) | (have z := bn_le c; have k1 : (3 : Int32).toInt = 3 := ti_3; omega))
        exact hret _ _ _ _ fp_57 L Q dX8_weigh_80 hP hS ⟨⟨hI, hF, rfl, rfl⟩, (Eq.trans (Eq.symm (hs.trans ((if_neg (Int.not_lt.mpr c_4)).trans rfl))) hsp)⟩
      · skip
        have c_5 : y2_57.toInt < 3 := (by first | exact (cm_nle0 ti_3 c) | (have z := bn_nle c; have k1 : (3 : Int32).toInt = 3 := ti_3; omega))
        refine lv_aload_n hx hb dX8_weigh_62 rfl (lv_at hl 0 rfl) ?_
        refine sl_gX_17_8_8 hx hb hts hown hK hP dX8_weigh_63 ?_
        refine lv_iload_n hx hb dX8_weigh_66 rfl (lv_at hl 1 rfl) ?_
        refine lv_aload_n hx hb dX8_weigh_67 rfl (lv_at hl 0 rfl) ?_
        refine sl_gX_17_7_8 hx hb hts hown hK hP dX8_weigh_68 ?_
        refine lv_iload_n hx hb dX8_weigh_71 rfl (lv_at hl 1 rfl) ?_
        refine sg_iald hx hb hK hP 23 (by decide) 0 rfl rfl (i := y2_57) (vp_in_iff.mpr ⟨by omega, by omega⟩) dX8_weigh_72 ?_
        refine lv_topi (fun v_6 ev_6 => ?_)
        have q_7 : 0 ≤ v_6.toInt ∧ v_6.toInt ≤ 255 := by rw [ev_6]; exact hI 23 _
        refine sg_iast hx hb hh hA hK hP hS 24 (by decide) 0 (fun _ => rfl) rfl (i := y2_57) (x := v_6) (vp_in_iff.mpr ⟨by omega, by omega⟩) dX8_weigh_73 (fun f_8 H locs ef_8 hP hS => ?_)
        have hI : sgI loX hiX f_8 := by rw [ef_8]; exact sgI.put hI 24 y2_57.toNatClampNeg (show 0 ≤ (v_6 : Int32).toInt ∧ (v_6 : Int32).toInt ≤ 255 from q_7)
        have hF : sgK WkX8_weigh f f_8 := sgK.put hF ef_8 (by rfl)
        obtain ⟨v_9, ev_9⟩ : ∃ z : Int32, z = y2_57 + 1 := ⟨_, rfl⟩
        have q_10 : v_9.toInt = y2_57.toInt + 1 := by rw [ev_9]; exact (bn_addc y2_57 1 (by decide) (by omega) (by omega))
        refine lv_iinc (v := v_9) (lv' := [(2, .int v_9), (0, .ref (h 17))]) hx hb dX8_weigh_74 hl (k := 1) rfl (by rw [ev_9]; rfl) (by decide) rfl (fun ls hl => ?_)
        refine lv_goto (tgt := 57) hx hb dX8_weigh_77 (by decide) ?_
        exact ih_57 v_9 f_8 _ _ _ (hs.trans ((if_pos c_5).trans (spl_e ev_6 (spl_e ef_8 (spl_e ev_9 rfl))))) (by omega) (by have zz17_12 : (f_8 17 12).toInt = v_1.toInt := (congrArg Int32.toInt (show f_8 17 12 = v_1 from (by rw [ef_8, sg_up_n (by decide)]; exact ev_1.symm))); exact ⟨by omega, by omega⟩) ⟨by omega, by omega⟩ hI hF hP hS (lv_sub hl [1, 0] rfl)
  have blk_45 : ∀ (y1_45 : Int32) (fp_45 : sg_F) (H : Heap) (locs : List Loc) (ls : Array Slot), sp = sX8_weigh_b45 y1_45 fp_45 L → sgI loX hiX fp_45 → sgK WkX8_weigh f fp_45 → va_P D vwCl (sgw 52 h (eX ca h) fp_45 L Q) H → va_S (sgA 52 h s.heap.size) s.heap H locs → lv_has ls 3 [(0, .ref (h 17)), (1, .int y1_45)] → W p l e ({ frames := 0, cells := 0, slots := 0, locals := 0 }) s m ([.ref (h 17)] : List Value).toArray below meth cd H locs 0 0 Qz (F0 m 45 ls []) := by
    intro y1_45 fp_45 H locs ls hs hI hF hP hS hl
    refine lv_aload_n hx hb dX8_weigh_45 rfl (lv_at hl 0 rfl) ?_
    refine lv_iconst (v := 1) hx hb dX8_weigh_46 ic_1 ?_
    refine sg_put (ci := 8) (x := 1) (ty := .boolean) (C := RX8) (T := TX8) (N := 13) hx hb hts (fun w h => List.mem_cons_of_mem _ (gx_8 w h)) tyX8 tyX8_ok nmX8 hown hh hA hK hP hS 17 (by decide) rfl rfl 12 (by decide) (hts _ (List.mem_cons_of_mem _ mw_425)) (fun _ h9 => h9) rfl rfl (by decide +kernel) (by decide) (by decide) (Nat.le_of_ble_eq_true rfl) dX8_weigh_47 (fun f_11 H locs ef_11 hP hS => ?_)
    have hI : sgI loX hiX f_11 := by rw [ef_11]; exact sgI.put hI 17 12 (show 0 ≤ (1 : Int32).toInt ∧ (1 : Int32).toInt ≤ 1 from by decide)
    have hF : sgK WkX8_weigh f f_11 := sgK.put hF ef_11 (by rfl)
    refine lv_aload_n hx hb dX8_weigh_50 rfl (lv_at hl 0 rfl) ?_
    refine lv_iload_n hx hb dX8_weigh_51 rfl (lv_at hl 1 rfl) ?_
    refine sl_pX_17_11_8 (x := y1_45) hx hb hts hown hh hA hK hP hS dX8_weigh_52 (fun f_12 H locs ef_12 hP hS => ?_)
    have hI : sgI loX hiX f_12 := by rw [ef_12]; exact sgI.put hI 17 11 (bn_top _)
    have hF : sgK WkX8_weigh f f_12 := sgK.put hF ef_12 (by rfl)
    refine lv_iconst (v := 0) hx hb dX8_weigh_55 ic_0 ?_
    refine lv_istore_n (lv' := [(2, .int 0), (0, .ref (h 17)), (1, .int y1_45)]) hx hb dX8_weigh_56 rfl hl (by decide) rfl (fun ls hl => ?_)
    exact loop_57 4 0 f_12 _ _ _ (hs.trans ((spl_e ef_11 (spl_e ef_12 rfl)))) (by have kc0 : (0 : Int32).toInt = 0 := ti_0; omega) (by have zz17_12 : (f_12 17 12).toInt = 1 := (congrArg Int32.toInt (show f_12 17 12 = 1 from (by rw [ef_12, sg_up_s, sgu_n (by decide)]; exact (by rw [ef_11, sg_up_s, sgu_s])))).trans (by decide); exact ⟨by omega, by omega⟩) (by decide) hI hF hP hS (lv_sub hl [1, 0] rfl)
  have loop_4 : ∀ (n_4 : Nat) (y1_4 : Int32) (y2_4 : Int32) (fp_4 : sg_F) (H : Heap) (locs : List Loc) (ls : Array Slot), sp = sX8_weigh_l4 n_4 y1_4 y2_4 fp_4 L → 3 - y2_4.toInt < (n_4 : Int) → 0 ≤ y2_4.toInt ∧ y2_4.toInt ≤ 3 → sgI loX hiX fp_4 → sgK WkX8_weigh f fp_4 → va_P D vwCl (sgw 52 h (eX ca h) fp_4 L Q) H → va_S (sgA 52 h s.heap.size) s.heap H locs → lv_has ls 3 [(0, .ref (h 17)), (1, .int y1_4), (2, .int y2_4)] → W p l e ({ frames := 0, cells := 0, slots := 0, locals := 0 }) s m ([.ref (h 17)] : List Value).toArray below meth cd H locs 0 0 Qz (F0 m 4 ls []) := by
    intro n_4
    induction n_4 with
    | zero => intro y1_4 y2_4 fp_4 H locs ls hs hm_4 hy0_4 hI hF hP hS hl; exact absurd hm_4 (by omega)
    | succ n_4 ih_4 =>
      intro y1_4 y2_4 fp_4 H locs ls hs hm_4 hy0_4 hI hF hP hS hl
      have hs : sp = sX8_weigh_h4 (sX8_weigh_l4 n_4) y1_4 y2_4 fp_4 L := hs
      refine lv_iload_n hx hb dX8_weigh_4 rfl (lv_at hl 2 rfl) ?_
      refine lv_iconst (v := 3) hx hb dX8_weigh_5 ic_3 ?_
      refine lv_icmp_ge (tgt := 29) hx hb dX8_weigh_6 (by decide) (fun c => ?_) (fun c => ?_)
      · skip
        have c_13 : 3 ≤ y2_4.toInt := (by first | exact (cm_le0 ti_3 c) | (have z := bn_le c; have k1 : (3 : Int32).toInt = 3 := ti_3; omega))
        refine lv_aload_n hx hb dX8_weigh_29 rfl (lv_at hl 0 rfl) ?_
        refine sl_gX_17_12_8 (v := (fp_4 17 12)) hx hb hts hown hK hP rfl dX8_weigh_30 ?_
        refine lv_topi (fun v_15 ev_15 => ?_)
        replace hs := hs.trans ((if_neg (Int.not_lt.mpr c_13)).trans (spl_e ev_15 rfl))
        have q_16 : 0 ≤ v_15.toInt ∧ v_15.toInt ≤ 1 := by rw [ev_15]; exact hI 17 12
        refine lv_if_eq (tgt := 45) hx hb dX8_weigh_33 (by decide) (fun c => ?_) (fun c => ?_)
        · skip
          have c_17 : v_15.toInt = 0 := (by first | exact (cm_eq1 ti_0 c) | (have z := Int32.toInt_inj.mpr c; have k1 : (0 : Int32).toInt = 0 := ti_0; omega))
          exact blk_45 y1_4 fp_4 _ _ _ (hs.trans ((if_pos c_17).trans rfl)) hI hF hP hS (lv_sub hl [0, 1] rfl)
        · skip
          have c_18 : v_15.toInt ≠ 0 := (by first | exact (cm_ne1 ti_0 c) | (have z := bn_ne c; have k1 : (0 : Int32).toInt = 0 := ti_0; omega))
          refine lv_iload_n hx hb dX8_weigh_36 rfl (lv_at hl 1 rfl) ?_
          refine lv_aload_n hx hb dX8_weigh_37 rfl (lv_at hl 0 rfl) ?_
          refine sl_gX_17_11_8 (v := (fp_4 17 11)) hx hb hts hown hK hP rfl dX8_weigh_38 ?_
          refine lv_topi (fun v_19 ev_19 => ?_)
          replace hs := hs.trans ((if_neg c_18).trans (spl_e ev_19 rfl))
          refine lv_icmp_lt (tgt := 45) hx hb dX8_weigh_41 (by decide) (fun c => ?_) (fun c => ?_)
          · skip
            have c_20 : y1_4.toInt < v_19.toInt := (by first | exact (bn_lt c) | (have z := bn_lt c; omega))
            exact blk_45 y1_4 fp_4 _ _ _ (hs.trans ((if_pos c_20).trans rfl)) hI hF hP hS (lv_sub hl [0, 1] rfl)
          · skip
            have c_21 : v_19.toInt ≤ y1_4.toInt := (by first | exact (bn_nlt c) | (have z := bn_nlt c; omega))
            exact hret _ _ _ _ fp_4 L Q dX8_weigh_44 hP hS ⟨⟨hI, hF, rfl, rfl⟩, (Eq.trans (Eq.symm (hs.trans ((if_neg (Int.not_lt.mpr c_21)).trans rfl))) hsp)⟩
      · skip
        have c_14 : y2_4.toInt < 3 := (by first | exact (cm_nle0 ti_3 c) | (have z := bn_nle c; have k1 : (3 : Int32).toInt = 3 := ti_3; omega))
        refine lv_iload_n hx hb dX8_weigh_9 rfl (lv_at hl 1 rfl) ?_
        refine lv_aload_n hx hb dX8_weigh_10 rfl (lv_at hl 0 rfl) ?_
        refine sl_gX_17_6_8 hx hb hts hown hK hP dX8_weigh_11 ?_
        refine lv_aload_n hx hb dX8_weigh_14 rfl (lv_at hl 0 rfl) ?_
        refine sl_gX_17_7_8 hx hb hts hown hK hP dX8_weigh_15 ?_
        refine lv_iload_n hx hb dX8_weigh_18 rfl (lv_at hl 2 rfl) ?_
        refine sg_iald hx hb hK hP 23 (by decide) 0 rfl rfl (i := y2_4) (vp_in_iff.mpr ⟨by omega, by omega⟩) dX8_weigh_19 ?_
        refine lv_topi (fun v_22 ev_22 => ?_)
        have q_23 : 0 ≤ v_22.toInt ∧ v_22.toInt ≤ 255 := by rw [ev_22]; exact hI 23 _
        refine sg_iald hx hb hK hP 22 (by decide) 0 rfl rfl (i := v_22) (vp_in_iff.mpr ⟨by omega, by omega⟩) dX8_weigh_20 ?_
        refine lv_topi (fun v_24 ev_24 => ?_)
        refine lv_iadd hx hb dX8_weigh_21 ?_
        refine lv_topi (fun v_25 ev_25 => ?_)
        refine lv_istore_n (lv' := [(1, .int v_25), (0, .ref (h 17)), (2, .int y2_4)]) hx hb dX8_weigh_22 rfl hl (by decide) rfl (fun ls hl => ?_)
        obtain ⟨v_26, ev_26⟩ : ∃ z : Int32, z = y2_4 + 1 := ⟨_, rfl⟩
        have q_27 : v_26.toInt = y2_4.toInt + 1 := by rw [ev_26]; exact (bn_addc y2_4 1 (by decide) (by omega) (by omega))
        refine lv_iinc (v := v_26) (lv' := [(2, .int v_26), (1, .int v_25), (0, .ref (h 17))]) hx hb dX8_weigh_23 hl (k := 2) rfl (by rw [ev_26]; rfl) (by decide) rfl (fun ls hl => ?_)
        refine lv_goto (tgt := 4) hx hb dX8_weigh_26 (by decide) ?_
        exact ih_4 v_25 v_26 fp_4 _ _ _ (hs.trans (((if_pos c_14).trans (spl_e ev_22 (spl_e ev_24 (spl_e ev_25 (spl_e ev_26 rfl))))))) (by omega) ⟨by omega, by omega⟩ hI hF hP hS (lv_sub hl [2, 1, 0] rfl)
  refine lv_iconst (v := 0) hx hb dX8_weigh_0 ic_0 ?_
  refine lv_istore_n (lv' := [(1, .int 0), (0, .ref (h 17))]) hx hb dX8_weigh_1 rfl hl (by decide) rfl (fun ls hl => ?_)
  refine lv_iconst (v := 0) hx hb dX8_weigh_2 ic_0 ?_
  refine lv_istore_n (lv' := [(2, .int 0), (1, .int 0), (0, .ref (h 17))]) hx hb dX8_weigh_3 rfl hl (by decide) rfl (fun ls hl => ?_)
  exact loop_4 4 0 0 f _ _ _ hs (by have kc0 : (0 : Int32).toInt = 0 := ti_0; have kc1 : (0 : Int32).toInt = 0 := ti_0; omega) (by decide) hI hF hP hS (lv_sub hl [2, 1, 0] rfl)

abbrev WkX8_part_8 : List (Nat × Nat × Option Nat) := [(17, 17, some 11), (17, 17, some 12), (24, 24, none)]
set_option maxHeartbeats 4000000 in
set_option maxRecDepth 100000 in
theorem kX8_part_8 (l : Launch) (D : va_G) (ca : Nat → ClassId) (za h : Nat → Nat) (hh : sgH 52 h) (f : sg_F) (L : sg_L) (Q : sg_Q) (hI : sgI loX hiX f) (sz : Nat) : Met l yX8_part gwX8_part { frames := 1, cells := 0, slots := 0, locals := 22 } (sgP D vwCl (tyX ca) 52 h (eX ca h) zcX za f L Q sz [.ref (h 17), .int 8]) (sgQv D vwCl 52 h (eX ca h) sz (fun f1 L1 Q1 => ((sgI loX hiX f1 ∧ sgK WkX8_part_8 f f1 ∧ L1 = L ∧ Q1 = Q) ∧ (f1) = sX8_part_8 f L))) 0 0 (sgA 52 h sz) := by
  refine sg_ofWv (cc := cX8_part) (maxL := 3) RX8 (by decide) rfl rfl (Nat.le_of_ble_eq_true rfl) ?_
  intro p e s m below meth cd Qz ls hx hb hml hown hts hK hZ hP hS hl hret
  have hA := sgY.self (n := 52) (h := h) (sz := s.heap.size)
  have hl : lv_has ls 3 [(0, .ref (h 17)), (1, .int 8)] := hl
  obtain ⟨H, hH⟩ : ∃ z : Heap, z = s.heap := ⟨_, rfl⟩
  obtain ⟨locs, hlo⟩ : ∃ z : List Loc, z = [] := ⟨_, rfl⟩
  have hP : va_P D vwCl (sgw 52 h (eX ca h) f L Q) H := by rw [hH]; exact hP
  have hS : va_S (sgA 52 h s.heap.size) s.heap H locs := by rw [hH, hlo]; exact hS
  suffices hgo : W p l e ({ frames := 1, cells := 0, slots := 0, locals := 22 }) s m ([.ref (h 17), .int 8] : List Value).toArray below meth cd H locs 0 0 Qz (F0 m 0 ls []) by rw [hH, hlo] at hgo; exact hgo
  clear hH hlo
  obtain ⟨sp, hsp⟩ : ∃ z : sg_F, z = sX8_part_8 f L := ⟨_, rfl⟩
  have hs : sp = sX8_part_8 f L := hsp
  have hF : sgK WkX8_part_8 f f := sgK.rf
  refine lv_iload_n hx hb dX8_part_0 rfl (lv_at hl 1 rfl) ?_
  refine lv_aload_n hx hb dX8_part_1 rfl (lv_at hl 0 rfl) ?_
  refine sl_gX_17_9_8 (v := (f 17 9)) hx hb hts hown hK hP rfl dX8_part_2 ?_
  refine lv_topi (fun v_1 ev_1 => ?_)
  have q_2 : 0 ≤ v_1.toInt ∧ v_1.toInt ≤ 8 := by rw [ev_1]; exact hI 17 9
  refine lv_icmp_lt (tgt := 13) hx hb dX8_part_5 (by decide) (fun c => ?_) (fun c => ?_)
  · skip
    exfalso; have c_3 : 8 < v_1.toInt := (by first | exact (cm_lt0 ti_8 c) | (have z := bn_lt c; have k0 : (8 : Int32).toInt = 8 := ti_8; omega)); omega
  · skip
    have c_4 : v_1.toInt ≤ 8 := (by first | exact (cm_nlt0 ti_8 c) | (have z := bn_nlt c; have k0 : (8 : Int32).toInt = 8 := ti_8; omega))
    refine lv_aload_n hx hb dX8_part_8 rfl (lv_at hl 0 rfl) ?_
    refine sg_callv (va_runV (As := []) (rest := []) ⟨hx, hb, hml, hown, hts⟩ (kX8_weigh l D ca za h hh f L Q hI H.size) (sl_c8_weigh_0_0_0_0_8 hts ⟨Nat.le_of_ble_eq_true rfl, Nat.le_of_ble_eq_true rfl⟩) (sl_vX_17 hA hK hP hS hZ) rfl rfl hl.1 rfl (lv_room (Nat.le_of_ble_eq_true rfl)) dX8_part_9 ⟨Nat.le_refl _, Nat.le_refl _⟩) hA hS (fun f_5 L_6 Q_7 H locs hq hP hS => ?_)
    obtain ⟨⟨hI, hk_f_5, eL9, eQ9⟩, u_8⟩ := hq
    rw [eL9, eQ9] at hP; clear eL9 eQ9
    have hF : sgK WkX8_part_8 f f_5 := sgK.tr hF hk_f_5 (by decide +kernel)
    exact hret _ _ _ _ f_5 L Q dX8_part_12 hP hS ⟨⟨hI, hF, rfl, rfl⟩, (Eq.trans (Eq.symm (hs.trans ((spl_e ev_1 (spl_e u_8 rfl))))) hsp)⟩

abbrev WkX8_part_7 : List (Nat × Nat × Option Nat) := [(17, 17, some 11), (17, 17, some 12), (23, 23, none), (24, 24, none)]
set_option maxHeartbeats 4000000 in
set_option maxRecDepth 100000 in
theorem kX8_part_7 (l : Launch) (D : va_G) (ca : Nat → ClassId) (za h : Nat → Nat) (hh : sgH 52 h) (f : sg_F) (L : sg_L) (Q : sg_Q) (hI : sgI loX hiX f) (sz : Nat) : Met l yX8_part gwX8_part { frames := 2, cells := 0, slots := 0, locals := 44 } (sgP D vwCl (tyX ca) 52 h (eX ca h) zcX za f L Q sz [.ref (h 17), .int 7]) (sgQv D vwCl 52 h (eX ca h) sz (fun f1 L1 Q1 => ((sgI loX hiX f1 ∧ sgK WkX8_part_7 f f1 ∧ L1 = L ∧ Q1 = Q) ∧ (f1) = sX8_part_7 f L))) 0 0 (sgA 52 h sz) := by
  refine sg_ofWv (cc := cX8_part) (maxL := 3) RX8 (by decide) rfl rfl (Nat.le_of_ble_eq_true rfl) ?_
  intro p e s m below meth cd Qz ls hx hb hml hown hts hK hZ hP hS hl hret
  have hA := sgY.self (n := 52) (h := h) (sz := s.heap.size)
  have hl : lv_has ls 3 [(0, .ref (h 17)), (1, .int 7)] := hl
  obtain ⟨H, hH⟩ : ∃ z : Heap, z = s.heap := ⟨_, rfl⟩
  obtain ⟨locs, hlo⟩ : ∃ z : List Loc, z = [] := ⟨_, rfl⟩
  have hP : va_P D vwCl (sgw 52 h (eX ca h) f L Q) H := by rw [hH]; exact hP
  have hS : va_S (sgA 52 h s.heap.size) s.heap H locs := by rw [hH, hlo]; exact hS
  suffices hgo : W p l e ({ frames := 2, cells := 0, slots := 0, locals := 44 }) s m ([.ref (h 17), .int 7] : List Value).toArray below meth cd H locs 0 0 Qz (F0 m 0 ls []) by rw [hH, hlo] at hgo; exact hgo
  clear hH hlo
  obtain ⟨sp, hsp⟩ : ∃ z : sg_F, z = sX8_part_7 f L := ⟨_, rfl⟩
  have hs : sp = sX8_part_7 f L := hsp
  have hF : sgK WkX8_part_7 f f := sgK.rf
  have loop_15 : ∀ (n_15 : Nat) (y2_15 : Int32) (fp_15 : sg_F) (H : Heap) (locs : List Loc) (ls : Array Slot), sp = sX8_part_7_l15 n_15 y2_15 fp_15 L → 3 - y2_15.toInt < (n_15 : Int) → 8 ≤ (fp_15 17 9).toInt ∧ (fp_15 17 9).toInt ≤ 8 → 0 ≤ y2_15.toInt ∧ y2_15.toInt ≤ 3 → sgI loX hiX fp_15 → sgK WkX8_part_7 f fp_15 → va_P D vwCl (sgw 52 h (eX ca h) fp_15 L Q) H → va_S (sgA 52 h s.heap.size) s.heap H locs → lv_has ls 3 [(0, .ref (h 17)), (1, .int 7), (2, .int y2_15)] → W p l e ({ frames := 2, cells := 0, slots := 0, locals := 44 }) s m ([.ref (h 17), .int 7] : List Value).toArray below meth cd H locs 0 0 Qz (F0 m 15 ls []) := by
    intro n_15
    induction n_15 with
    | zero => intro y2_15 fp_15 H locs ls hs hm_15 hy0_15 hy1_15 hI hF hP hS hl; exact absurd hm_15 (by omega)
    | succ n_15 ih_15 =>
      intro y2_15 fp_15 H locs ls hs hm_15 hy0_15 hy1_15 hI hF hP hS hl
      have hs : sp = sX8_part_7_h15 (sX8_part_7_l15 n_15) y2_15 fp_15 L := hs
      obtain ⟨v_1, ev_1⟩ : ∃ z : Int32, z = fp_15 17 9 := ⟨_, rfl⟩
      have q_2 : 0 ≤ v_1.toInt ∧ v_1.toInt ≤ 8 := by rw [ev_1]; exact hI 17 9
      have q_3 : (fp_15 17 9).toInt = v_1.toInt := by rw [ev_1]
      refine lv_iload_n hx hb dX8_part_15 rfl (lv_at hl 2 rfl) ?_
      refine lv_aload_n hx hb dX8_part_16 rfl (lv_at hl 0 rfl) ?_
      refine sl_gX_17_10_8 (v := (fp_15 17 10)) hx hb hts hown hK hP rfl dX8_part_17 ?_
      refine lv_topi (fun v_4 ev_4 => ?_)
      replace hs := hs.trans (spl_e ev_1 (spl_e ev_4 rfl))
      have q_5 : 0 ≤ v_4.toInt ∧ v_4.toInt ≤ 3 := by rw [ev_4]; exact hI 17 10
      refine lv_icmp_ge (tgt := 72) hx hb dX8_part_20 (by decide) (fun c => ?_) (fun c => ?_)
      · skip
        have c_6 : v_4.toInt ≤ y2_15.toInt := (by first | exact (bn_le c) | (have z := bn_le c; omega))
        exact hret _ _ _ _ fp_15 L Q dX8_part_72 hP hS ⟨⟨hI, hF, rfl, rfl⟩, (Eq.trans (Eq.symm (hs.trans ((if_neg (Int.not_lt.mpr c_6)).trans rfl))) hsp)⟩
      · skip
        have c_7 : y2_15.toInt < v_4.toInt := (by first | exact (bn_nle c) | (have z := bn_nle c; omega))
        refine lv_aload_n hx hb dX8_part_23 rfl (lv_at hl 0 rfl) ?_
        refine sl_gX_17_7_8 hx hb hts hown hK hP dX8_part_24 ?_
        refine lv_iload_n hx hb dX8_part_27 rfl (lv_at hl 2 rfl) ?_
        refine lv_dup2_11 hx hb dX8_part_28 rfl rfl ?_
        refine sg_iald hx hb hK hP 23 (by decide) 0 rfl rfl (i := y2_15) (vp_in_iff.mpr ⟨by omega, by omega⟩) dX8_part_29 ?_
        refine lv_topi (fun v_8 ev_8 => ?_)
        have q_9 : 0 ≤ v_8.toInt ∧ v_8.toInt ≤ 255 := by rw [ev_8]; exact hI 23 _
        refine lv_iconst (v := 1) hx hb dX8_part_30 ic_1 ?_
        refine lv_iload_n hx hb dX8_part_31 rfl (lv_at hl 1 rfl) ?_
        refine lv_ishl hx hb dX8_part_32 ?_
        refine W.eq (g2 := F0 m 33 ls [.int 128, .int v_8, .int y2_15, .ref (h 23)]) (by rw [show ((1 : Int32) <<< ((7 : Int32) &&& 31) : Int32) = 128 from by decide]) ?_
        refine lv_ior hx hb dX8_part_33 ?_
        refine lv_topi (fun v_10 ev_10 => ?_)
        have q_11 : 0 ≤ v_10.toInt ∧ v_10.toInt ≤ 255 := by rw [ev_10]; have k1 : (128 : Int32).toInt = 128 := ti_128; exact bn_or255 (x := v_8) (y := 128) (by omega) (by omega) (by omega) (by omega)
        refine sg_iast hx hb hh hA hK hP hS 23 (by decide) 0 (fun _ => rfl) rfl (i := y2_15) (x := v_10) (vp_in_iff.mpr ⟨by omega, by omega⟩) dX8_part_34 (fun f_12 H locs ef_12 hP hS => ?_)
        have hI : sgI loX hiX f_12 := by rw [ef_12]; exact sgI.put hI 23 y2_15.toNatClampNeg (show 0 ≤ (v_10 : Int32).toInt ∧ (v_10 : Int32).toInt ≤ 255 from q_11)
        have hF : sgK WkX8_part_7 f f_12 := sgK.put hF ef_12 (by rfl)
        refine lv_aload_n hx hb dX8_part_35 rfl (lv_at hl 0 rfl) ?_
        refine lv_iload_n hx hb dX8_part_36 rfl (lv_at hl 1 rfl) ?_
        refine lv_iconst (v := 1) hx hb dX8_part_37 ic_1 ?_
        refine lv_iadd hx hb dX8_part_38 ?_
        refine W.eq (g2 := F0 m 39 ls [.int 8, .ref (h 17)]) (by rw [show (7 + 1 : Int32) = 8 from by decide]) ?_
        refine sg_callv (va_runV (As := [.int 8]) (rest := []) ⟨hx, hb, hml, hown, hts⟩ (kX8_part_8 l D ca za h hh f_12 L Q hI H.size) (sl_c8_part_1_0_0_22_8 hts ⟨Nat.le_of_ble_eq_true rfl, Nat.le_of_ble_eq_true rfl⟩) (sl_vX_17 hA hK hP hS hZ) rfl rfl hl.1 rfl (lv_room (Nat.le_of_ble_eq_true rfl)) dX8_part_39 ⟨Nat.le_refl _, Nat.le_refl _⟩) hA hS (fun f_13 L_14 Q_15 H locs hq hP hS => ?_)
        obtain ⟨⟨hI, hk_f_13, eL9, eQ9⟩, u_16⟩ := hq
        rw [eL9, eQ9] at hP; clear eL9 eQ9
        have hF : sgK WkX8_part_7 f f_13 := sgK.tr hF hk_f_13 (by decide +kernel)
        refine lv_aload_n hx hb dX8_part_42 rfl (lv_at hl 0 rfl) ?_
        refine sl_gX_17_7_8 hx hb hts hown hK hP dX8_part_43 ?_
        refine lv_iload_n hx hb dX8_part_46 rfl (lv_at hl 2 rfl) ?_
        refine lv_dup2_11 hx hb dX8_part_47 rfl rfl ?_
        refine sg_iald hx hb hK hP 23 (by decide) 0 rfl rfl (i := y2_15) (vp_in_iff.mpr ⟨by omega, by omega⟩) dX8_part_48 ?_
        refine lv_topi (fun v_17 ev_17 => ?_)
        have q_18 : 0 ≤ v_17.toInt ∧ v_17.toInt ≤ 255 := by rw [ev_17]; exact hI 23 _
        refine lv_iconst (v := 1) hx hb dX8_part_49 ic_1 ?_
        refine lv_iload_n hx hb dX8_part_50 rfl (lv_at hl 1 rfl) ?_
        refine lv_ishl hx hb dX8_part_51 ?_
        refine W.eq (g2 := F0 m 52 ls [.int 128, .int v_17, .int y2_15, .ref (h 23)]) (by rw [show ((1 : Int32) <<< ((7 : Int32) &&& 31) : Int32) = 128 from by decide]) ?_
        refine lv_iconst (v := (-1)) hx hb dX8_part_52 ic_m1 ?_
        refine lv_ixor hx hb dX8_part_53 ?_
        refine W.eq (g2 := F0 m 54 ls [.int (-129), .int v_17, .int y2_15, .ref (h 23)]) (by rw [show (128 ^^^ (-1) : Int32) = (-129) from by decide]) ?_
        refine lv_iand hx hb dX8_part_54 ?_
        refine lv_topi (fun v_19 ev_19 => ?_)
        have q_20 : 0 ≤ v_19.toInt ∧ v_19.toInt ≤ 255 := by rw [ev_19]; exact bn_and255 (x := v_17) (y := (-129)) (by omega) (by omega)
        refine sg_iast hx hb hh hA hK hP hS 23 (by decide) 0 (fun _ => rfl) rfl (i := y2_15) (x := v_19) (vp_in_iff.mpr ⟨by omega, by omega⟩) dX8_part_55 (fun f_21 H locs ef_21 hP hS => ?_)
        replace hs := hs.trans ((if_pos c_7).trans (spl_e ev_8 (spl_e ev_10 (spl_e ef_12 (spl_e u_16 (spl_e ev_17 (spl_e ev_19 (spl_e ef_21 rfl))))))))
        have hI : sgI loX hiX f_21 := by rw [ef_21]; exact sgI.put hI 23 y2_15.toNatClampNeg (show 0 ≤ (v_19 : Int32).toInt ∧ (v_19 : Int32).toInt ≤ 255 from q_20)
        have hF : sgK WkX8_part_7 f f_21 := sgK.put hF ef_21 (by rfl)
        refine lv_aload_n hx hb dX8_part_56 rfl (lv_at hl 0 rfl) ?_
        refine sl_gX_17_7_8 hx hb hts hown hK hP dX8_part_57 ?_
        refine lv_iload_n hx hb dX8_part_60 rfl (lv_at hl 2 rfl) ?_
        refine sg_iald hx hb hK hP 23 (by decide) 0 rfl rfl (i := y2_15) (vp_in_iff.mpr ⟨by omega, by omega⟩) dX8_part_61 ?_
        refine W.eq (g2 := F0 m 62 ls [.int v_19]) (by rw [show f_21 23 (Int32.toNatClampNeg y2_15) = v_19 from (by rw [ef_21, sg_up_s, sgu_s])]) ?_
        refine lv_if_ne (tgt := 66) hx hb dX8_part_62 (by decide) (fun c => ?_) (fun c => ?_)
        · skip
          have c_22 : v_19.toInt ≠ 0 := (by first | exact (cm_ne1 ti_0 c) | (have z := bn_ne c; have k1 : (0 : Int32).toInt = 0 := ti_0; omega))
          obtain ⟨v_24, ev_24⟩ : ∃ z : Int32, z = y2_15 + 1 := ⟨_, rfl⟩
          have q_25 : v_24.toInt = y2_15.toInt + 1 := by rw [ev_24]; exact (bn_addc y2_15 1 (by decide) (by omega) (by omega))
          refine lv_iinc (v := v_24) (lv' := [(2, .int v_24), (0, .ref (h 17)), (1, .int 7)]) hx hb dX8_part_66 hl (k := 2) rfl (by rw [ev_24]; rfl) (by decide) rfl (fun ls hl => ?_)
          refine lv_goto (tgt := 15) hx hb dX8_part_69 (by decide) ?_
          exact ih_15 v_24 f_21 _ _ _ (hs.trans ((if_neg c_22).trans (spl_e ev_24 rfl))) (by omega) (by have zz17_9 : (f_21 17 9).toInt = v_1.toInt := (congrArg Int32.toInt (show f_21 17 9 = v_1 from (by rw [ef_21, sg_up_n (by decide)]; exact ((hk_f_13 17 9 (by decide)).trans (by rw [ef_12, sg_up_n (by decide)]; exact ev_1.symm))))); exact ⟨by omega, by omega⟩) ⟨by omega, by omega⟩ hI hF hP hS (lv_sub hl [1, 2, 0] rfl)
        · skip
          have c_23 : v_19.toInt = 0 := (by first | exact (cm_eq1 ti_0 c) | (have z := Int32.toInt_inj.mpr c; have k1 : (0 : Int32).toInt = 0 := ti_0; omega))
          exact hret _ _ _ _ f_21 L Q dX8_part_65 hP hS ⟨⟨hI, hF, rfl, rfl⟩, (Eq.trans (Eq.symm (hs.trans ((if_pos c_23).trans rfl))) hsp)⟩
  refine lv_iload_n hx hb dX8_part_0 rfl (lv_at hl 1 rfl) ?_
  refine lv_aload_n hx hb dX8_part_1 rfl (lv_at hl 0 rfl) ?_
  refine sl_gX_17_9_8 (v := (f 17 9)) hx hb hts hown hK hP rfl dX8_part_2 ?_
  refine lv_topi (fun v_26 ev_26 => ?_)
  replace hs := hs.trans (spl_e ev_26 rfl)
  have q_27 : 0 ≤ v_26.toInt ∧ v_26.toInt ≤ 8 := by rw [ev_26]; exact hI 17 9
  refine lv_icmp_lt (tgt := 13) hx hb dX8_part_5 (by decide) (fun c => ?_) (fun c => ?_)
  · skip
    have c_28 : 7 < v_26.toInt := (by first | exact (cm_lt0 ti_7 c) | (have z := bn_lt c; have k0 : (7 : Int32).toInt = 7 := ti_7; omega))
    refine lv_iconst (v := 0) hx hb dX8_part_13 ic_0 ?_
    refine lv_istore_n (lv' := [(2, .int 0), (0, .ref (h 17)), (1, .int 7)]) hx hb dX8_part_14 rfl hl (by decide) rfl (fun ls hl => ?_)
    exact loop_15 4 0 f _ _ _ (hs.trans ((if_pos c_28).trans rfl)) (by have kc0 : (0 : Int32).toInt = 0 := ti_0; omega) (by have zz17_9 : (f 17 9).toInt = v_26.toInt := (congrArg Int32.toInt (show f 17 9 = v_26 from ev_26.symm)); exact ⟨by omega, by omega⟩) (by decide) hI hF hP hS (lv_sub hl [1, 2, 0] rfl)
  · skip
    have c_29 : v_26.toInt ≤ 7 := (by first | exact (cm_nlt0 ti_7 c) | (have z := bn_nlt c; have k0 : (7 : Int32).toInt = 7 := ti_7; omega))
    refine lv_aload_n hx hb dX8_part_8 rfl (lv_at hl 0 rfl) ?_
    refine sg_callv (va_runV (As := []) (rest := []) ⟨hx, hb, hml, hown, hts⟩ (kX8_weigh l D ca za h hh f L Q hI H.size) (sl_c8_weigh_0_0_0_0_8 hts ⟨Nat.le_of_ble_eq_true rfl, Nat.le_of_ble_eq_true rfl⟩) (sl_vX_17 hA hK hP hS hZ) rfl rfl hl.1 rfl (lv_room (Nat.le_of_ble_eq_true rfl)) dX8_part_9 ⟨Nat.le_refl _, Nat.le_refl _⟩) hA hS (fun f_30 L_31 Q_32 H locs hq hP hS => ?_)
    obtain ⟨⟨hI, hk_f_30, eL9, eQ9⟩, u_33⟩ := hq
    rw [eL9, eQ9] at hP; clear eL9 eQ9
    have hF : sgK WkX8_part_7 f f_30 := sgK.tr hF hk_f_30 (by decide +kernel)
    exact hret _ _ _ _ f_30 L Q dX8_part_12 hP hS ⟨⟨hI, hF, rfl, rfl⟩, (Eq.trans (Eq.symm (hs.trans ((if_neg (Int.not_lt.mpr c_29)).trans (spl_e u_33 rfl)))) hsp)⟩

abbrev WkX8_part_6 : List (Nat × Nat × Option Nat) := [(17, 17, some 11), (17, 17, some 12), (23, 23, none), (24, 24, none)]
set_option maxHeartbeats 4000000 in
set_option maxRecDepth 100000 in
theorem kX8_part_6 (l : Launch) (D : va_G) (ca : Nat → ClassId) (za h : Nat → Nat) (hh : sgH 52 h) (f : sg_F) (L : sg_L) (Q : sg_Q) (hI : sgI loX hiX f) (sz : Nat) : Met l yX8_part gwX8_part { frames := 3, cells := 0, slots := 0, locals := 66 } (sgP D vwCl (tyX ca) 52 h (eX ca h) zcX za f L Q sz [.ref (h 17), .int 6]) (sgQv D vwCl 52 h (eX ca h) sz (fun f1 L1 Q1 => ((sgI loX hiX f1 ∧ sgK WkX8_part_6 f f1 ∧ L1 = L ∧ Q1 = Q) ∧ (f1) = sX8_part_6 f L))) 0 0 (sgA 52 h sz) := by
  refine sg_ofWv (cc := cX8_part) (maxL := 3) RX8 (by decide) rfl rfl (Nat.le_of_ble_eq_true rfl) ?_
  intro p e s m below meth cd Qz ls hx hb hml hown hts hK hZ hP hS hl hret
  have hA := sgY.self (n := 52) (h := h) (sz := s.heap.size)
  have hl : lv_has ls 3 [(0, .ref (h 17)), (1, .int 6)] := hl
  obtain ⟨H, hH⟩ : ∃ z : Heap, z = s.heap := ⟨_, rfl⟩
  obtain ⟨locs, hlo⟩ : ∃ z : List Loc, z = [] := ⟨_, rfl⟩
  have hP : va_P D vwCl (sgw 52 h (eX ca h) f L Q) H := by rw [hH]; exact hP
  have hS : va_S (sgA 52 h s.heap.size) s.heap H locs := by rw [hH, hlo]; exact hS
  suffices hgo : W p l e ({ frames := 3, cells := 0, slots := 0, locals := 66 }) s m ([.ref (h 17), .int 6] : List Value).toArray below meth cd H locs 0 0 Qz (F0 m 0 ls []) by rw [hH, hlo] at hgo; exact hgo
  clear hH hlo
  obtain ⟨sp, hsp⟩ : ∃ z : sg_F, z = sX8_part_6 f L := ⟨_, rfl⟩
  have hs : sp = sX8_part_6 f L := hsp
  have hF : sgK WkX8_part_6 f f := sgK.rf
  have loop_15 : ∀ (n_15 : Nat) (y2_15 : Int32) (fp_15 : sg_F) (H : Heap) (locs : List Loc) (ls : Array Slot), sp = sX8_part_6_l15 n_15 y2_15 fp_15 L → 3 - y2_15.toInt < (n_15 : Int) → 7 ≤ (fp_15 17 9).toInt ∧ (fp_15 17 9).toInt ≤ 8 → 0 ≤ y2_15.toInt ∧ y2_15.toInt ≤ 3 → sgI loX hiX fp_15 → sgK WkX8_part_6 f fp_15 → va_P D vwCl (sgw 52 h (eX ca h) fp_15 L Q) H → va_S (sgA 52 h s.heap.size) s.heap H locs → lv_has ls 3 [(0, .ref (h 17)), (1, .int 6), (2, .int y2_15)] → W p l e ({ frames := 3, cells := 0, slots := 0, locals := 66 }) s m ([.ref (h 17), .int 6] : List Value).toArray below meth cd H locs 0 0 Qz (F0 m 15 ls []) := by
    intro n_15
    induction n_15 with
    | zero => intro y2_15 fp_15 H locs ls hs hm_15 hy0_15 hy1_15 hI hF hP hS hl; exact absurd hm_15 (by omega)
    | succ n_15 ih_15 =>
      intro y2_15 fp_15 H locs ls hs hm_15 hy0_15 hy1_15 hI hF hP hS hl
      have hs : sp = sX8_part_6_h15 (sX8_part_6_l15 n_15) y2_15 fp_15 L := hs
      obtain ⟨v_1, ev_1⟩ : ∃ z : Int32, z = fp_15 17 9 := ⟨_, rfl⟩
      have q_2 : 0 ≤ v_1.toInt ∧ v_1.toInt ≤ 8 := by rw [ev_1]; exact hI 17 9
      have q_3 : (fp_15 17 9).toInt = v_1.toInt := by rw [ev_1]
      refine lv_iload_n hx hb dX8_part_15 rfl (lv_at hl 2 rfl) ?_
      refine lv_aload_n hx hb dX8_part_16 rfl (lv_at hl 0 rfl) ?_
      refine sl_gX_17_10_8 (v := (fp_15 17 10)) hx hb hts hown hK hP rfl dX8_part_17 ?_
      refine lv_topi (fun v_4 ev_4 => ?_)
      replace hs := hs.trans (spl_e ev_1 (spl_e ev_4 rfl))
      have q_5 : 0 ≤ v_4.toInt ∧ v_4.toInt ≤ 3 := by rw [ev_4]; exact hI 17 10
      refine lv_icmp_ge (tgt := 72) hx hb dX8_part_20 (by decide) (fun c => ?_) (fun c => ?_)
      · skip
        have c_6 : v_4.toInt ≤ y2_15.toInt := (by first | exact (bn_le c) | (have z := bn_le c; omega))
        exact hret _ _ _ _ fp_15 L Q dX8_part_72 hP hS ⟨⟨hI, hF, rfl, rfl⟩, (Eq.trans (Eq.symm (hs.trans ((if_neg (Int.not_lt.mpr c_6)).trans rfl))) hsp)⟩
      · skip
        have c_7 : y2_15.toInt < v_4.toInt := (by first | exact (bn_nle c) | (have z := bn_nle c; omega))
        refine lv_aload_n hx hb dX8_part_23 rfl (lv_at hl 0 rfl) ?_
        refine sl_gX_17_7_8 hx hb hts hown hK hP dX8_part_24 ?_
        refine lv_iload_n hx hb dX8_part_27 rfl (lv_at hl 2 rfl) ?_
        refine lv_dup2_11 hx hb dX8_part_28 rfl rfl ?_
        refine sg_iald hx hb hK hP 23 (by decide) 0 rfl rfl (i := y2_15) (vp_in_iff.mpr ⟨by omega, by omega⟩) dX8_part_29 ?_
        refine lv_topi (fun v_8 ev_8 => ?_)
        have q_9 : 0 ≤ v_8.toInt ∧ v_8.toInt ≤ 255 := by rw [ev_8]; exact hI 23 _
        refine lv_iconst (v := 1) hx hb dX8_part_30 ic_1 ?_
        refine lv_iload_n hx hb dX8_part_31 rfl (lv_at hl 1 rfl) ?_
        refine lv_ishl hx hb dX8_part_32 ?_
        refine W.eq (g2 := F0 m 33 ls [.int 64, .int v_8, .int y2_15, .ref (h 23)]) (by rw [show ((1 : Int32) <<< ((6 : Int32) &&& 31) : Int32) = 64 from by decide]) ?_
        refine lv_ior hx hb dX8_part_33 ?_
        refine lv_topi (fun v_10 ev_10 => ?_)
        have q_11 : 0 ≤ v_10.toInt ∧ v_10.toInt ≤ 255 := by rw [ev_10]; have k1 : (64 : Int32).toInt = 64 := ti_64; exact bn_or255 (x := v_8) (y := 64) (by omega) (by omega) (by omega) (by omega)
        refine sg_iast hx hb hh hA hK hP hS 23 (by decide) 0 (fun _ => rfl) rfl (i := y2_15) (x := v_10) (vp_in_iff.mpr ⟨by omega, by omega⟩) dX8_part_34 (fun f_12 H locs ef_12 hP hS => ?_)
        have hI : sgI loX hiX f_12 := by rw [ef_12]; exact sgI.put hI 23 y2_15.toNatClampNeg (show 0 ≤ (v_10 : Int32).toInt ∧ (v_10 : Int32).toInt ≤ 255 from q_11)
        have hF : sgK WkX8_part_6 f f_12 := sgK.put hF ef_12 (by rfl)
        refine lv_aload_n hx hb dX8_part_35 rfl (lv_at hl 0 rfl) ?_
        refine lv_iload_n hx hb dX8_part_36 rfl (lv_at hl 1 rfl) ?_
        refine lv_iconst (v := 1) hx hb dX8_part_37 ic_1 ?_
        refine lv_iadd hx hb dX8_part_38 ?_
        refine W.eq (g2 := F0 m 39 ls [.int 7, .ref (h 17)]) (by rw [show (6 + 1 : Int32) = 7 from by decide]) ?_
        refine sg_callv (va_runV (As := [.int 7]) (rest := []) ⟨hx, hb, hml, hown, hts⟩ (kX8_part_7 l D ca za h hh f_12 L Q hI H.size) (sl_c8_part_2_0_0_44_8 hts ⟨Nat.le_of_ble_eq_true rfl, Nat.le_of_ble_eq_true rfl⟩) (sl_vX_17 hA hK hP hS hZ) rfl rfl hl.1 rfl (lv_room (Nat.le_of_ble_eq_true rfl)) dX8_part_39 ⟨Nat.le_refl _, Nat.le_refl _⟩) hA hS (fun f_13 L_14 Q_15 H locs hq hP hS => ?_)
        obtain ⟨⟨hI, hk_f_13, eL9, eQ9⟩, u_16⟩ := hq
        rw [eL9, eQ9] at hP; clear eL9 eQ9
        have hF : sgK WkX8_part_6 f f_13 := sgK.tr hF hk_f_13 (by decide +kernel)
        refine lv_aload_n hx hb dX8_part_42 rfl (lv_at hl 0 rfl) ?_
        refine sl_gX_17_7_8 hx hb hts hown hK hP dX8_part_43 ?_
        refine lv_iload_n hx hb dX8_part_46 rfl (lv_at hl 2 rfl) ?_
        refine lv_dup2_11 hx hb dX8_part_47 rfl rfl ?_
        refine sg_iald hx hb hK hP 23 (by decide) 0 rfl rfl (i := y2_15) (vp_in_iff.mpr ⟨by omega, by omega⟩) dX8_part_48 ?_
        refine lv_topi (fun v_17 ev_17 => ?_)
        have q_18 : 0 ≤ v_17.toInt ∧ v_17.toInt ≤ 255 := by rw [ev_17]; exact hI 23 _
        refine lv_iconst (v := 1) hx hb dX8_part_49 ic_1 ?_
        refine lv_iload_n hx hb dX8_part_50 rfl (lv_at hl 1 rfl) ?_
        refine lv_ishl hx hb dX8_part_51 ?_
        refine W.eq (g2 := F0 m 52 ls [.int 64, .int v_17, .int y2_15, .ref (h 23)]) (by rw [show ((1 : Int32) <<< ((6 : Int32) &&& 31) : Int32) = 64 from by decide]) ?_
        refine lv_iconst (v := (-1)) hx hb dX8_part_52 ic_m1 ?_
        refine lv_ixor hx hb dX8_part_53 ?_
        refine W.eq (g2 := F0 m 54 ls [.int (-65), .int v_17, .int y2_15, .ref (h 23)]) (by rw [show (64 ^^^ (-1) : Int32) = (-65) from by decide]) ?_
        refine lv_iand hx hb dX8_part_54 ?_
        refine lv_topi (fun v_19 ev_19 => ?_)
        have q_20 : 0 ≤ v_19.toInt ∧ v_19.toInt ≤ 255 := by rw [ev_19]; exact bn_and255 (x := v_17) (y := (-65)) (by omega) (by omega)
        refine sg_iast hx hb hh hA hK hP hS 23 (by decide) 0 (fun _ => rfl) rfl (i := y2_15) (x := v_19) (vp_in_iff.mpr ⟨by omega, by omega⟩) dX8_part_55 (fun f_21 H locs ef_21 hP hS => ?_)
        replace hs := hs.trans ((if_pos c_7).trans (spl_e ev_8 (spl_e ev_10 (spl_e ef_12 (spl_e u_16 (spl_e ev_17 (spl_e ev_19 (spl_e ef_21 rfl))))))))
        have hI : sgI loX hiX f_21 := by rw [ef_21]; exact sgI.put hI 23 y2_15.toNatClampNeg (show 0 ≤ (v_19 : Int32).toInt ∧ (v_19 : Int32).toInt ≤ 255 from q_20)
        have hF : sgK WkX8_part_6 f f_21 := sgK.put hF ef_21 (by rfl)
        refine lv_aload_n hx hb dX8_part_56 rfl (lv_at hl 0 rfl) ?_
        refine sl_gX_17_7_8 hx hb hts hown hK hP dX8_part_57 ?_
        refine lv_iload_n hx hb dX8_part_60 rfl (lv_at hl 2 rfl) ?_
        refine sg_iald hx hb hK hP 23 (by decide) 0 rfl rfl (i := y2_15) (vp_in_iff.mpr ⟨by omega, by omega⟩) dX8_part_61 ?_
        refine W.eq (g2 := F0 m 62 ls [.int v_19]) (by rw [show f_21 23 (Int32.toNatClampNeg y2_15) = v_19 from (by rw [ef_21, sg_up_s, sgu_s])]) ?_
        refine lv_if_ne (tgt := 66) hx hb dX8_part_62 (by decide) (fun c => ?_) (fun c => ?_)
        · skip
          have c_22 : v_19.toInt ≠ 0 := (by first | exact (cm_ne1 ti_0 c) | (have z := bn_ne c; have k1 : (0 : Int32).toInt = 0 := ti_0; omega))
          obtain ⟨v_24, ev_24⟩ : ∃ z : Int32, z = y2_15 + 1 := ⟨_, rfl⟩
          have q_25 : v_24.toInt = y2_15.toInt + 1 := by rw [ev_24]; exact (bn_addc y2_15 1 (by decide) (by omega) (by omega))
          refine lv_iinc (v := v_24) (lv' := [(2, .int v_24), (0, .ref (h 17)), (1, .int 6)]) hx hb dX8_part_66 hl (k := 2) rfl (by rw [ev_24]; rfl) (by decide) rfl (fun ls hl => ?_)
          refine lv_goto (tgt := 15) hx hb dX8_part_69 (by decide) ?_
          exact ih_15 v_24 f_21 _ _ _ (hs.trans ((if_neg c_22).trans (spl_e ev_24 rfl))) (by omega) (by have zz17_9 : (f_21 17 9).toInt = v_1.toInt := (congrArg Int32.toInt (show f_21 17 9 = v_1 from (by rw [ef_21, sg_up_n (by decide)]; exact ((hk_f_13 17 9 (by decide)).trans (by rw [ef_12, sg_up_n (by decide)]; exact ev_1.symm))))); exact ⟨by omega, by omega⟩) ⟨by omega, by omega⟩ hI hF hP hS (lv_sub hl [1, 2, 0] rfl)
        · skip
          have c_23 : v_19.toInt = 0 := (by first | exact (cm_eq1 ti_0 c) | (have z := Int32.toInt_inj.mpr c; have k1 : (0 : Int32).toInt = 0 := ti_0; omega))
          exact hret _ _ _ _ f_21 L Q dX8_part_65 hP hS ⟨⟨hI, hF, rfl, rfl⟩, (Eq.trans (Eq.symm (hs.trans ((if_pos c_23).trans rfl))) hsp)⟩
  refine lv_iload_n hx hb dX8_part_0 rfl (lv_at hl 1 rfl) ?_
  refine lv_aload_n hx hb dX8_part_1 rfl (lv_at hl 0 rfl) ?_
  refine sl_gX_17_9_8 (v := (f 17 9)) hx hb hts hown hK hP rfl dX8_part_2 ?_
  refine lv_topi (fun v_26 ev_26 => ?_)
  replace hs := hs.trans (spl_e ev_26 rfl)
  have q_27 : 0 ≤ v_26.toInt ∧ v_26.toInt ≤ 8 := by rw [ev_26]; exact hI 17 9
  refine lv_icmp_lt (tgt := 13) hx hb dX8_part_5 (by decide) (fun c => ?_) (fun c => ?_)
  · skip
    have c_28 : 6 < v_26.toInt := (by first | exact (cm_lt0 ti_6 c) | (have z := bn_lt c; have k0 : (6 : Int32).toInt = 6 := ti_6; omega))
    refine lv_iconst (v := 0) hx hb dX8_part_13 ic_0 ?_
    refine lv_istore_n (lv' := [(2, .int 0), (0, .ref (h 17)), (1, .int 6)]) hx hb dX8_part_14 rfl hl (by decide) rfl (fun ls hl => ?_)
    exact loop_15 4 0 f _ _ _ (hs.trans ((if_pos c_28).trans rfl)) (by have kc0 : (0 : Int32).toInt = 0 := ti_0; omega) (by have zz17_9 : (f 17 9).toInt = v_26.toInt := (congrArg Int32.toInt (show f 17 9 = v_26 from ev_26.symm)); exact ⟨by omega, by omega⟩) (by decide) hI hF hP hS (lv_sub hl [1, 2, 0] rfl)
  · skip
    have c_29 : v_26.toInt ≤ 6 := (by first | exact (cm_nlt0 ti_6 c) | (have z := bn_nlt c; have k0 : (6 : Int32).toInt = 6 := ti_6; omega))
    refine lv_aload_n hx hb dX8_part_8 rfl (lv_at hl 0 rfl) ?_
    refine sg_callv (va_runV (As := []) (rest := []) ⟨hx, hb, hml, hown, hts⟩ (kX8_weigh l D ca za h hh f L Q hI H.size) (sl_c8_weigh_0_0_0_0_8 hts ⟨Nat.le_of_ble_eq_true rfl, Nat.le_of_ble_eq_true rfl⟩) (sl_vX_17 hA hK hP hS hZ) rfl rfl hl.1 rfl (lv_room (Nat.le_of_ble_eq_true rfl)) dX8_part_9 ⟨Nat.le_refl _, Nat.le_refl _⟩) hA hS (fun f_30 L_31 Q_32 H locs hq hP hS => ?_)
    obtain ⟨⟨hI, hk_f_30, eL9, eQ9⟩, u_33⟩ := hq
    rw [eL9, eQ9] at hP; clear eL9 eQ9
    have hF : sgK WkX8_part_6 f f_30 := sgK.tr hF hk_f_30 (by decide +kernel)
    exact hret _ _ _ _ f_30 L Q dX8_part_12 hP hS ⟨⟨hI, hF, rfl, rfl⟩, (Eq.trans (Eq.symm (hs.trans ((if_neg (Int.not_lt.mpr c_29)).trans (spl_e u_33 rfl)))) hsp)⟩

abbrev WkX8_part_5 : List (Nat × Nat × Option Nat) := [(17, 17, some 11), (17, 17, some 12), (23, 23, none), (24, 24, none)]
set_option maxHeartbeats 4000000 in
set_option maxRecDepth 100000 in
theorem kX8_part_5 (l : Launch) (D : va_G) (ca : Nat → ClassId) (za h : Nat → Nat) (hh : sgH 52 h) (f : sg_F) (L : sg_L) (Q : sg_Q) (hI : sgI loX hiX f) (sz : Nat) : Met l yX8_part gwX8_part { frames := 4, cells := 0, slots := 0, locals := 88 } (sgP D vwCl (tyX ca) 52 h (eX ca h) zcX za f L Q sz [.ref (h 17), .int 5]) (sgQv D vwCl 52 h (eX ca h) sz (fun f1 L1 Q1 => ((sgI loX hiX f1 ∧ sgK WkX8_part_5 f f1 ∧ L1 = L ∧ Q1 = Q) ∧ (f1) = sX8_part_5 f L))) 0 0 (sgA 52 h sz) := by
  refine sg_ofWv (cc := cX8_part) (maxL := 3) RX8 (by decide) rfl rfl (Nat.le_of_ble_eq_true rfl) ?_
  intro p e s m below meth cd Qz ls hx hb hml hown hts hK hZ hP hS hl hret
  have hA := sgY.self (n := 52) (h := h) (sz := s.heap.size)
  have hl : lv_has ls 3 [(0, .ref (h 17)), (1, .int 5)] := hl
  obtain ⟨H, hH⟩ : ∃ z : Heap, z = s.heap := ⟨_, rfl⟩
  obtain ⟨locs, hlo⟩ : ∃ z : List Loc, z = [] := ⟨_, rfl⟩
  have hP : va_P D vwCl (sgw 52 h (eX ca h) f L Q) H := by rw [hH]; exact hP
  have hS : va_S (sgA 52 h s.heap.size) s.heap H locs := by rw [hH, hlo]; exact hS
  suffices hgo : W p l e ({ frames := 4, cells := 0, slots := 0, locals := 88 }) s m ([.ref (h 17), .int 5] : List Value).toArray below meth cd H locs 0 0 Qz (F0 m 0 ls []) by rw [hH, hlo] at hgo; exact hgo
  clear hH hlo
  obtain ⟨sp, hsp⟩ : ∃ z : sg_F, z = sX8_part_5 f L := ⟨_, rfl⟩
  have hs : sp = sX8_part_5 f L := hsp
  have hF : sgK WkX8_part_5 f f := sgK.rf
  have loop_15 : ∀ (n_15 : Nat) (y2_15 : Int32) (fp_15 : sg_F) (H : Heap) (locs : List Loc) (ls : Array Slot), sp = sX8_part_5_l15 n_15 y2_15 fp_15 L → 3 - y2_15.toInt < (n_15 : Int) → 6 ≤ (fp_15 17 9).toInt ∧ (fp_15 17 9).toInt ≤ 8 → 0 ≤ y2_15.toInt ∧ y2_15.toInt ≤ 3 → sgI loX hiX fp_15 → sgK WkX8_part_5 f fp_15 → va_P D vwCl (sgw 52 h (eX ca h) fp_15 L Q) H → va_S (sgA 52 h s.heap.size) s.heap H locs → lv_has ls 3 [(0, .ref (h 17)), (1, .int 5), (2, .int y2_15)] → W p l e ({ frames := 4, cells := 0, slots := 0, locals := 88 }) s m ([.ref (h 17), .int 5] : List Value).toArray below meth cd H locs 0 0 Qz (F0 m 15 ls []) := by
    intro n_15
    induction n_15 with
    | zero => intro y2_15 fp_15 H locs ls hs hm_15 hy0_15 hy1_15 hI hF hP hS hl; exact absurd hm_15 (by omega)
    | succ n_15 ih_15 =>
      intro y2_15 fp_15 H locs ls hs hm_15 hy0_15 hy1_15 hI hF hP hS hl
      have hs : sp = sX8_part_5_h15 (sX8_part_5_l15 n_15) y2_15 fp_15 L := hs
      obtain ⟨v_1, ev_1⟩ : ∃ z : Int32, z = fp_15 17 9 := ⟨_, rfl⟩
      have q_2 : 0 ≤ v_1.toInt ∧ v_1.toInt ≤ 8 := by rw [ev_1]; exact hI 17 9
      have q_3 : (fp_15 17 9).toInt = v_1.toInt := by rw [ev_1]
      refine lv_iload_n hx hb dX8_part_15 rfl (lv_at hl 2 rfl) ?_
      refine lv_aload_n hx hb dX8_part_16 rfl (lv_at hl 0 rfl) ?_
      refine sl_gX_17_10_8 (v := (fp_15 17 10)) hx hb hts hown hK hP rfl dX8_part_17 ?_
      refine lv_topi (fun v_4 ev_4 => ?_)
      replace hs := hs.trans (spl_e ev_1 (spl_e ev_4 rfl))
      have q_5 : 0 ≤ v_4.toInt ∧ v_4.toInt ≤ 3 := by rw [ev_4]; exact hI 17 10
      refine lv_icmp_ge (tgt := 72) hx hb dX8_part_20 (by decide) (fun c => ?_) (fun c => ?_)
      · skip
        have c_6 : v_4.toInt ≤ y2_15.toInt := (by first | exact (bn_le c) | (have z := bn_le c; omega))
        exact hret _ _ _ _ fp_15 L Q dX8_part_72 hP hS ⟨⟨hI, hF, rfl, rfl⟩, (Eq.trans (Eq.symm (hs.trans ((if_neg (Int.not_lt.mpr c_6)).trans rfl))) hsp)⟩
      · skip
        have c_7 : y2_15.toInt < v_4.toInt := (by first | exact (bn_nle c) | (have z := bn_nle c; omega))
        refine lv_aload_n hx hb dX8_part_23 rfl (lv_at hl 0 rfl) ?_
        refine sl_gX_17_7_8 hx hb hts hown hK hP dX8_part_24 ?_
        refine lv_iload_n hx hb dX8_part_27 rfl (lv_at hl 2 rfl) ?_
        refine lv_dup2_11 hx hb dX8_part_28 rfl rfl ?_
        refine sg_iald hx hb hK hP 23 (by decide) 0 rfl rfl (i := y2_15) (vp_in_iff.mpr ⟨by omega, by omega⟩) dX8_part_29 ?_
        refine lv_topi (fun v_8 ev_8 => ?_)
        have q_9 : 0 ≤ v_8.toInt ∧ v_8.toInt ≤ 255 := by rw [ev_8]; exact hI 23 _
        refine lv_iconst (v := 1) hx hb dX8_part_30 ic_1 ?_
        refine lv_iload_n hx hb dX8_part_31 rfl (lv_at hl 1 rfl) ?_
        refine lv_ishl hx hb dX8_part_32 ?_
        refine W.eq (g2 := F0 m 33 ls [.int 32, .int v_8, .int y2_15, .ref (h 23)]) (by rw [show ((1 : Int32) <<< ((5 : Int32) &&& 31) : Int32) = 32 from by decide]) ?_
        refine lv_ior hx hb dX8_part_33 ?_
        refine lv_topi (fun v_10 ev_10 => ?_)
        have q_11 : 0 ≤ v_10.toInt ∧ v_10.toInt ≤ 255 := by rw [ev_10]; have k1 : (32 : Int32).toInt = 32 := ti_32; exact bn_or255 (x := v_8) (y := 32) (by omega) (by omega) (by omega) (by omega)
        refine sg_iast hx hb hh hA hK hP hS 23 (by decide) 0 (fun _ => rfl) rfl (i := y2_15) (x := v_10) (vp_in_iff.mpr ⟨by omega, by omega⟩) dX8_part_34 (fun f_12 H locs ef_12 hP hS => ?_)
        have hI : sgI loX hiX f_12 := by rw [ef_12]; exact sgI.put hI 23 y2_15.toNatClampNeg (show 0 ≤ (v_10 : Int32).toInt ∧ (v_10 : Int32).toInt ≤ 255 from q_11)
        have hF : sgK WkX8_part_5 f f_12 := sgK.put hF ef_12 (by rfl)
        refine lv_aload_n hx hb dX8_part_35 rfl (lv_at hl 0 rfl) ?_
        refine lv_iload_n hx hb dX8_part_36 rfl (lv_at hl 1 rfl) ?_
        refine lv_iconst (v := 1) hx hb dX8_part_37 ic_1 ?_
        refine lv_iadd hx hb dX8_part_38 ?_
        refine W.eq (g2 := F0 m 39 ls [.int 6, .ref (h 17)]) (by rw [show (5 + 1 : Int32) = 6 from by decide]) ?_
        refine sg_callv (va_runV (As := [.int 6]) (rest := []) ⟨hx, hb, hml, hown, hts⟩ (kX8_part_6 l D ca za h hh f_12 L Q hI H.size) (sl_c8_part_3_0_0_66_8 hts ⟨Nat.le_of_ble_eq_true rfl, Nat.le_of_ble_eq_true rfl⟩) (sl_vX_17 hA hK hP hS hZ) rfl rfl hl.1 rfl (lv_room (Nat.le_of_ble_eq_true rfl)) dX8_part_39 ⟨Nat.le_refl _, Nat.le_refl _⟩) hA hS (fun f_13 L_14 Q_15 H locs hq hP hS => ?_)
        obtain ⟨⟨hI, hk_f_13, eL9, eQ9⟩, u_16⟩ := hq
        rw [eL9, eQ9] at hP; clear eL9 eQ9
        have hF : sgK WkX8_part_5 f f_13 := sgK.tr hF hk_f_13 (by decide +kernel)
        refine lv_aload_n hx hb dX8_part_42 rfl (lv_at hl 0 rfl) ?_
        refine sl_gX_17_7_8 hx hb hts hown hK hP dX8_part_43 ?_
        refine lv_iload_n hx hb dX8_part_46 rfl (lv_at hl 2 rfl) ?_
        refine lv_dup2_11 hx hb dX8_part_47 rfl rfl ?_
        refine sg_iald hx hb hK hP 23 (by decide) 0 rfl rfl (i := y2_15) (vp_in_iff.mpr ⟨by omega, by omega⟩) dX8_part_48 ?_
        refine lv_topi (fun v_17 ev_17 => ?_)
        have q_18 : 0 ≤ v_17.toInt ∧ v_17.toInt ≤ 255 := by rw [ev_17]; exact hI 23 _
        refine lv_iconst (v := 1) hx hb dX8_part_49 ic_1 ?_
        refine lv_iload_n hx hb dX8_part_50 rfl (lv_at hl 1 rfl) ?_
        refine lv_ishl hx hb dX8_part_51 ?_
        refine W.eq (g2 := F0 m 52 ls [.int 32, .int v_17, .int y2_15, .ref (h 23)]) (by rw [show ((1 : Int32) <<< ((5 : Int32) &&& 31) : Int32) = 32 from by decide]) ?_
        refine lv_iconst (v := (-1)) hx hb dX8_part_52 ic_m1 ?_
        refine lv_ixor hx hb dX8_part_53 ?_
        refine W.eq (g2 := F0 m 54 ls [.int (-33), .int v_17, .int y2_15, .ref (h 23)]) (by rw [show (32 ^^^ (-1) : Int32) = (-33) from by decide]) ?_
        refine lv_iand hx hb dX8_part_54 ?_
        refine lv_topi (fun v_19 ev_19 => ?_)
        have q_20 : 0 ≤ v_19.toInt ∧ v_19.toInt ≤ 255 := by rw [ev_19]; exact bn_and255 (x := v_17) (y := (-33)) (by omega) (by omega)
        refine sg_iast hx hb hh hA hK hP hS 23 (by decide) 0 (fun _ => rfl) rfl (i := y2_15) (x := v_19) (vp_in_iff.mpr ⟨by omega, by omega⟩) dX8_part_55 (fun f_21 H locs ef_21 hP hS => ?_)
        replace hs := hs.trans ((if_pos c_7).trans (spl_e ev_8 (spl_e ev_10 (spl_e ef_12 (spl_e u_16 (spl_e ev_17 (spl_e ev_19 (spl_e ef_21 rfl))))))))
        have hI : sgI loX hiX f_21 := by rw [ef_21]; exact sgI.put hI 23 y2_15.toNatClampNeg (show 0 ≤ (v_19 : Int32).toInt ∧ (v_19 : Int32).toInt ≤ 255 from q_20)
        have hF : sgK WkX8_part_5 f f_21 := sgK.put hF ef_21 (by rfl)
        refine lv_aload_n hx hb dX8_part_56 rfl (lv_at hl 0 rfl) ?_
        refine sl_gX_17_7_8 hx hb hts hown hK hP dX8_part_57 ?_
        refine lv_iload_n hx hb dX8_part_60 rfl (lv_at hl 2 rfl) ?_
        refine sg_iald hx hb hK hP 23 (by decide) 0 rfl rfl (i := y2_15) (vp_in_iff.mpr ⟨by omega, by omega⟩) dX8_part_61 ?_
        refine W.eq (g2 := F0 m 62 ls [.int v_19]) (by rw [show f_21 23 (Int32.toNatClampNeg y2_15) = v_19 from (by rw [ef_21, sg_up_s, sgu_s])]) ?_
        refine lv_if_ne (tgt := 66) hx hb dX8_part_62 (by decide) (fun c => ?_) (fun c => ?_)
        · skip
          have c_22 : v_19.toInt ≠ 0 := (by first | exact (cm_ne1 ti_0 c) | (have z := bn_ne c; have k1 : (0 : Int32).toInt = 0 := ti_0; omega))
          obtain ⟨v_24, ev_24⟩ : ∃ z : Int32, z = y2_15 + 1 := ⟨_, rfl⟩
          have q_25 : v_24.toInt = y2_15.toInt + 1 := by rw [ev_24]; exact (bn_addc y2_15 1 (by decide) (by omega) (by omega))
          refine lv_iinc (v := v_24) (lv' := [(2, .int v_24), (0, .ref (h 17)), (1, .int 5)]) hx hb dX8_part_66 hl (k := 2) rfl (by rw [ev_24]; rfl) (by decide) rfl (fun ls hl => ?_)
          refine lv_goto (tgt := 15) hx hb dX8_part_69 (by decide) ?_
          exact ih_15 v_24 f_21 _ _ _ (hs.trans ((if_neg c_22).trans (spl_e ev_24 rfl))) (by omega) (by have zz17_9 : (f_21 17 9).toInt = v_1.toInt := (congrArg Int32.toInt (show f_21 17 9 = v_1 from (by rw [ef_21, sg_up_n (by decide)]; exact ((hk_f_13 17 9 (by decide)).trans (by rw [ef_12, sg_up_n (by decide)]; exact ev_1.symm))))); exact ⟨by omega, by omega⟩) ⟨by omega, by omega⟩ hI hF hP hS (lv_sub hl [1, 2, 0] rfl)
        · skip
          have c_23 : v_19.toInt = 0 := (by first | exact (cm_eq1 ti_0 c) | (have z := Int32.toInt_inj.mpr c; have k1 : (0 : Int32).toInt = 0 := ti_0; omega))
          exact hret _ _ _ _ f_21 L Q dX8_part_65 hP hS ⟨⟨hI, hF, rfl, rfl⟩, (Eq.trans (Eq.symm (hs.trans ((if_pos c_23).trans rfl))) hsp)⟩
  refine lv_iload_n hx hb dX8_part_0 rfl (lv_at hl 1 rfl) ?_
  refine lv_aload_n hx hb dX8_part_1 rfl (lv_at hl 0 rfl) ?_
  refine sl_gX_17_9_8 (v := (f 17 9)) hx hb hts hown hK hP rfl dX8_part_2 ?_
  refine lv_topi (fun v_26 ev_26 => ?_)
  replace hs := hs.trans (spl_e ev_26 rfl)
  have q_27 : 0 ≤ v_26.toInt ∧ v_26.toInt ≤ 8 := by rw [ev_26]; exact hI 17 9
  refine lv_icmp_lt (tgt := 13) hx hb dX8_part_5 (by decide) (fun c => ?_) (fun c => ?_)
  · skip
    have c_28 : 5 < v_26.toInt := (by first | exact (cm_lt0 ti_5 c) | (have z := bn_lt c; have k0 : (5 : Int32).toInt = 5 := ti_5; omega))
    refine lv_iconst (v := 0) hx hb dX8_part_13 ic_0 ?_
    refine lv_istore_n (lv' := [(2, .int 0), (0, .ref (h 17)), (1, .int 5)]) hx hb dX8_part_14 rfl hl (by decide) rfl (fun ls hl => ?_)
    exact loop_15 4 0 f _ _ _ (hs.trans ((if_pos c_28).trans rfl)) (by have kc0 : (0 : Int32).toInt = 0 := ti_0; omega) (by have zz17_9 : (f 17 9).toInt = v_26.toInt := (congrArg Int32.toInt (show f 17 9 = v_26 from ev_26.symm)); exact ⟨by omega, by omega⟩) (by decide) hI hF hP hS (lv_sub hl [1, 2, 0] rfl)
  · skip
    have c_29 : v_26.toInt ≤ 5 := (by first | exact (cm_nlt0 ti_5 c) | (have z := bn_nlt c; have k0 : (5 : Int32).toInt = 5 := ti_5; omega))
    refine lv_aload_n hx hb dX8_part_8 rfl (lv_at hl 0 rfl) ?_
    refine sg_callv (va_runV (As := []) (rest := []) ⟨hx, hb, hml, hown, hts⟩ (kX8_weigh l D ca za h hh f L Q hI H.size) (sl_c8_weigh_0_0_0_0_8 hts ⟨Nat.le_of_ble_eq_true rfl, Nat.le_of_ble_eq_true rfl⟩) (sl_vX_17 hA hK hP hS hZ) rfl rfl hl.1 rfl (lv_room (Nat.le_of_ble_eq_true rfl)) dX8_part_9 ⟨Nat.le_refl _, Nat.le_refl _⟩) hA hS (fun f_30 L_31 Q_32 H locs hq hP hS => ?_)
    obtain ⟨⟨hI, hk_f_30, eL9, eQ9⟩, u_33⟩ := hq
    rw [eL9, eQ9] at hP; clear eL9 eQ9
    have hF : sgK WkX8_part_5 f f_30 := sgK.tr hF hk_f_30 (by decide +kernel)
    exact hret _ _ _ _ f_30 L Q dX8_part_12 hP hS ⟨⟨hI, hF, rfl, rfl⟩, (Eq.trans (Eq.symm (hs.trans ((if_neg (Int.not_lt.mpr c_29)).trans (spl_e u_33 rfl)))) hsp)⟩

abbrev WkX8_part_4 : List (Nat × Nat × Option Nat) := [(17, 17, some 11), (17, 17, some 12), (23, 23, none), (24, 24, none)]
set_option maxHeartbeats 4000000 in
set_option maxRecDepth 100000 in
theorem kX8_part_4 (l : Launch) (D : va_G) (ca : Nat → ClassId) (za h : Nat → Nat) (hh : sgH 52 h) (f : sg_F) (L : sg_L) (Q : sg_Q) (hI : sgI loX hiX f) (sz : Nat) : Met l yX8_part gwX8_part { frames := 5, cells := 0, slots := 0, locals := 110 } (sgP D vwCl (tyX ca) 52 h (eX ca h) zcX za f L Q sz [.ref (h 17), .int 4]) (sgQv D vwCl 52 h (eX ca h) sz (fun f1 L1 Q1 => ((sgI loX hiX f1 ∧ sgK WkX8_part_4 f f1 ∧ L1 = L ∧ Q1 = Q) ∧ (f1) = sX8_part_4 f L))) 0 0 (sgA 52 h sz) := by
  refine sg_ofWv (cc := cX8_part) (maxL := 3) RX8 (by decide) rfl rfl (Nat.le_of_ble_eq_true rfl) ?_
  intro p e s m below meth cd Qz ls hx hb hml hown hts hK hZ hP hS hl hret
  have hA := sgY.self (n := 52) (h := h) (sz := s.heap.size)
  have hl : lv_has ls 3 [(0, .ref (h 17)), (1, .int 4)] := hl
  obtain ⟨H, hH⟩ : ∃ z : Heap, z = s.heap := ⟨_, rfl⟩
  obtain ⟨locs, hlo⟩ : ∃ z : List Loc, z = [] := ⟨_, rfl⟩
  have hP : va_P D vwCl (sgw 52 h (eX ca h) f L Q) H := by rw [hH]; exact hP
  have hS : va_S (sgA 52 h s.heap.size) s.heap H locs := by rw [hH, hlo]; exact hS
  suffices hgo : W p l e ({ frames := 5, cells := 0, slots := 0, locals := 110 }) s m ([.ref (h 17), .int 4] : List Value).toArray below meth cd H locs 0 0 Qz (F0 m 0 ls []) by rw [hH, hlo] at hgo; exact hgo
  clear hH hlo
  obtain ⟨sp, hsp⟩ : ∃ z : sg_F, z = sX8_part_4 f L := ⟨_, rfl⟩
  have hs : sp = sX8_part_4 f L := hsp
  have hF : sgK WkX8_part_4 f f := sgK.rf
  have loop_15 : ∀ (n_15 : Nat) (y2_15 : Int32) (fp_15 : sg_F) (H : Heap) (locs : List Loc) (ls : Array Slot), sp = sX8_part_4_l15 n_15 y2_15 fp_15 L → 3 - y2_15.toInt < (n_15 : Int) → 5 ≤ (fp_15 17 9).toInt ∧ (fp_15 17 9).toInt ≤ 8 → 0 ≤ y2_15.toInt ∧ y2_15.toInt ≤ 3 → sgI loX hiX fp_15 → sgK WkX8_part_4 f fp_15 → va_P D vwCl (sgw 52 h (eX ca h) fp_15 L Q) H → va_S (sgA 52 h s.heap.size) s.heap H locs → lv_has ls 3 [(0, .ref (h 17)), (1, .int 4), (2, .int y2_15)] → W p l e ({ frames := 5, cells := 0, slots := 0, locals := 110 }) s m ([.ref (h 17), .int 4] : List Value).toArray below meth cd H locs 0 0 Qz (F0 m 15 ls []) := by
    intro n_15
    induction n_15 with
    | zero => intro y2_15 fp_15 H locs ls hs hm_15 hy0_15 hy1_15 hI hF hP hS hl; exact absurd hm_15 (by omega)
    | succ n_15 ih_15 =>
      intro y2_15 fp_15 H locs ls hs hm_15 hy0_15 hy1_15 hI hF hP hS hl
      have hs : sp = sX8_part_4_h15 (sX8_part_4_l15 n_15) y2_15 fp_15 L := hs
      obtain ⟨v_1, ev_1⟩ : ∃ z : Int32, z = fp_15 17 9 := ⟨_, rfl⟩
      have q_2 : 0 ≤ v_1.toInt ∧ v_1.toInt ≤ 8 := by rw [ev_1]; exact hI 17 9
      have q_3 : (fp_15 17 9).toInt = v_1.toInt := by rw [ev_1]
      refine lv_iload_n hx hb dX8_part_15 rfl (lv_at hl 2 rfl) ?_
      refine lv_aload_n hx hb dX8_part_16 rfl (lv_at hl 0 rfl) ?_
      refine sl_gX_17_10_8 (v := (fp_15 17 10)) hx hb hts hown hK hP rfl dX8_part_17 ?_
      refine lv_topi (fun v_4 ev_4 => ?_)
      replace hs := hs.trans (spl_e ev_1 (spl_e ev_4 rfl))
      have q_5 : 0 ≤ v_4.toInt ∧ v_4.toInt ≤ 3 := by rw [ev_4]; exact hI 17 10
      refine lv_icmp_ge (tgt := 72) hx hb dX8_part_20 (by decide) (fun c => ?_) (fun c => ?_)
      · skip
        have c_6 : v_4.toInt ≤ y2_15.toInt := (by first | exact (bn_le c) | (have z := bn_le c; omega))
        exact hret _ _ _ _ fp_15 L Q dX8_part_72 hP hS ⟨⟨hI, hF, rfl, rfl⟩, (Eq.trans (Eq.symm (hs.trans ((if_neg (Int.not_lt.mpr c_6)).trans rfl))) hsp)⟩
      · skip
        have c_7 : y2_15.toInt < v_4.toInt := (by first | exact (bn_nle c) | (have z := bn_nle c; omega))
        refine lv_aload_n hx hb dX8_part_23 rfl (lv_at hl 0 rfl) ?_
        refine sl_gX_17_7_8 hx hb hts hown hK hP dX8_part_24 ?_
        refine lv_iload_n hx hb dX8_part_27 rfl (lv_at hl 2 rfl) ?_
        refine lv_dup2_11 hx hb dX8_part_28 rfl rfl ?_
        refine sg_iald hx hb hK hP 23 (by decide) 0 rfl rfl (i := y2_15) (vp_in_iff.mpr ⟨by omega, by omega⟩) dX8_part_29 ?_
        refine lv_topi (fun v_8 ev_8 => ?_)
        have q_9 : 0 ≤ v_8.toInt ∧ v_8.toInt ≤ 255 := by rw [ev_8]; exact hI 23 _
        refine lv_iconst (v := 1) hx hb dX8_part_30 ic_1 ?_
        refine lv_iload_n hx hb dX8_part_31 rfl (lv_at hl 1 rfl) ?_
        refine lv_ishl hx hb dX8_part_32 ?_
        refine W.eq (g2 := F0 m 33 ls [.int 16, .int v_8, .int y2_15, .ref (h 23)]) (by rw [show ((1 : Int32) <<< ((4 : Int32) &&& 31) : Int32) = 16 from by decide]) ?_
        refine lv_ior hx hb dX8_part_33 ?_
        refine lv_topi (fun v_10 ev_10 => ?_)
        have q_11 : 0 ≤ v_10.toInt ∧ v_10.toInt ≤ 255 := by rw [ev_10]; have k1 : (16 : Int32).toInt = 16 := ti_16; exact bn_or255 (x := v_8) (y := 16) (by omega) (by omega) (by omega) (by omega)
        refine sg_iast hx hb hh hA hK hP hS 23 (by decide) 0 (fun _ => rfl) rfl (i := y2_15) (x := v_10) (vp_in_iff.mpr ⟨by omega, by omega⟩) dX8_part_34 (fun f_12 H locs ef_12 hP hS => ?_)
        have hI : sgI loX hiX f_12 := by rw [ef_12]; exact sgI.put hI 23 y2_15.toNatClampNeg (show 0 ≤ (v_10 : Int32).toInt ∧ (v_10 : Int32).toInt ≤ 255 from q_11)
        have hF : sgK WkX8_part_4 f f_12 := sgK.put hF ef_12 (by rfl)
        refine lv_aload_n hx hb dX8_part_35 rfl (lv_at hl 0 rfl) ?_
        refine lv_iload_n hx hb dX8_part_36 rfl (lv_at hl 1 rfl) ?_
        refine lv_iconst (v := 1) hx hb dX8_part_37 ic_1 ?_
        refine lv_iadd hx hb dX8_part_38 ?_
        refine W.eq (g2 := F0 m 39 ls [.int 5, .ref (h 17)]) (by rw [show (4 + 1 : Int32) = 5 from by decide]) ?_
        refine sg_callv (va_runV (As := [.int 5]) (rest := []) ⟨hx, hb, hml, hown, hts⟩ (kX8_part_5 l D ca za h hh f_12 L Q hI H.size) (sl_c8_part_4_0_0_88_8 hts ⟨Nat.le_of_ble_eq_true rfl, Nat.le_of_ble_eq_true rfl⟩) (sl_vX_17 hA hK hP hS hZ) rfl rfl hl.1 rfl (lv_room (Nat.le_of_ble_eq_true rfl)) dX8_part_39 ⟨Nat.le_refl _, Nat.le_refl _⟩) hA hS (fun f_13 L_14 Q_15 H locs hq hP hS => ?_)
        obtain ⟨⟨hI, hk_f_13, eL9, eQ9⟩, u_16⟩ := hq
        rw [eL9, eQ9] at hP; clear eL9 eQ9
        have hF : sgK WkX8_part_4 f f_13 := sgK.tr hF hk_f_13 (by decide +kernel)
        refine lv_aload_n hx hb dX8_part_42 rfl (lv_at hl 0 rfl) ?_
        refine sl_gX_17_7_8 hx hb hts hown hK hP dX8_part_43 ?_
        refine lv_iload_n hx hb dX8_part_46 rfl (lv_at hl 2 rfl) ?_
        refine lv_dup2_11 hx hb dX8_part_47 rfl rfl ?_
        refine sg_iald hx hb hK hP 23 (by decide) 0 rfl rfl (i := y2_15) (vp_in_iff.mpr ⟨by omega, by omega⟩) dX8_part_48 ?_
        refine lv_topi (fun v_17 ev_17 => ?_)
        have q_18 : 0 ≤ v_17.toInt ∧ v_17.toInt ≤ 255 := by rw [ev_17]; exact hI 23 _
        refine lv_iconst (v := 1) hx hb dX8_part_49 ic_1 ?_
        refine lv_iload_n hx hb dX8_part_50 rfl (lv_at hl 1 rfl) ?_
        refine lv_ishl hx hb dX8_part_51 ?_
        refine W.eq (g2 := F0 m 52 ls [.int 16, .int v_17, .int y2_15, .ref (h 23)]) (by rw [show ((1 : Int32) <<< ((4 : Int32) &&& 31) : Int32) = 16 from by decide]) ?_
        refine lv_iconst (v := (-1)) hx hb dX8_part_52 ic_m1 ?_
        refine lv_ixor hx hb dX8_part_53 ?_
        refine W.eq (g2 := F0 m 54 ls [.int (-17), .int v_17, .int y2_15, .ref (h 23)]) (by rw [show (16 ^^^ (-1) : Int32) = (-17) from by decide]) ?_
        refine lv_iand hx hb dX8_part_54 ?_
        refine lv_topi (fun v_19 ev_19 => ?_)
        have q_20 : 0 ≤ v_19.toInt ∧ v_19.toInt ≤ 255 := by rw [ev_19]; exact bn_and255 (x := v_17) (y := (-17)) (by omega) (by omega)
        refine sg_iast hx hb hh hA hK hP hS 23 (by decide) 0 (fun _ => rfl) rfl (i := y2_15) (x := v_19) (vp_in_iff.mpr ⟨by omega, by omega⟩) dX8_part_55 (fun f_21 H locs ef_21 hP hS => ?_)
        replace hs := hs.trans ((if_pos c_7).trans (spl_e ev_8 (spl_e ev_10 (spl_e ef_12 (spl_e u_16 (spl_e ev_17 (spl_e ev_19 (spl_e ef_21 rfl))))))))
        have hI : sgI loX hiX f_21 := by rw [ef_21]; exact sgI.put hI 23 y2_15.toNatClampNeg (show 0 ≤ (v_19 : Int32).toInt ∧ (v_19 : Int32).toInt ≤ 255 from q_20)
        have hF : sgK WkX8_part_4 f f_21 := sgK.put hF ef_21 (by rfl)
        refine lv_aload_n hx hb dX8_part_56 rfl (lv_at hl 0 rfl) ?_
        refine sl_gX_17_7_8 hx hb hts hown hK hP dX8_part_57 ?_
        refine lv_iload_n hx hb dX8_part_60 rfl (lv_at hl 2 rfl) ?_
        refine sg_iald hx hb hK hP 23 (by decide) 0 rfl rfl (i := y2_15) (vp_in_iff.mpr ⟨by omega, by omega⟩) dX8_part_61 ?_
        refine W.eq (g2 := F0 m 62 ls [.int v_19]) (by rw [show f_21 23 (Int32.toNatClampNeg y2_15) = v_19 from (by rw [ef_21, sg_up_s, sgu_s])]) ?_
        refine lv_if_ne (tgt := 66) hx hb dX8_part_62 (by decide) (fun c => ?_) (fun c => ?_)
        · skip
          have c_22 : v_19.toInt ≠ 0 := (by first | exact (cm_ne1 ti_0 c) | (have z := bn_ne c; have k1 : (0 : Int32).toInt = 0 := ti_0; omega))
          obtain ⟨v_24, ev_24⟩ : ∃ z : Int32, z = y2_15 + 1 := ⟨_, rfl⟩
          have q_25 : v_24.toInt = y2_15.toInt + 1 := by rw [ev_24]; exact (bn_addc y2_15 1 (by decide) (by omega) (by omega))
          refine lv_iinc (v := v_24) (lv' := [(2, .int v_24), (0, .ref (h 17)), (1, .int 4)]) hx hb dX8_part_66 hl (k := 2) rfl (by rw [ev_24]; rfl) (by decide) rfl (fun ls hl => ?_)
          refine lv_goto (tgt := 15) hx hb dX8_part_69 (by decide) ?_
          exact ih_15 v_24 f_21 _ _ _ (hs.trans ((if_neg c_22).trans (spl_e ev_24 rfl))) (by omega) (by have zz17_9 : (f_21 17 9).toInt = v_1.toInt := (congrArg Int32.toInt (show f_21 17 9 = v_1 from (by rw [ef_21, sg_up_n (by decide)]; exact ((hk_f_13 17 9 (by decide)).trans (by rw [ef_12, sg_up_n (by decide)]; exact ev_1.symm))))); exact ⟨by omega, by omega⟩) ⟨by omega, by omega⟩ hI hF hP hS (lv_sub hl [1, 2, 0] rfl)
        · skip
          have c_23 : v_19.toInt = 0 := (by first | exact (cm_eq1 ti_0 c) | (have z := Int32.toInt_inj.mpr c; have k1 : (0 : Int32).toInt = 0 := ti_0; omega))
          exact hret _ _ _ _ f_21 L Q dX8_part_65 hP hS ⟨⟨hI, hF, rfl, rfl⟩, (Eq.trans (Eq.symm (hs.trans ((if_pos c_23).trans rfl))) hsp)⟩
  refine lv_iload_n hx hb dX8_part_0 rfl (lv_at hl 1 rfl) ?_
  refine lv_aload_n hx hb dX8_part_1 rfl (lv_at hl 0 rfl) ?_
  refine sl_gX_17_9_8 (v := (f 17 9)) hx hb hts hown hK hP rfl dX8_part_2 ?_
  refine lv_topi (fun v_26 ev_26 => ?_)
  replace hs := hs.trans (spl_e ev_26 rfl)
  have q_27 : 0 ≤ v_26.toInt ∧ v_26.toInt ≤ 8 := by rw [ev_26]; exact hI 17 9
  refine lv_icmp_lt (tgt := 13) hx hb dX8_part_5 (by decide) (fun c => ?_) (fun c => ?_)
  · skip
    have c_28 : 4 < v_26.toInt := (by first | exact (cm_lt0 ti_4 c) | (have z := bn_lt c; have k0 : (4 : Int32).toInt = 4 := ti_4; omega))
    refine lv_iconst (v := 0) hx hb dX8_part_13 ic_0 ?_
    refine lv_istore_n (lv' := [(2, .int 0), (0, .ref (h 17)), (1, .int 4)]) hx hb dX8_part_14 rfl hl (by decide) rfl (fun ls hl => ?_)
    exact loop_15 4 0 f _ _ _ (hs.trans ((if_pos c_28).trans rfl)) (by have kc0 : (0 : Int32).toInt = 0 := ti_0; omega) (by have zz17_9 : (f 17 9).toInt = v_26.toInt := (congrArg Int32.toInt (show f 17 9 = v_26 from ev_26.symm)); exact ⟨by omega, by omega⟩) (by decide) hI hF hP hS (lv_sub hl [1, 2, 0] rfl)
  · skip
    have c_29 : v_26.toInt ≤ 4 := (by first | exact (cm_nlt0 ti_4 c) | (have z := bn_nlt c; have k0 : (4 : Int32).toInt = 4 := ti_4; omega))
    refine lv_aload_n hx hb dX8_part_8 rfl (lv_at hl 0 rfl) ?_
    refine sg_callv (va_runV (As := []) (rest := []) ⟨hx, hb, hml, hown, hts⟩ (kX8_weigh l D ca za h hh f L Q hI H.size) (sl_c8_weigh_0_0_0_0_8 hts ⟨Nat.le_of_ble_eq_true rfl, Nat.le_of_ble_eq_true rfl⟩) (sl_vX_17 hA hK hP hS hZ) rfl rfl hl.1 rfl (lv_room (Nat.le_of_ble_eq_true rfl)) dX8_part_9 ⟨Nat.le_refl _, Nat.le_refl _⟩) hA hS (fun f_30 L_31 Q_32 H locs hq hP hS => ?_)
    obtain ⟨⟨hI, hk_f_30, eL9, eQ9⟩, u_33⟩ := hq
    rw [eL9, eQ9] at hP; clear eL9 eQ9
    have hF : sgK WkX8_part_4 f f_30 := sgK.tr hF hk_f_30 (by decide +kernel)
    exact hret _ _ _ _ f_30 L Q dX8_part_12 hP hS ⟨⟨hI, hF, rfl, rfl⟩, (Eq.trans (Eq.symm (hs.trans ((if_neg (Int.not_lt.mpr c_29)).trans (spl_e u_33 rfl)))) hsp)⟩

abbrev WkX8_part_3 : List (Nat × Nat × Option Nat) := [(17, 17, some 11), (17, 17, some 12), (23, 23, none), (24, 24, none)]
set_option maxHeartbeats 4000000 in
set_option maxRecDepth 100000 in
theorem kX8_part_3 (l : Launch) (D : va_G) (ca : Nat → ClassId) (za h : Nat → Nat) (hh : sgH 52 h) (f : sg_F) (L : sg_L) (Q : sg_Q) (hI : sgI loX hiX f) (sz : Nat) : Met l yX8_part gwX8_part { frames := 6, cells := 0, slots := 0, locals := 132 } (sgP D vwCl (tyX ca) 52 h (eX ca h) zcX za f L Q sz [.ref (h 17), .int 3]) (sgQv D vwCl 52 h (eX ca h) sz (fun f1 L1 Q1 => ((sgI loX hiX f1 ∧ sgK WkX8_part_3 f f1 ∧ L1 = L ∧ Q1 = Q) ∧ (f1) = sX8_part_3 f L))) 0 0 (sgA 52 h sz) := by
  refine sg_ofWv (cc := cX8_part) (maxL := 3) RX8 (by decide) rfl rfl (Nat.le_of_ble_eq_true rfl) ?_
  intro p e s m below meth cd Qz ls hx hb hml hown hts hK hZ hP hS hl hret
  have hA := sgY.self (n := 52) (h := h) (sz := s.heap.size)
  have hl : lv_has ls 3 [(0, .ref (h 17)), (1, .int 3)] := hl
  obtain ⟨H, hH⟩ : ∃ z : Heap, z = s.heap := ⟨_, rfl⟩
  obtain ⟨locs, hlo⟩ : ∃ z : List Loc, z = [] := ⟨_, rfl⟩
  have hP : va_P D vwCl (sgw 52 h (eX ca h) f L Q) H := by rw [hH]; exact hP
  have hS : va_S (sgA 52 h s.heap.size) s.heap H locs := by rw [hH, hlo]; exact hS
  suffices hgo : W p l e ({ frames := 6, cells := 0, slots := 0, locals := 132 }) s m ([.ref (h 17), .int 3] : List Value).toArray below meth cd H locs 0 0 Qz (F0 m 0 ls []) by rw [hH, hlo] at hgo; exact hgo
  clear hH hlo
  obtain ⟨sp, hsp⟩ : ∃ z : sg_F, z = sX8_part_3 f L := ⟨_, rfl⟩
  have hs : sp = sX8_part_3 f L := hsp
  have hF : sgK WkX8_part_3 f f := sgK.rf
  have loop_15 : ∀ (n_15 : Nat) (y2_15 : Int32) (fp_15 : sg_F) (H : Heap) (locs : List Loc) (ls : Array Slot), sp = sX8_part_3_l15 n_15 y2_15 fp_15 L → 3 - y2_15.toInt < (n_15 : Int) → 4 ≤ (fp_15 17 9).toInt ∧ (fp_15 17 9).toInt ≤ 8 → 0 ≤ y2_15.toInt ∧ y2_15.toInt ≤ 3 → sgI loX hiX fp_15 → sgK WkX8_part_3 f fp_15 → va_P D vwCl (sgw 52 h (eX ca h) fp_15 L Q) H → va_S (sgA 52 h s.heap.size) s.heap H locs → lv_has ls 3 [(0, .ref (h 17)), (1, .int 3), (2, .int y2_15)] → W p l e ({ frames := 6, cells := 0, slots := 0, locals := 132 }) s m ([.ref (h 17), .int 3] : List Value).toArray below meth cd H locs 0 0 Qz (F0 m 15 ls []) := by
    intro n_15
    induction n_15 with
    | zero => intro y2_15 fp_15 H locs ls hs hm_15 hy0_15 hy1_15 hI hF hP hS hl; exact absurd hm_15 (by omega)
    | succ n_15 ih_15 =>
      intro y2_15 fp_15 H locs ls hs hm_15 hy0_15 hy1_15 hI hF hP hS hl
      have hs : sp = sX8_part_3_h15 (sX8_part_3_l15 n_15) y2_15 fp_15 L := hs
      obtain ⟨v_1, ev_1⟩ : ∃ z : Int32, z = fp_15 17 9 := ⟨_, rfl⟩
      have q_2 : 0 ≤ v_1.toInt ∧ v_1.toInt ≤ 8 := by rw [ev_1]; exact hI 17 9
      have q_3 : (fp_15 17 9).toInt = v_1.toInt := by rw [ev_1]
      refine lv_iload_n hx hb dX8_part_15 rfl (lv_at hl 2 rfl) ?_
      refine lv_aload_n hx hb dX8_part_16 rfl (lv_at hl 0 rfl) ?_
      refine sl_gX_17_10_8 (v := (fp_15 17 10)) hx hb hts hown hK hP rfl dX8_part_17 ?_
      refine lv_topi (fun v_4 ev_4 => ?_)
      replace hs := hs.trans (spl_e ev_1 (spl_e ev_4 rfl))
      have q_5 : 0 ≤ v_4.toInt ∧ v_4.toInt ≤ 3 := by rw [ev_4]; exact hI 17 10
      refine lv_icmp_ge (tgt := 72) hx hb dX8_part_20 (by decide) (fun c => ?_) (fun c => ?_)
      · skip
        have c_6 : v_4.toInt ≤ y2_15.toInt := (by first | exact (bn_le c) | (have z := bn_le c; omega))
        exact hret _ _ _ _ fp_15 L Q dX8_part_72 hP hS ⟨⟨hI, hF, rfl, rfl⟩, (Eq.trans (Eq.symm (hs.trans ((if_neg (Int.not_lt.mpr c_6)).trans rfl))) hsp)⟩
      · skip
        have c_7 : y2_15.toInt < v_4.toInt := (by first | exact (bn_nle c) | (have z := bn_nle c; omega))
        refine lv_aload_n hx hb dX8_part_23 rfl (lv_at hl 0 rfl) ?_
        refine sl_gX_17_7_8 hx hb hts hown hK hP dX8_part_24 ?_
        refine lv_iload_n hx hb dX8_part_27 rfl (lv_at hl 2 rfl) ?_
        refine lv_dup2_11 hx hb dX8_part_28 rfl rfl ?_
        refine sg_iald hx hb hK hP 23 (by decide) 0 rfl rfl (i := y2_15) (vp_in_iff.mpr ⟨by omega, by omega⟩) dX8_part_29 ?_
        refine lv_topi (fun v_8 ev_8 => ?_)
        have q_9 : 0 ≤ v_8.toInt ∧ v_8.toInt ≤ 255 := by rw [ev_8]; exact hI 23 _
        refine lv_iconst (v := 1) hx hb dX8_part_30 ic_1 ?_
        refine lv_iload_n hx hb dX8_part_31 rfl (lv_at hl 1 rfl) ?_
        refine lv_ishl hx hb dX8_part_32 ?_
        refine W.eq (g2 := F0 m 33 ls [.int 8, .int v_8, .int y2_15, .ref (h 23)]) (by rw [show ((1 : Int32) <<< ((3 : Int32) &&& 31) : Int32) = 8 from by decide]) ?_
        refine lv_ior hx hb dX8_part_33 ?_
        refine lv_topi (fun v_10 ev_10 => ?_)
        have q_11 : 0 ≤ v_10.toInt ∧ v_10.toInt ≤ 255 := by rw [ev_10]; have k1 : (8 : Int32).toInt = 8 := ti_8; exact bn_or255 (x := v_8) (y := 8) (by omega) (by omega) (by omega) (by omega)
        refine sg_iast hx hb hh hA hK hP hS 23 (by decide) 0 (fun _ => rfl) rfl (i := y2_15) (x := v_10) (vp_in_iff.mpr ⟨by omega, by omega⟩) dX8_part_34 (fun f_12 H locs ef_12 hP hS => ?_)
        have hI : sgI loX hiX f_12 := by rw [ef_12]; exact sgI.put hI 23 y2_15.toNatClampNeg (show 0 ≤ (v_10 : Int32).toInt ∧ (v_10 : Int32).toInt ≤ 255 from q_11)
        have hF : sgK WkX8_part_3 f f_12 := sgK.put hF ef_12 (by rfl)
        refine lv_aload_n hx hb dX8_part_35 rfl (lv_at hl 0 rfl) ?_
        refine lv_iload_n hx hb dX8_part_36 rfl (lv_at hl 1 rfl) ?_
        refine lv_iconst (v := 1) hx hb dX8_part_37 ic_1 ?_
        refine lv_iadd hx hb dX8_part_38 ?_
        refine W.eq (g2 := F0 m 39 ls [.int 4, .ref (h 17)]) (by rw [show (3 + 1 : Int32) = 4 from by decide]) ?_
        refine sg_callv (va_runV (As := [.int 4]) (rest := []) ⟨hx, hb, hml, hown, hts⟩ (kX8_part_4 l D ca za h hh f_12 L Q hI H.size) (sl_c8_part_5_0_0_110_8 hts ⟨Nat.le_of_ble_eq_true rfl, Nat.le_of_ble_eq_true rfl⟩) (sl_vX_17 hA hK hP hS hZ) rfl rfl hl.1 rfl (lv_room (Nat.le_of_ble_eq_true rfl)) dX8_part_39 ⟨Nat.le_refl _, Nat.le_refl _⟩) hA hS (fun f_13 L_14 Q_15 H locs hq hP hS => ?_)
        obtain ⟨⟨hI, hk_f_13, eL9, eQ9⟩, u_16⟩ := hq
        rw [eL9, eQ9] at hP; clear eL9 eQ9
        have hF : sgK WkX8_part_3 f f_13 := sgK.tr hF hk_f_13 (by decide +kernel)
        refine lv_aload_n hx hb dX8_part_42 rfl (lv_at hl 0 rfl) ?_
        refine sl_gX_17_7_8 hx hb hts hown hK hP dX8_part_43 ?_
        refine lv_iload_n hx hb dX8_part_46 rfl (lv_at hl 2 rfl) ?_
        refine lv_dup2_11 hx hb dX8_part_47 rfl rfl ?_
        refine sg_iald hx hb hK hP 23 (by decide) 0 rfl rfl (i := y2_15) (vp_in_iff.mpr ⟨by omega, by omega⟩) dX8_part_48 ?_
        refine lv_topi (fun v_17 ev_17 => ?_)
        have q_18 : 0 ≤ v_17.toInt ∧ v_17.toInt ≤ 255 := by rw [ev_17]; exact hI 23 _
        refine lv_iconst (v := 1) hx hb dX8_part_49 ic_1 ?_
        refine lv_iload_n hx hb dX8_part_50 rfl (lv_at hl 1 rfl) ?_
        refine lv_ishl hx hb dX8_part_51 ?_
        refine W.eq (g2 := F0 m 52 ls [.int 8, .int v_17, .int y2_15, .ref (h 23)]) (by rw [show ((1 : Int32) <<< ((3 : Int32) &&& 31) : Int32) = 8 from by decide]) ?_
        refine lv_iconst (v := (-1)) hx hb dX8_part_52 ic_m1 ?_
        refine lv_ixor hx hb dX8_part_53 ?_
        refine W.eq (g2 := F0 m 54 ls [.int (-9), .int v_17, .int y2_15, .ref (h 23)]) (by rw [show (8 ^^^ (-1) : Int32) = (-9) from by decide]) ?_
        refine lv_iand hx hb dX8_part_54 ?_
        refine lv_topi (fun v_19 ev_19 => ?_)
        have q_20 : 0 ≤ v_19.toInt ∧ v_19.toInt ≤ 255 := by rw [ev_19]; exact bn_and255 (x := v_17) (y := (-9)) (by omega) (by omega)
        refine sg_iast hx hb hh hA hK hP hS 23 (by decide) 0 (fun _ => rfl) rfl (i := y2_15) (x := v_19) (vp_in_iff.mpr ⟨by omega, by omega⟩) dX8_part_55 (fun f_21 H locs ef_21 hP hS => ?_)
        replace hs := hs.trans ((if_pos c_7).trans (spl_e ev_8 (spl_e ev_10 (spl_e ef_12 (spl_e u_16 (spl_e ev_17 (spl_e ev_19 (spl_e ef_21 rfl))))))))
        have hI : sgI loX hiX f_21 := by rw [ef_21]; exact sgI.put hI 23 y2_15.toNatClampNeg (show 0 ≤ (v_19 : Int32).toInt ∧ (v_19 : Int32).toInt ≤ 255 from q_20)
        have hF : sgK WkX8_part_3 f f_21 := sgK.put hF ef_21 (by rfl)
        refine lv_aload_n hx hb dX8_part_56 rfl (lv_at hl 0 rfl) ?_
        refine sl_gX_17_7_8 hx hb hts hown hK hP dX8_part_57 ?_
        refine lv_iload_n hx hb dX8_part_60 rfl (lv_at hl 2 rfl) ?_
        refine sg_iald hx hb hK hP 23 (by decide) 0 rfl rfl (i := y2_15) (vp_in_iff.mpr ⟨by omega, by omega⟩) dX8_part_61 ?_
        refine W.eq (g2 := F0 m 62 ls [.int v_19]) (by rw [show f_21 23 (Int32.toNatClampNeg y2_15) = v_19 from (by rw [ef_21, sg_up_s, sgu_s])]) ?_
        refine lv_if_ne (tgt := 66) hx hb dX8_part_62 (by decide) (fun c => ?_) (fun c => ?_)
        · skip
          have c_22 : v_19.toInt ≠ 0 := (by first | exact (cm_ne1 ti_0 c) | (have z := bn_ne c; have k1 : (0 : Int32).toInt = 0 := ti_0; omega))
          obtain ⟨v_24, ev_24⟩ : ∃ z : Int32, z = y2_15 + 1 := ⟨_, rfl⟩
          have q_25 : v_24.toInt = y2_15.toInt + 1 := by rw [ev_24]; exact (bn_addc y2_15 1 (by decide) (by omega) (by omega))
          refine lv_iinc (v := v_24) (lv' := [(2, .int v_24), (0, .ref (h 17)), (1, .int 3)]) hx hb dX8_part_66 hl (k := 2) rfl (by rw [ev_24]; rfl) (by decide) rfl (fun ls hl => ?_)
          refine lv_goto (tgt := 15) hx hb dX8_part_69 (by decide) ?_
          exact ih_15 v_24 f_21 _ _ _ (hs.trans ((if_neg c_22).trans (spl_e ev_24 rfl))) (by omega) (by have zz17_9 : (f_21 17 9).toInt = v_1.toInt := (congrArg Int32.toInt (show f_21 17 9 = v_1 from (by rw [ef_21, sg_up_n (by decide)]; exact ((hk_f_13 17 9 (by decide)).trans (by rw [ef_12, sg_up_n (by decide)]; exact ev_1.symm))))); exact ⟨by omega, by omega⟩) ⟨by omega, by omega⟩ hI hF hP hS (lv_sub hl [1, 2, 0] rfl)
        · skip
          have c_23 : v_19.toInt = 0 := (by first | exact (cm_eq1 ti_0 c) | (have z := Int32.toInt_inj.mpr c; have k1 : (0 : Int32).toInt = 0 := ti_0; omega))
          exact hret _ _ _ _ f_21 L Q dX8_part_65 hP hS ⟨⟨hI, hF, rfl, rfl⟩, (Eq.trans (Eq.symm (hs.trans ((if_pos c_23).trans rfl))) hsp)⟩
  refine lv_iload_n hx hb dX8_part_0 rfl (lv_at hl 1 rfl) ?_
  refine lv_aload_n hx hb dX8_part_1 rfl (lv_at hl 0 rfl) ?_
  refine sl_gX_17_9_8 (v := (f 17 9)) hx hb hts hown hK hP rfl dX8_part_2 ?_
  refine lv_topi (fun v_26 ev_26 => ?_)
  replace hs := hs.trans (spl_e ev_26 rfl)
  have q_27 : 0 ≤ v_26.toInt ∧ v_26.toInt ≤ 8 := by rw [ev_26]; exact hI 17 9
  refine lv_icmp_lt (tgt := 13) hx hb dX8_part_5 (by decide) (fun c => ?_) (fun c => ?_)
  · skip
    have c_28 : 3 < v_26.toInt := (by first | exact (cm_lt0 ti_3 c) | (have z := bn_lt c; have k0 : (3 : Int32).toInt = 3 := ti_3; omega))
    refine lv_iconst (v := 0) hx hb dX8_part_13 ic_0 ?_
    refine lv_istore_n (lv' := [(2, .int 0), (0, .ref (h 17)), (1, .int 3)]) hx hb dX8_part_14 rfl hl (by decide) rfl (fun ls hl => ?_)
    exact loop_15 4 0 f _ _ _ (hs.trans ((if_pos c_28).trans rfl)) (by have kc0 : (0 : Int32).toInt = 0 := ti_0; omega) (by have zz17_9 : (f 17 9).toInt = v_26.toInt := (congrArg Int32.toInt (show f 17 9 = v_26 from ev_26.symm)); exact ⟨by omega, by omega⟩) (by decide) hI hF hP hS (lv_sub hl [1, 2, 0] rfl)
  · skip
    have c_29 : v_26.toInt ≤ 3 := (by first | exact (cm_nlt0 ti_3 c) | (have z := bn_nlt c; have k0 : (3 : Int32).toInt = 3 := ti_3; omega))
    refine lv_aload_n hx hb dX8_part_8 rfl (lv_at hl 0 rfl) ?_
    refine sg_callv (va_runV (As := []) (rest := []) ⟨hx, hb, hml, hown, hts⟩ (kX8_weigh l D ca za h hh f L Q hI H.size) (sl_c8_weigh_0_0_0_0_8 hts ⟨Nat.le_of_ble_eq_true rfl, Nat.le_of_ble_eq_true rfl⟩) (sl_vX_17 hA hK hP hS hZ) rfl rfl hl.1 rfl (lv_room (Nat.le_of_ble_eq_true rfl)) dX8_part_9 ⟨Nat.le_refl _, Nat.le_refl _⟩) hA hS (fun f_30 L_31 Q_32 H locs hq hP hS => ?_)
    obtain ⟨⟨hI, hk_f_30, eL9, eQ9⟩, u_33⟩ := hq
    rw [eL9, eQ9] at hP; clear eL9 eQ9
    have hF : sgK WkX8_part_3 f f_30 := sgK.tr hF hk_f_30 (by decide +kernel)
    exact hret _ _ _ _ f_30 L Q dX8_part_12 hP hS ⟨⟨hI, hF, rfl, rfl⟩, (Eq.trans (Eq.symm (hs.trans ((if_neg (Int.not_lt.mpr c_29)).trans (spl_e u_33 rfl)))) hsp)⟩

abbrev WkX8_part_2 : List (Nat × Nat × Option Nat) := [(17, 17, some 11), (17, 17, some 12), (23, 23, none), (24, 24, none)]
set_option maxHeartbeats 4000000 in
set_option maxRecDepth 100000 in
theorem kX8_part_2 (l : Launch) (D : va_G) (ca : Nat → ClassId) (za h : Nat → Nat) (hh : sgH 52 h) (f : sg_F) (L : sg_L) (Q : sg_Q) (hI : sgI loX hiX f) (sz : Nat) : Met l yX8_part gwX8_part { frames := 7, cells := 0, slots := 0, locals := 154 } (sgP D vwCl (tyX ca) 52 h (eX ca h) zcX za f L Q sz [.ref (h 17), .int 2]) (sgQv D vwCl 52 h (eX ca h) sz (fun f1 L1 Q1 => ((sgI loX hiX f1 ∧ sgK WkX8_part_2 f f1 ∧ L1 = L ∧ Q1 = Q) ∧ (f1) = sX8_part_2 f L))) 0 0 (sgA 52 h sz) := by
  refine sg_ofWv (cc := cX8_part) (maxL := 3) RX8 (by decide) rfl rfl (Nat.le_of_ble_eq_true rfl) ?_
  intro p e s m below meth cd Qz ls hx hb hml hown hts hK hZ hP hS hl hret
  have hA := sgY.self (n := 52) (h := h) (sz := s.heap.size)
  have hl : lv_has ls 3 [(0, .ref (h 17)), (1, .int 2)] := hl
  obtain ⟨H, hH⟩ : ∃ z : Heap, z = s.heap := ⟨_, rfl⟩
  obtain ⟨locs, hlo⟩ : ∃ z : List Loc, z = [] := ⟨_, rfl⟩
  have hP : va_P D vwCl (sgw 52 h (eX ca h) f L Q) H := by rw [hH]; exact hP
  have hS : va_S (sgA 52 h s.heap.size) s.heap H locs := by rw [hH, hlo]; exact hS
  suffices hgo : W p l e ({ frames := 7, cells := 0, slots := 0, locals := 154 }) s m ([.ref (h 17), .int 2] : List Value).toArray below meth cd H locs 0 0 Qz (F0 m 0 ls []) by rw [hH, hlo] at hgo; exact hgo
  clear hH hlo
  obtain ⟨sp, hsp⟩ : ∃ z : sg_F, z = sX8_part_2 f L := ⟨_, rfl⟩
  have hs : sp = sX8_part_2 f L := hsp
  have hF : sgK WkX8_part_2 f f := sgK.rf
  have loop_15 : ∀ (n_15 : Nat) (y2_15 : Int32) (fp_15 : sg_F) (H : Heap) (locs : List Loc) (ls : Array Slot), sp = sX8_part_2_l15 n_15 y2_15 fp_15 L → 3 - y2_15.toInt < (n_15 : Int) → 3 ≤ (fp_15 17 9).toInt ∧ (fp_15 17 9).toInt ≤ 8 → 0 ≤ y2_15.toInt ∧ y2_15.toInt ≤ 3 → sgI loX hiX fp_15 → sgK WkX8_part_2 f fp_15 → va_P D vwCl (sgw 52 h (eX ca h) fp_15 L Q) H → va_S (sgA 52 h s.heap.size) s.heap H locs → lv_has ls 3 [(0, .ref (h 17)), (1, .int 2), (2, .int y2_15)] → W p l e ({ frames := 7, cells := 0, slots := 0, locals := 154 }) s m ([.ref (h 17), .int 2] : List Value).toArray below meth cd H locs 0 0 Qz (F0 m 15 ls []) := by
    intro n_15
    induction n_15 with
    | zero => intro y2_15 fp_15 H locs ls hs hm_15 hy0_15 hy1_15 hI hF hP hS hl; exact absurd hm_15 (by omega)
    | succ n_15 ih_15 =>
      intro y2_15 fp_15 H locs ls hs hm_15 hy0_15 hy1_15 hI hF hP hS hl
      have hs : sp = sX8_part_2_h15 (sX8_part_2_l15 n_15) y2_15 fp_15 L := hs
      obtain ⟨v_1, ev_1⟩ : ∃ z : Int32, z = fp_15 17 9 := ⟨_, rfl⟩
      have q_2 : 0 ≤ v_1.toInt ∧ v_1.toInt ≤ 8 := by rw [ev_1]; exact hI 17 9
      have q_3 : (fp_15 17 9).toInt = v_1.toInt := by rw [ev_1]
      refine lv_iload_n hx hb dX8_part_15 rfl (lv_at hl 2 rfl) ?_
      refine lv_aload_n hx hb dX8_part_16 rfl (lv_at hl 0 rfl) ?_
      refine sl_gX_17_10_8 (v := (fp_15 17 10)) hx hb hts hown hK hP rfl dX8_part_17 ?_
      refine lv_topi (fun v_4 ev_4 => ?_)
      replace hs := hs.trans (spl_e ev_1 (spl_e ev_4 rfl))
      have q_5 : 0 ≤ v_4.toInt ∧ v_4.toInt ≤ 3 := by rw [ev_4]; exact hI 17 10
      refine lv_icmp_ge (tgt := 72) hx hb dX8_part_20 (by decide) (fun c => ?_) (fun c => ?_)
      · skip
        have c_6 : v_4.toInt ≤ y2_15.toInt := (by first | exact (bn_le c) | (have z := bn_le c; omega))
        exact hret _ _ _ _ fp_15 L Q dX8_part_72 hP hS ⟨⟨hI, hF, rfl, rfl⟩, (Eq.trans (Eq.symm (hs.trans ((if_neg (Int.not_lt.mpr c_6)).trans rfl))) hsp)⟩
      · skip
        have c_7 : y2_15.toInt < v_4.toInt := (by first | exact (bn_nle c) | (have z := bn_nle c; omega))
        refine lv_aload_n hx hb dX8_part_23 rfl (lv_at hl 0 rfl) ?_
        refine sl_gX_17_7_8 hx hb hts hown hK hP dX8_part_24 ?_
        refine lv_iload_n hx hb dX8_part_27 rfl (lv_at hl 2 rfl) ?_
        refine lv_dup2_11 hx hb dX8_part_28 rfl rfl ?_
        refine sg_iald hx hb hK hP 23 (by decide) 0 rfl rfl (i := y2_15) (vp_in_iff.mpr ⟨by omega, by omega⟩) dX8_part_29 ?_
        refine lv_topi (fun v_8 ev_8 => ?_)
        have q_9 : 0 ≤ v_8.toInt ∧ v_8.toInt ≤ 255 := by rw [ev_8]; exact hI 23 _
        refine lv_iconst (v := 1) hx hb dX8_part_30 ic_1 ?_
        refine lv_iload_n hx hb dX8_part_31 rfl (lv_at hl 1 rfl) ?_
        refine lv_ishl hx hb dX8_part_32 ?_
        refine W.eq (g2 := F0 m 33 ls [.int 4, .int v_8, .int y2_15, .ref (h 23)]) (by rw [show ((1 : Int32) <<< ((2 : Int32) &&& 31) : Int32) = 4 from by decide]) ?_
        refine lv_ior hx hb dX8_part_33 ?_
        refine lv_topi (fun v_10 ev_10 => ?_)
        have q_11 : 0 ≤ v_10.toInt ∧ v_10.toInt ≤ 255 := by rw [ev_10]; have k1 : (4 : Int32).toInt = 4 := ti_4; exact bn_or255 (x := v_8) (y := 4) (by omega) (by omega) (by omega) (by omega)
        refine sg_iast hx hb hh hA hK hP hS 23 (by decide) 0 (fun _ => rfl) rfl (i := y2_15) (x := v_10) (vp_in_iff.mpr ⟨by omega, by omega⟩) dX8_part_34 (fun f_12 H locs ef_12 hP hS => ?_)
        have hI : sgI loX hiX f_12 := by rw [ef_12]; exact sgI.put hI 23 y2_15.toNatClampNeg (show 0 ≤ (v_10 : Int32).toInt ∧ (v_10 : Int32).toInt ≤ 255 from q_11)
        have hF : sgK WkX8_part_2 f f_12 := sgK.put hF ef_12 (by rfl)
        refine lv_aload_n hx hb dX8_part_35 rfl (lv_at hl 0 rfl) ?_
        refine lv_iload_n hx hb dX8_part_36 rfl (lv_at hl 1 rfl) ?_
        refine lv_iconst (v := 1) hx hb dX8_part_37 ic_1 ?_
        refine lv_iadd hx hb dX8_part_38 ?_
        refine W.eq (g2 := F0 m 39 ls [.int 3, .ref (h 17)]) (by rw [show (2 + 1 : Int32) = 3 from by decide]) ?_
        refine sg_callv (va_runV (As := [.int 3]) (rest := []) ⟨hx, hb, hml, hown, hts⟩ (kX8_part_3 l D ca za h hh f_12 L Q hI H.size) (sl_c8_part_6_0_0_132_8 hts ⟨Nat.le_of_ble_eq_true rfl, Nat.le_of_ble_eq_true rfl⟩) (sl_vX_17 hA hK hP hS hZ) rfl rfl hl.1 rfl (lv_room (Nat.le_of_ble_eq_true rfl)) dX8_part_39 ⟨Nat.le_refl _, Nat.le_refl _⟩) hA hS (fun f_13 L_14 Q_15 H locs hq hP hS => ?_)
        obtain ⟨⟨hI, hk_f_13, eL9, eQ9⟩, u_16⟩ := hq
        rw [eL9, eQ9] at hP; clear eL9 eQ9
        have hF : sgK WkX8_part_2 f f_13 := sgK.tr hF hk_f_13 (by decide +kernel)
        refine lv_aload_n hx hb dX8_part_42 rfl (lv_at hl 0 rfl) ?_
        refine sl_gX_17_7_8 hx hb hts hown hK hP dX8_part_43 ?_
        refine lv_iload_n hx hb dX8_part_46 rfl (lv_at hl 2 rfl) ?_
        refine lv_dup2_11 hx hb dX8_part_47 rfl rfl ?_
        refine sg_iald hx hb hK hP 23 (by decide) 0 rfl rfl (i := y2_15) (vp_in_iff.mpr ⟨by omega, by omega⟩) dX8_part_48 ?_
        refine lv_topi (fun v_17 ev_17 => ?_)
        have q_18 : 0 ≤ v_17.toInt ∧ v_17.toInt ≤ 255 := by rw [ev_17]; exact hI 23 _
        refine lv_iconst (v := 1) hx hb dX8_part_49 ic_1 ?_
        refine lv_iload_n hx hb dX8_part_50 rfl (lv_at hl 1 rfl) ?_
        refine lv_ishl hx hb dX8_part_51 ?_
        refine W.eq (g2 := F0 m 52 ls [.int 4, .int v_17, .int y2_15, .ref (h 23)]) (by rw [show ((1 : Int32) <<< ((2 : Int32) &&& 31) : Int32) = 4 from by decide]) ?_
        refine lv_iconst (v := (-1)) hx hb dX8_part_52 ic_m1 ?_
        refine lv_ixor hx hb dX8_part_53 ?_
        refine W.eq (g2 := F0 m 54 ls [.int (-5), .int v_17, .int y2_15, .ref (h 23)]) (by rw [show (4 ^^^ (-1) : Int32) = (-5) from by decide]) ?_
        refine lv_iand hx hb dX8_part_54 ?_
        refine lv_topi (fun v_19 ev_19 => ?_)
        have q_20 : 0 ≤ v_19.toInt ∧ v_19.toInt ≤ 255 := by rw [ev_19]; exact bn_and255 (x := v_17) (y := (-5)) (by omega) (by omega)
        refine sg_iast hx hb hh hA hK hP hS 23 (by decide) 0 (fun _ => rfl) rfl (i := y2_15) (x := v_19) (vp_in_iff.mpr ⟨by omega, by omega⟩) dX8_part_55 (fun f_21 H locs ef_21 hP hS => ?_)
        replace hs := hs.trans ((if_pos c_7).trans (spl_e ev_8 (spl_e ev_10 (spl_e ef_12 (spl_e u_16 (spl_e ev_17 (spl_e ev_19 (spl_e ef_21 rfl))))))))
        have hI : sgI loX hiX f_21 := by rw [ef_21]; exact sgI.put hI 23 y2_15.toNatClampNeg (show 0 ≤ (v_19 : Int32).toInt ∧ (v_19 : Int32).toInt ≤ 255 from q_20)
        have hF : sgK WkX8_part_2 f f_21 := sgK.put hF ef_21 (by rfl)
        refine lv_aload_n hx hb dX8_part_56 rfl (lv_at hl 0 rfl) ?_
        refine sl_gX_17_7_8 hx hb hts hown hK hP dX8_part_57 ?_
        refine lv_iload_n hx hb dX8_part_60 rfl (lv_at hl 2 rfl) ?_
        refine sg_iald hx hb hK hP 23 (by decide) 0 rfl rfl (i := y2_15) (vp_in_iff.mpr ⟨by omega, by omega⟩) dX8_part_61 ?_
        refine W.eq (g2 := F0 m 62 ls [.int v_19]) (by rw [show f_21 23 (Int32.toNatClampNeg y2_15) = v_19 from (by rw [ef_21, sg_up_s, sgu_s])]) ?_
        refine lv_if_ne (tgt := 66) hx hb dX8_part_62 (by decide) (fun c => ?_) (fun c => ?_)
        · skip
          have c_22 : v_19.toInt ≠ 0 := (by first | exact (cm_ne1 ti_0 c) | (have z := bn_ne c; have k1 : (0 : Int32).toInt = 0 := ti_0; omega))
          obtain ⟨v_24, ev_24⟩ : ∃ z : Int32, z = y2_15 + 1 := ⟨_, rfl⟩
          have q_25 : v_24.toInt = y2_15.toInt + 1 := by rw [ev_24]; exact (bn_addc y2_15 1 (by decide) (by omega) (by omega))
          refine lv_iinc (v := v_24) (lv' := [(2, .int v_24), (0, .ref (h 17)), (1, .int 2)]) hx hb dX8_part_66 hl (k := 2) rfl (by rw [ev_24]; rfl) (by decide) rfl (fun ls hl => ?_)
          refine lv_goto (tgt := 15) hx hb dX8_part_69 (by decide) ?_
          exact ih_15 v_24 f_21 _ _ _ (hs.trans ((if_neg c_22).trans (spl_e ev_24 rfl))) (by omega) (by have zz17_9 : (f_21 17 9).toInt = v_1.toInt := (congrArg Int32.toInt (show f_21 17 9 = v_1 from (by rw [ef_21, sg_up_n (by decide)]; exact ((hk_f_13 17 9 (by decide)).trans (by rw [ef_12, sg_up_n (by decide)]; exact ev_1.symm))))); exact ⟨by omega, by omega⟩) ⟨by omega, by omega⟩ hI hF hP hS (lv_sub hl [1, 2, 0] rfl)
        · skip
          have c_23 : v_19.toInt = 0 := (by first | exact (cm_eq1 ti_0 c) | (have z := Int32.toInt_inj.mpr c; have k1 : (0 : Int32).toInt = 0 := ti_0; omega))
          exact hret _ _ _ _ f_21 L Q dX8_part_65 hP hS ⟨⟨hI, hF, rfl, rfl⟩, (Eq.trans (Eq.symm (hs.trans ((if_pos c_23).trans rfl))) hsp)⟩
  refine lv_iload_n hx hb dX8_part_0 rfl (lv_at hl 1 rfl) ?_
  refine lv_aload_n hx hb dX8_part_1 rfl (lv_at hl 0 rfl) ?_
  refine sl_gX_17_9_8 (v := (f 17 9)) hx hb hts hown hK hP rfl dX8_part_2 ?_
  refine lv_topi (fun v_26 ev_26 => ?_)
  replace hs := hs.trans (spl_e ev_26 rfl)
  have q_27 : 0 ≤ v_26.toInt ∧ v_26.toInt ≤ 8 := by rw [ev_26]; exact hI 17 9
  refine lv_icmp_lt (tgt := 13) hx hb dX8_part_5 (by decide) (fun c => ?_) (fun c => ?_)
  · skip
    have c_28 : 2 < v_26.toInt := (by first | exact (cm_lt0 ti_2 c) | (have z := bn_lt c; have k0 : (2 : Int32).toInt = 2 := ti_2; omega))
    refine lv_iconst (v := 0) hx hb dX8_part_13 ic_0 ?_
    refine lv_istore_n (lv' := [(2, .int 0), (0, .ref (h 17)), (1, .int 2)]) hx hb dX8_part_14 rfl hl (by decide) rfl (fun ls hl => ?_)
    exact loop_15 4 0 f _ _ _ (hs.trans ((if_pos c_28).trans rfl)) (by have kc0 : (0 : Int32).toInt = 0 := ti_0; omega) (by have zz17_9 : (f 17 9).toInt = v_26.toInt := (congrArg Int32.toInt (show f 17 9 = v_26 from ev_26.symm)); exact ⟨by omega, by omega⟩) (by decide) hI hF hP hS (lv_sub hl [1, 2, 0] rfl)
  · skip
    have c_29 : v_26.toInt ≤ 2 := (by first | exact (cm_nlt0 ti_2 c) | (have z := bn_nlt c; have k0 : (2 : Int32).toInt = 2 := ti_2; omega))
    refine lv_aload_n hx hb dX8_part_8 rfl (lv_at hl 0 rfl) ?_
    refine sg_callv (va_runV (As := []) (rest := []) ⟨hx, hb, hml, hown, hts⟩ (kX8_weigh l D ca za h hh f L Q hI H.size) (sl_c8_weigh_0_0_0_0_8 hts ⟨Nat.le_of_ble_eq_true rfl, Nat.le_of_ble_eq_true rfl⟩) (sl_vX_17 hA hK hP hS hZ) rfl rfl hl.1 rfl (lv_room (Nat.le_of_ble_eq_true rfl)) dX8_part_9 ⟨Nat.le_refl _, Nat.le_refl _⟩) hA hS (fun f_30 L_31 Q_32 H locs hq hP hS => ?_)
    obtain ⟨⟨hI, hk_f_30, eL9, eQ9⟩, u_33⟩ := hq
    rw [eL9, eQ9] at hP; clear eL9 eQ9
    have hF : sgK WkX8_part_2 f f_30 := sgK.tr hF hk_f_30 (by decide +kernel)
    exact hret _ _ _ _ f_30 L Q dX8_part_12 hP hS ⟨⟨hI, hF, rfl, rfl⟩, (Eq.trans (Eq.symm (hs.trans ((if_neg (Int.not_lt.mpr c_29)).trans (spl_e u_33 rfl)))) hsp)⟩

abbrev WkX8_part_1 : List (Nat × Nat × Option Nat) := [(17, 17, some 11), (17, 17, some 12), (23, 23, none), (24, 24, none)]
set_option maxHeartbeats 4000000 in
set_option maxRecDepth 100000 in
theorem kX8_part_1 (l : Launch) (D : va_G) (ca : Nat → ClassId) (za h : Nat → Nat) (hh : sgH 52 h) (f : sg_F) (L : sg_L) (Q : sg_Q) (hI : sgI loX hiX f) (sz : Nat) : Met l yX8_part gwX8_part { frames := 8, cells := 0, slots := 0, locals := 176 } (sgP D vwCl (tyX ca) 52 h (eX ca h) zcX za f L Q sz [.ref (h 17), .int 1]) (sgQv D vwCl 52 h (eX ca h) sz (fun f1 L1 Q1 => ((sgI loX hiX f1 ∧ sgK WkX8_part_1 f f1 ∧ L1 = L ∧ Q1 = Q) ∧ (f1) = sX8_part_1 f L))) 0 0 (sgA 52 h sz) := by
  refine sg_ofWv (cc := cX8_part) (maxL := 3) RX8 (by decide) rfl rfl (Nat.le_of_ble_eq_true rfl) ?_
  intro p e s m below meth cd Qz ls hx hb hml hown hts hK hZ hP hS hl hret
  have hA := sgY.self (n := 52) (h := h) (sz := s.heap.size)
  have hl : lv_has ls 3 [(0, .ref (h 17)), (1, .int 1)] := hl
  obtain ⟨H, hH⟩ : ∃ z : Heap, z = s.heap := ⟨_, rfl⟩
  obtain ⟨locs, hlo⟩ : ∃ z : List Loc, z = [] := ⟨_, rfl⟩
  have hP : va_P D vwCl (sgw 52 h (eX ca h) f L Q) H := by rw [hH]; exact hP
  have hS : va_S (sgA 52 h s.heap.size) s.heap H locs := by rw [hH, hlo]; exact hS
  suffices hgo : W p l e ({ frames := 8, cells := 0, slots := 0, locals := 176 }) s m ([.ref (h 17), .int 1] : List Value).toArray below meth cd H locs 0 0 Qz (F0 m 0 ls []) by rw [hH, hlo] at hgo; exact hgo
  clear hH hlo
  obtain ⟨sp, hsp⟩ : ∃ z : sg_F, z = sX8_part_1 f L := ⟨_, rfl⟩
  have hs : sp = sX8_part_1 f L := hsp
  have hF : sgK WkX8_part_1 f f := sgK.rf
  have loop_15 : ∀ (n_15 : Nat) (y2_15 : Int32) (fp_15 : sg_F) (H : Heap) (locs : List Loc) (ls : Array Slot), sp = sX8_part_1_l15 n_15 y2_15 fp_15 L → 3 - y2_15.toInt < (n_15 : Int) → 2 ≤ (fp_15 17 9).toInt ∧ (fp_15 17 9).toInt ≤ 8 → 0 ≤ y2_15.toInt ∧ y2_15.toInt ≤ 3 → sgI loX hiX fp_15 → sgK WkX8_part_1 f fp_15 → va_P D vwCl (sgw 52 h (eX ca h) fp_15 L Q) H → va_S (sgA 52 h s.heap.size) s.heap H locs → lv_has ls 3 [(0, .ref (h 17)), (1, .int 1), (2, .int y2_15)] → W p l e ({ frames := 8, cells := 0, slots := 0, locals := 176 }) s m ([.ref (h 17), .int 1] : List Value).toArray below meth cd H locs 0 0 Qz (F0 m 15 ls []) := by
    intro n_15
    induction n_15 with
    | zero => intro y2_15 fp_15 H locs ls hs hm_15 hy0_15 hy1_15 hI hF hP hS hl; exact absurd hm_15 (by omega)
    | succ n_15 ih_15 =>
      intro y2_15 fp_15 H locs ls hs hm_15 hy0_15 hy1_15 hI hF hP hS hl
      have hs : sp = sX8_part_1_h15 (sX8_part_1_l15 n_15) y2_15 fp_15 L := hs
      obtain ⟨v_1, ev_1⟩ : ∃ z : Int32, z = fp_15 17 9 := ⟨_, rfl⟩
      have q_2 : 0 ≤ v_1.toInt ∧ v_1.toInt ≤ 8 := by rw [ev_1]; exact hI 17 9
      have q_3 : (fp_15 17 9).toInt = v_1.toInt := by rw [ev_1]
      refine lv_iload_n hx hb dX8_part_15 rfl (lv_at hl 2 rfl) ?_
      refine lv_aload_n hx hb dX8_part_16 rfl (lv_at hl 0 rfl) ?_
      refine sl_gX_17_10_8 (v := (fp_15 17 10)) hx hb hts hown hK hP rfl dX8_part_17 ?_
      refine lv_topi (fun v_4 ev_4 => ?_)
      replace hs := hs.trans (spl_e ev_1 (spl_e ev_4 rfl))
      have q_5 : 0 ≤ v_4.toInt ∧ v_4.toInt ≤ 3 := by rw [ev_4]; exact hI 17 10
      refine lv_icmp_ge (tgt := 72) hx hb dX8_part_20 (by decide) (fun c => ?_) (fun c => ?_)
      · skip
        have c_6 : v_4.toInt ≤ y2_15.toInt := (by first | exact (bn_le c) | (have z := bn_le c; omega))
        exact hret _ _ _ _ fp_15 L Q dX8_part_72 hP hS ⟨⟨hI, hF, rfl, rfl⟩, (Eq.trans (Eq.symm (hs.trans ((if_neg (Int.not_lt.mpr c_6)).trans rfl))) hsp)⟩
      · skip
        have c_7 : y2_15.toInt < v_4.toInt := (by first | exact (bn_nle c) | (have z := bn_nle c; omega))
        refine lv_aload_n hx hb dX8_part_23 rfl (lv_at hl 0 rfl) ?_
        refine sl_gX_17_7_8 hx hb hts hown hK hP dX8_part_24 ?_
        refine lv_iload_n hx hb dX8_part_27 rfl (lv_at hl 2 rfl) ?_
        refine lv_dup2_11 hx hb dX8_part_28 rfl rfl ?_
        refine sg_iald hx hb hK hP 23 (by decide) 0 rfl rfl (i := y2_15) (vp_in_iff.mpr ⟨by omega, by omega⟩) dX8_part_29 ?_
        refine lv_topi (fun v_8 ev_8 => ?_)
        have q_9 : 0 ≤ v_8.toInt ∧ v_8.toInt ≤ 255 := by rw [ev_8]; exact hI 23 _
        refine lv_iconst (v := 1) hx hb dX8_part_30 ic_1 ?_
        refine lv_iload_n hx hb dX8_part_31 rfl (lv_at hl 1 rfl) ?_
        refine lv_ishl hx hb dX8_part_32 ?_
        refine W.eq (g2 := F0 m 33 ls [.int 2, .int v_8, .int y2_15, .ref (h 23)]) (by rw [show ((1 : Int32) <<< ((1 : Int32) &&& 31) : Int32) = 2 from by decide]) ?_
        refine lv_ior hx hb dX8_part_33 ?_
        refine lv_topi (fun v_10 ev_10 => ?_)
        have q_11 : 0 ≤ v_10.toInt ∧ v_10.toInt ≤ 255 := by rw [ev_10]; have k1 : (2 : Int32).toInt = 2 := ti_2; exact bn_or255 (x := v_8) (y := 2) (by omega) (by omega) (by omega) (by omega)
        refine sg_iast hx hb hh hA hK hP hS 23 (by decide) 0 (fun _ => rfl) rfl (i := y2_15) (x := v_10) (vp_in_iff.mpr ⟨by omega, by omega⟩) dX8_part_34 (fun f_12 H locs ef_12 hP hS => ?_)
        have hI : sgI loX hiX f_12 := by rw [ef_12]; exact sgI.put hI 23 y2_15.toNatClampNeg (show 0 ≤ (v_10 : Int32).toInt ∧ (v_10 : Int32).toInt ≤ 255 from q_11)
        have hF : sgK WkX8_part_1 f f_12 := sgK.put hF ef_12 (by rfl)
        refine lv_aload_n hx hb dX8_part_35 rfl (lv_at hl 0 rfl) ?_
        refine lv_iload_n hx hb dX8_part_36 rfl (lv_at hl 1 rfl) ?_
        refine lv_iconst (v := 1) hx hb dX8_part_37 ic_1 ?_
        refine lv_iadd hx hb dX8_part_38 ?_
        refine W.eq (g2 := F0 m 39 ls [.int 2, .ref (h 17)]) (by rw [show (1 + 1 : Int32) = 2 from by decide]) ?_
        refine sg_callv (va_runV (As := [.int 2]) (rest := []) ⟨hx, hb, hml, hown, hts⟩ (kX8_part_2 l D ca za h hh f_12 L Q hI H.size) (sl_c8_part_7_0_0_154_8 hts ⟨Nat.le_of_ble_eq_true rfl, Nat.le_of_ble_eq_true rfl⟩) (sl_vX_17 hA hK hP hS hZ) rfl rfl hl.1 rfl (lv_room (Nat.le_of_ble_eq_true rfl)) dX8_part_39 ⟨Nat.le_refl _, Nat.le_refl _⟩) hA hS (fun f_13 L_14 Q_15 H locs hq hP hS => ?_)
        obtain ⟨⟨hI, hk_f_13, eL9, eQ9⟩, u_16⟩ := hq
        rw [eL9, eQ9] at hP; clear eL9 eQ9
        have hF : sgK WkX8_part_1 f f_13 := sgK.tr hF hk_f_13 (by decide +kernel)
        refine lv_aload_n hx hb dX8_part_42 rfl (lv_at hl 0 rfl) ?_
        refine sl_gX_17_7_8 hx hb hts hown hK hP dX8_part_43 ?_
        refine lv_iload_n hx hb dX8_part_46 rfl (lv_at hl 2 rfl) ?_
        refine lv_dup2_11 hx hb dX8_part_47 rfl rfl ?_
        refine sg_iald hx hb hK hP 23 (by decide) 0 rfl rfl (i := y2_15) (vp_in_iff.mpr ⟨by omega, by omega⟩) dX8_part_48 ?_
        refine lv_topi (fun v_17 ev_17 => ?_)
        have q_18 : 0 ≤ v_17.toInt ∧ v_17.toInt ≤ 255 := by rw [ev_17]; exact hI 23 _
        refine lv_iconst (v := 1) hx hb dX8_part_49 ic_1 ?_
        refine lv_iload_n hx hb dX8_part_50 rfl (lv_at hl 1 rfl) ?_
        refine lv_ishl hx hb dX8_part_51 ?_
        refine W.eq (g2 := F0 m 52 ls [.int 2, .int v_17, .int y2_15, .ref (h 23)]) (by rw [show ((1 : Int32) <<< ((1 : Int32) &&& 31) : Int32) = 2 from by decide]) ?_
        refine lv_iconst (v := (-1)) hx hb dX8_part_52 ic_m1 ?_
        refine lv_ixor hx hb dX8_part_53 ?_
        refine W.eq (g2 := F0 m 54 ls [.int (-3), .int v_17, .int y2_15, .ref (h 23)]) (by rw [show (2 ^^^ (-1) : Int32) = (-3) from by decide]) ?_
        refine lv_iand hx hb dX8_part_54 ?_
        refine lv_topi (fun v_19 ev_19 => ?_)
        have q_20 : 0 ≤ v_19.toInt ∧ v_19.toInt ≤ 255 := by rw [ev_19]; exact bn_and255 (x := v_17) (y := (-3)) (by omega) (by omega)
        refine sg_iast hx hb hh hA hK hP hS 23 (by decide) 0 (fun _ => rfl) rfl (i := y2_15) (x := v_19) (vp_in_iff.mpr ⟨by omega, by omega⟩) dX8_part_55 (fun f_21 H locs ef_21 hP hS => ?_)
        replace hs := hs.trans ((if_pos c_7).trans (spl_e ev_8 (spl_e ev_10 (spl_e ef_12 (spl_e u_16 (spl_e ev_17 (spl_e ev_19 (spl_e ef_21 rfl))))))))
        have hI : sgI loX hiX f_21 := by rw [ef_21]; exact sgI.put hI 23 y2_15.toNatClampNeg (show 0 ≤ (v_19 : Int32).toInt ∧ (v_19 : Int32).toInt ≤ 255 from q_20)
        have hF : sgK WkX8_part_1 f f_21 := sgK.put hF ef_21 (by rfl)
        refine lv_aload_n hx hb dX8_part_56 rfl (lv_at hl 0 rfl) ?_
        refine sl_gX_17_7_8 hx hb hts hown hK hP dX8_part_57 ?_
        refine lv_iload_n hx hb dX8_part_60 rfl (lv_at hl 2 rfl) ?_
        refine sg_iald hx hb hK hP 23 (by decide) 0 rfl rfl (i := y2_15) (vp_in_iff.mpr ⟨by omega, by omega⟩) dX8_part_61 ?_
        refine W.eq (g2 := F0 m 62 ls [.int v_19]) (by rw [show f_21 23 (Int32.toNatClampNeg y2_15) = v_19 from (by rw [ef_21, sg_up_s, sgu_s])]) ?_
        refine lv_if_ne (tgt := 66) hx hb dX8_part_62 (by decide) (fun c => ?_) (fun c => ?_)
        · skip
          have c_22 : v_19.toInt ≠ 0 := (by first | exact (cm_ne1 ti_0 c) | (have z := bn_ne c; have k1 : (0 : Int32).toInt = 0 := ti_0; omega))
          obtain ⟨v_24, ev_24⟩ : ∃ z : Int32, z = y2_15 + 1 := ⟨_, rfl⟩
          have q_25 : v_24.toInt = y2_15.toInt + 1 := by rw [ev_24]; exact (bn_addc y2_15 1 (by decide) (by omega) (by omega))
          refine lv_iinc (v := v_24) (lv' := [(2, .int v_24), (0, .ref (h 17)), (1, .int 1)]) hx hb dX8_part_66 hl (k := 2) rfl (by rw [ev_24]; rfl) (by decide) rfl (fun ls hl => ?_)
          refine lv_goto (tgt := 15) hx hb dX8_part_69 (by decide) ?_
          exact ih_15 v_24 f_21 _ _ _ (hs.trans ((if_neg c_22).trans (spl_e ev_24 rfl))) (by omega) (by have zz17_9 : (f_21 17 9).toInt = v_1.toInt := (congrArg Int32.toInt (show f_21 17 9 = v_1 from (by rw [ef_21, sg_up_n (by decide)]; exact ((hk_f_13 17 9 (by decide)).trans (by rw [ef_12, sg_up_n (by decide)]; exact ev_1.symm))))); exact ⟨by omega, by omega⟩) ⟨by omega, by omega⟩ hI hF hP hS (lv_sub hl [1, 2, 0] rfl)
        · skip
          have c_23 : v_19.toInt = 0 := (by first | exact (cm_eq1 ti_0 c) | (have z := Int32.toInt_inj.mpr c; have k1 : (0 : Int32).toInt = 0 := ti_0; omega))
          exact hret _ _ _ _ f_21 L Q dX8_part_65 hP hS ⟨⟨hI, hF, rfl, rfl⟩, (Eq.trans (Eq.symm (hs.trans ((if_pos c_23).trans rfl))) hsp)⟩
  refine lv_iload_n hx hb dX8_part_0 rfl (lv_at hl 1 rfl) ?_
  refine lv_aload_n hx hb dX8_part_1 rfl (lv_at hl 0 rfl) ?_
  refine sl_gX_17_9_8 (v := (f 17 9)) hx hb hts hown hK hP rfl dX8_part_2 ?_
  refine lv_topi (fun v_26 ev_26 => ?_)
  replace hs := hs.trans (spl_e ev_26 rfl)
  have q_27 : 0 ≤ v_26.toInt ∧ v_26.toInt ≤ 8 := by rw [ev_26]; exact hI 17 9
  refine lv_icmp_lt (tgt := 13) hx hb dX8_part_5 (by decide) (fun c => ?_) (fun c => ?_)
  · skip
    have c_28 : 1 < v_26.toInt := (by first | exact (cm_lt0 ti_1 c) | (have z := bn_lt c; have k0 : (1 : Int32).toInt = 1 := ti_1; omega))
    refine lv_iconst (v := 0) hx hb dX8_part_13 ic_0 ?_
    refine lv_istore_n (lv' := [(2, .int 0), (0, .ref (h 17)), (1, .int 1)]) hx hb dX8_part_14 rfl hl (by decide) rfl (fun ls hl => ?_)
    exact loop_15 4 0 f _ _ _ (hs.trans ((if_pos c_28).trans rfl)) (by have kc0 : (0 : Int32).toInt = 0 := ti_0; omega) (by have zz17_9 : (f 17 9).toInt = v_26.toInt := (congrArg Int32.toInt (show f 17 9 = v_26 from ev_26.symm)); exact ⟨by omega, by omega⟩) (by decide) hI hF hP hS (lv_sub hl [1, 2, 0] rfl)
  · skip
    have c_29 : v_26.toInt ≤ 1 := (by first | exact (cm_nlt0 ti_1 c) | (have z := bn_nlt c; have k0 : (1 : Int32).toInt = 1 := ti_1; omega))
    refine lv_aload_n hx hb dX8_part_8 rfl (lv_at hl 0 rfl) ?_
    refine sg_callv (va_runV (As := []) (rest := []) ⟨hx, hb, hml, hown, hts⟩ (kX8_weigh l D ca za h hh f L Q hI H.size) (sl_c8_weigh_0_0_0_0_8 hts ⟨Nat.le_of_ble_eq_true rfl, Nat.le_of_ble_eq_true rfl⟩) (sl_vX_17 hA hK hP hS hZ) rfl rfl hl.1 rfl (lv_room (Nat.le_of_ble_eq_true rfl)) dX8_part_9 ⟨Nat.le_refl _, Nat.le_refl _⟩) hA hS (fun f_30 L_31 Q_32 H locs hq hP hS => ?_)
    obtain ⟨⟨hI, hk_f_30, eL9, eQ9⟩, u_33⟩ := hq
    rw [eL9, eQ9] at hP; clear eL9 eQ9
    have hF : sgK WkX8_part_1 f f_30 := sgK.tr hF hk_f_30 (by decide +kernel)
    exact hret _ _ _ _ f_30 L Q dX8_part_12 hP hS ⟨⟨hI, hF, rfl, rfl⟩, (Eq.trans (Eq.symm (hs.trans ((if_neg (Int.not_lt.mpr c_29)).trans (spl_e u_33 rfl)))) hsp)⟩

abbrev WkX8_part_0 : List (Nat × Nat × Option Nat) := [(17, 17, some 11), (17, 17, some 12), (23, 23, none), (24, 24, none)]
set_option maxHeartbeats 4000000 in
set_option maxRecDepth 100000 in
theorem kX8_part_0 (l : Launch) (D : va_G) (ca : Nat → ClassId) (za h : Nat → Nat) (hh : sgH 52 h) (f : sg_F) (L : sg_L) (Q : sg_Q) (hI : sgI loX hiX f) (sz : Nat) : Met l yX8_part gwX8_part { frames := 9, cells := 0, slots := 0, locals := 198 } (sgP D vwCl (tyX ca) 52 h (eX ca h) zcX za f L Q sz [.ref (h 17), .int 0]) (sgQv D vwCl 52 h (eX ca h) sz (fun f1 L1 Q1 => ((sgI loX hiX f1 ∧ sgK WkX8_part_0 f f1 ∧ L1 = L ∧ Q1 = Q) ∧ (f1) = sX8_part_0 f L))) 0 0 (sgA 52 h sz) := by
  refine sg_ofWv (cc := cX8_part) (maxL := 3) RX8 (by decide) rfl rfl (Nat.le_of_ble_eq_true rfl) ?_
  intro p e s m below meth cd Qz ls hx hb hml hown hts hK hZ hP hS hl hret
  have hA := sgY.self (n := 52) (h := h) (sz := s.heap.size)
  have hl : lv_has ls 3 [(0, .ref (h 17)), (1, .int 0)] := hl
  obtain ⟨H, hH⟩ : ∃ z : Heap, z = s.heap := ⟨_, rfl⟩
  obtain ⟨locs, hlo⟩ : ∃ z : List Loc, z = [] := ⟨_, rfl⟩
  have hP : va_P D vwCl (sgw 52 h (eX ca h) f L Q) H := by rw [hH]; exact hP
  have hS : va_S (sgA 52 h s.heap.size) s.heap H locs := by rw [hH, hlo]; exact hS
  suffices hgo : W p l e ({ frames := 9, cells := 0, slots := 0, locals := 198 }) s m ([.ref (h 17), .int 0] : List Value).toArray below meth cd H locs 0 0 Qz (F0 m 0 ls []) by rw [hH, hlo] at hgo; exact hgo
  clear hH hlo
  obtain ⟨sp, hsp⟩ : ∃ z : sg_F, z = sX8_part_0 f L := ⟨_, rfl⟩
  have hs : sp = sX8_part_0 f L := hsp
  have hF : sgK WkX8_part_0 f f := sgK.rf
  have loop_15 : ∀ (n_15 : Nat) (y2_15 : Int32) (fp_15 : sg_F) (H : Heap) (locs : List Loc) (ls : Array Slot), sp = sX8_part_0_l15 n_15 y2_15 fp_15 L → 3 - y2_15.toInt < (n_15 : Int) → 1 ≤ (fp_15 17 9).toInt ∧ (fp_15 17 9).toInt ≤ 8 → 0 ≤ y2_15.toInt ∧ y2_15.toInt ≤ 3 → sgI loX hiX fp_15 → sgK WkX8_part_0 f fp_15 → va_P D vwCl (sgw 52 h (eX ca h) fp_15 L Q) H → va_S (sgA 52 h s.heap.size) s.heap H locs → lv_has ls 3 [(0, .ref (h 17)), (1, .int 0), (2, .int y2_15)] → W p l e ({ frames := 9, cells := 0, slots := 0, locals := 198 }) s m ([.ref (h 17), .int 0] : List Value).toArray below meth cd H locs 0 0 Qz (F0 m 15 ls []) := by
    intro n_15
    induction n_15 with
    | zero => intro y2_15 fp_15 H locs ls hs hm_15 hy0_15 hy1_15 hI hF hP hS hl; exact absurd hm_15 (by omega)
    | succ n_15 ih_15 =>
      intro y2_15 fp_15 H locs ls hs hm_15 hy0_15 hy1_15 hI hF hP hS hl
      have hs : sp = sX8_part_0_h15 (sX8_part_0_l15 n_15) y2_15 fp_15 L := hs
      obtain ⟨v_1, ev_1⟩ : ∃ z : Int32, z = fp_15 17 9 := ⟨_, rfl⟩
      have q_2 : 0 ≤ v_1.toInt ∧ v_1.toInt ≤ 8 := by rw [ev_1]; exact hI 17 9
      have q_3 : (fp_15 17 9).toInt = v_1.toInt := by rw [ev_1]
      refine lv_iload_n hx hb dX8_part_15 rfl (lv_at hl 2 rfl) ?_
      refine lv_aload_n hx hb dX8_part_16 rfl (lv_at hl 0 rfl) ?_
      refine sl_gX_17_10_8 (v := (fp_15 17 10)) hx hb hts hown hK hP rfl dX8_part_17 ?_
      refine lv_topi (fun v_4 ev_4 => ?_)
      replace hs := hs.trans (spl_e ev_1 (spl_e ev_4 rfl))
      have q_5 : 0 ≤ v_4.toInt ∧ v_4.toInt ≤ 3 := by rw [ev_4]; exact hI 17 10
      refine lv_icmp_ge (tgt := 72) hx hb dX8_part_20 (by decide) (fun c => ?_) (fun c => ?_)
      · skip
        have c_6 : v_4.toInt ≤ y2_15.toInt := (by first | exact (bn_le c) | (have z := bn_le c; omega))
        exact hret _ _ _ _ fp_15 L Q dX8_part_72 hP hS ⟨⟨hI, hF, rfl, rfl⟩, (Eq.trans (Eq.symm (hs.trans ((if_neg (Int.not_lt.mpr c_6)).trans rfl))) hsp)⟩
      · skip
        have c_7 : y2_15.toInt < v_4.toInt := (by first | exact (bn_nle c) | (have z := bn_nle c; omega))
        refine lv_aload_n hx hb dX8_part_23 rfl (lv_at hl 0 rfl) ?_
        refine sl_gX_17_7_8 hx hb hts hown hK hP dX8_part_24 ?_
        refine lv_iload_n hx hb dX8_part_27 rfl (lv_at hl 2 rfl) ?_
        refine lv_dup2_11 hx hb dX8_part_28 rfl rfl ?_
        refine sg_iald hx hb hK hP 23 (by decide) 0 rfl rfl (i := y2_15) (vp_in_iff.mpr ⟨by omega, by omega⟩) dX8_part_29 ?_
        refine lv_topi (fun v_8 ev_8 => ?_)
        have q_9 : 0 ≤ v_8.toInt ∧ v_8.toInt ≤ 255 := by rw [ev_8]; exact hI 23 _
        refine lv_iconst (v := 1) hx hb dX8_part_30 ic_1 ?_
        refine lv_iload_n hx hb dX8_part_31 rfl (lv_at hl 1 rfl) ?_
        refine lv_ishl hx hb dX8_part_32 ?_
        refine W.eq (g2 := F0 m 33 ls [.int 1, .int v_8, .int y2_15, .ref (h 23)]) (by rw [show ((1 : Int32) <<< ((0 : Int32) &&& 31) : Int32) = 1 from by decide]) ?_
        refine lv_ior hx hb dX8_part_33 ?_
        refine lv_topi (fun v_10 ev_10 => ?_)
        have q_11 : 0 ≤ v_10.toInt ∧ v_10.toInt ≤ 255 := by rw [ev_10]; have k1 : (1 : Int32).toInt = 1 := ti_1; exact bn_or255 (x := v_8) (y := 1) (by omega) (by omega) (by omega) (by omega)
        refine sg_iast hx hb hh hA hK hP hS 23 (by decide) 0 (fun _ => rfl) rfl (i := y2_15) (x := v_10) (vp_in_iff.mpr ⟨by omega, by omega⟩) dX8_part_34 (fun f_12 H locs ef_12 hP hS => ?_)
        have hI : sgI loX hiX f_12 := by rw [ef_12]; exact sgI.put hI 23 y2_15.toNatClampNeg (show 0 ≤ (v_10 : Int32).toInt ∧ (v_10 : Int32).toInt ≤ 255 from q_11)
        have hF : sgK WkX8_part_0 f f_12 := sgK.put hF ef_12 (by rfl)
        refine lv_aload_n hx hb dX8_part_35 rfl (lv_at hl 0 rfl) ?_
        refine lv_iload_n hx hb dX8_part_36 rfl (lv_at hl 1 rfl) ?_
        refine lv_iconst (v := 1) hx hb dX8_part_37 ic_1 ?_
        refine lv_iadd hx hb dX8_part_38 ?_
        refine W.eq (g2 := F0 m 39 ls [.int 1, .ref (h 17)]) (by rw [show (0 + 1 : Int32) = 1 from by decide]) ?_
        refine sg_callv (va_runV (As := [.int 1]) (rest := []) ⟨hx, hb, hml, hown, hts⟩ (kX8_part_1 l D ca za h hh f_12 L Q hI H.size) (sl_c8_part_8_0_0_176_8 hts ⟨Nat.le_of_ble_eq_true rfl, Nat.le_of_ble_eq_true rfl⟩) (sl_vX_17 hA hK hP hS hZ) rfl rfl hl.1 rfl (lv_room (Nat.le_of_ble_eq_true rfl)) dX8_part_39 ⟨Nat.le_refl _, Nat.le_refl _⟩) hA hS (fun f_13 L_14 Q_15 H locs hq hP hS => ?_)
        obtain ⟨⟨hI, hk_f_13, eL9, eQ9⟩, u_16⟩ := hq
        rw [eL9, eQ9] at hP; clear eL9 eQ9
        have hF : sgK WkX8_part_0 f f_13 := sgK.tr hF hk_f_13 (by decide +kernel)
        refine lv_aload_n hx hb dX8_part_42 rfl (lv_at hl 0 rfl) ?_
        refine sl_gX_17_7_8 hx hb hts hown hK hP dX8_part_43 ?_
        refine lv_iload_n hx hb dX8_part_46 rfl (lv_at hl 2 rfl) ?_
        refine lv_dup2_11 hx hb dX8_part_47 rfl rfl ?_
        refine sg_iald hx hb hK hP 23 (by decide) 0 rfl rfl (i := y2_15) (vp_in_iff.mpr ⟨by omega, by omega⟩) dX8_part_48 ?_
        refine lv_topi (fun v_17 ev_17 => ?_)
        have q_18 : 0 ≤ v_17.toInt ∧ v_17.toInt ≤ 255 := by rw [ev_17]; exact hI 23 _
        refine lv_iconst (v := 1) hx hb dX8_part_49 ic_1 ?_
        refine lv_iload_n hx hb dX8_part_50 rfl (lv_at hl 1 rfl) ?_
        refine lv_ishl hx hb dX8_part_51 ?_
        refine W.eq (g2 := F0 m 52 ls [.int 1, .int v_17, .int y2_15, .ref (h 23)]) (by rw [show ((1 : Int32) <<< ((0 : Int32) &&& 31) : Int32) = 1 from by decide]) ?_
        refine lv_iconst (v := (-1)) hx hb dX8_part_52 ic_m1 ?_
        refine lv_ixor hx hb dX8_part_53 ?_
        refine W.eq (g2 := F0 m 54 ls [.int (-2), .int v_17, .int y2_15, .ref (h 23)]) (by rw [show (1 ^^^ (-1) : Int32) = (-2) from by decide]) ?_
        refine lv_iand hx hb dX8_part_54 ?_
        refine lv_topi (fun v_19 ev_19 => ?_)
        have q_20 : 0 ≤ v_19.toInt ∧ v_19.toInt ≤ 255 := by rw [ev_19]; exact bn_and255 (x := v_17) (y := (-2)) (by omega) (by omega)
        refine sg_iast hx hb hh hA hK hP hS 23 (by decide) 0 (fun _ => rfl) rfl (i := y2_15) (x := v_19) (vp_in_iff.mpr ⟨by omega, by omega⟩) dX8_part_55 (fun f_21 H locs ef_21 hP hS => ?_)
        replace hs := hs.trans ((if_pos c_7).trans (spl_e ev_8 (spl_e ev_10 (spl_e ef_12 (spl_e u_16 (spl_e ev_17 (spl_e ev_19 (spl_e ef_21 rfl))))))))
        have hI : sgI loX hiX f_21 := by rw [ef_21]; exact sgI.put hI 23 y2_15.toNatClampNeg (show 0 ≤ (v_19 : Int32).toInt ∧ (v_19 : Int32).toInt ≤ 255 from q_20)
        have hF : sgK WkX8_part_0 f f_21 := sgK.put hF ef_21 (by rfl)
        refine lv_aload_n hx hb dX8_part_56 rfl (lv_at hl 0 rfl) ?_
        refine sl_gX_17_7_8 hx hb hts hown hK hP dX8_part_57 ?_
        refine lv_iload_n hx hb dX8_part_60 rfl (lv_at hl 2 rfl) ?_
        refine sg_iald hx hb hK hP 23 (by decide) 0 rfl rfl (i := y2_15) (vp_in_iff.mpr ⟨by omega, by omega⟩) dX8_part_61 ?_
        refine W.eq (g2 := F0 m 62 ls [.int v_19]) (by rw [show f_21 23 (Int32.toNatClampNeg y2_15) = v_19 from (by rw [ef_21, sg_up_s, sgu_s])]) ?_
        refine lv_if_ne (tgt := 66) hx hb dX8_part_62 (by decide) (fun c => ?_) (fun c => ?_)
        · skip
          have c_22 : v_19.toInt ≠ 0 := (by first | exact (cm_ne1 ti_0 c) | (have z := bn_ne c; have k1 : (0 : Int32).toInt = 0 := ti_0; omega))
          obtain ⟨v_24, ev_24⟩ : ∃ z : Int32, z = y2_15 + 1 := ⟨_, rfl⟩
          have q_25 : v_24.toInt = y2_15.toInt + 1 := by rw [ev_24]; exact (bn_addc y2_15 1 (by decide) (by omega) (by omega))
          refine lv_iinc (v := v_24) (lv' := [(2, .int v_24), (0, .ref (h 17)), (1, .int 0)]) hx hb dX8_part_66 hl (k := 2) rfl (by rw [ev_24]; rfl) (by decide) rfl (fun ls hl => ?_)
          refine lv_goto (tgt := 15) hx hb dX8_part_69 (by decide) ?_
          exact ih_15 v_24 f_21 _ _ _ (hs.trans ((if_neg c_22).trans (spl_e ev_24 rfl))) (by omega) (by have zz17_9 : (f_21 17 9).toInt = v_1.toInt := (congrArg Int32.toInt (show f_21 17 9 = v_1 from (by rw [ef_21, sg_up_n (by decide)]; exact ((hk_f_13 17 9 (by decide)).trans (by rw [ef_12, sg_up_n (by decide)]; exact ev_1.symm))))); exact ⟨by omega, by omega⟩) ⟨by omega, by omega⟩ hI hF hP hS (lv_sub hl [1, 2, 0] rfl)
        · skip
          have c_23 : v_19.toInt = 0 := (by first | exact (cm_eq1 ti_0 c) | (have z := Int32.toInt_inj.mpr c; have k1 : (0 : Int32).toInt = 0 := ti_0; omega))
          exact hret _ _ _ _ f_21 L Q dX8_part_65 hP hS ⟨⟨hI, hF, rfl, rfl⟩, (Eq.trans (Eq.symm (hs.trans ((if_pos c_23).trans rfl))) hsp)⟩
  refine lv_iload_n hx hb dX8_part_0 rfl (lv_at hl 1 rfl) ?_
  refine lv_aload_n hx hb dX8_part_1 rfl (lv_at hl 0 rfl) ?_
  refine sl_gX_17_9_8 (v := (f 17 9)) hx hb hts hown hK hP rfl dX8_part_2 ?_
  refine lv_topi (fun v_26 ev_26 => ?_)
  replace hs := hs.trans (spl_e ev_26 rfl)
  have q_27 : 0 ≤ v_26.toInt ∧ v_26.toInt ≤ 8 := by rw [ev_26]; exact hI 17 9
  refine lv_icmp_lt (tgt := 13) hx hb dX8_part_5 (by decide) (fun c => ?_) (fun c => ?_)
  · skip
    have c_28 : 0 < v_26.toInt := (by first | exact (cm_lt0 ti_0 c) | (have z := bn_lt c; have k0 : (0 : Int32).toInt = 0 := ti_0; omega))
    refine lv_iconst (v := 0) hx hb dX8_part_13 ic_0 ?_
    refine lv_istore_n (lv' := [(2, .int 0), (0, .ref (h 17)), (1, .int 0)]) hx hb dX8_part_14 rfl hl (by decide) rfl (fun ls hl => ?_)
    exact loop_15 4 0 f _ _ _ (hs.trans ((if_pos c_28).trans rfl)) (by have kc0 : (0 : Int32).toInt = 0 := ti_0; omega) (by have zz17_9 : (f 17 9).toInt = v_26.toInt := (congrArg Int32.toInt (show f 17 9 = v_26 from ev_26.symm)); exact ⟨by omega, by omega⟩) (by decide) hI hF hP hS (lv_sub hl [1, 2, 0] rfl)
  · skip
    have c_29 : v_26.toInt ≤ 0 := (by first | exact (cm_nlt0 ti_0 c) | (have z := bn_nlt c; have k0 : (0 : Int32).toInt = 0 := ti_0; omega))
    refine lv_aload_n hx hb dX8_part_8 rfl (lv_at hl 0 rfl) ?_
    refine sg_callv (va_runV (As := []) (rest := []) ⟨hx, hb, hml, hown, hts⟩ (kX8_weigh l D ca za h hh f L Q hI H.size) (sl_c8_weigh_0_0_0_0_8 hts ⟨Nat.le_of_ble_eq_true rfl, Nat.le_of_ble_eq_true rfl⟩) (sl_vX_17 hA hK hP hS hZ) rfl rfl hl.1 rfl (lv_room (Nat.le_of_ble_eq_true rfl)) dX8_part_9 ⟨Nat.le_refl _, Nat.le_refl _⟩) hA hS (fun f_30 L_31 Q_32 H locs hq hP hS => ?_)
    obtain ⟨⟨hI, hk_f_30, eL9, eQ9⟩, u_33⟩ := hq
    rw [eL9, eQ9] at hP; clear eL9 eQ9
    have hF : sgK WkX8_part_0 f f_30 := sgK.tr hF hk_f_30 (by decide +kernel)
    exact hret _ _ _ _ f_30 L Q dX8_part_12 hP hS ⟨⟨hI, hF, rfl, rfl⟩, (Eq.trans (Eq.symm (hs.trans ((if_neg (Int.not_lt.mpr c_29)).trans (spl_e u_33 rfl)))) hsp)⟩

set_option maxHeartbeats 4000000 in
set_option maxRecDepth 100000 in
theorem kX8_chairOf (l : Launch) (D : va_G) (ca : Nat → ClassId) (za h : Nat → Nat) (hh : sgH 52 h) (f : sg_F) (L : sg_L) (Q : sg_Q) (hI : sgI loX hiX f) (x0 : Int32) (b0 : 0 ≤ x0.toInt ∧ x0.toInt ≤ 7) (sz : Nat) : Met l yX8_chairOf gwX8_chairOf { frames := 0, cells := 0, slots := 0, locals := 0 } (sgP D vwCl (tyX ca) 52 h (eX ca h) zcX za f L Q sz [.ref (h 17), .int x0]) (sgQi D vwCl 52 h (eX ca h) sz (fun r f1 L1 Q1 => ((f1 = f ∧ L1 = L ∧ Q1 = Q) ∧ ((-2) ≤ r.toInt ∧ r.toInt ≤ 2) ∧ (r) = sX8_chairOf x0 f L))) 0 0 (sgA 52 h sz) := by
  refine sg_ofWi (cc := cX8_chairOf) (maxL := 4) RX8 (by decide) rfl rfl (Nat.le_of_ble_eq_true rfl) ?_
  intro p e s m below meth cd Qz ls hx hb hml hown hts hK hZ hP hS hl hret
  have hA := sgY.self (n := 52) (h := h) (sz := s.heap.size)
  have hl : lv_has ls 4 [(0, .ref (h 17)), (1, .int x0)] := hl
  obtain ⟨H, hH⟩ : ∃ z : Heap, z = s.heap := ⟨_, rfl⟩
  obtain ⟨locs, hlo⟩ : ∃ z : List Loc, z = [] := ⟨_, rfl⟩
  have hP : va_P D vwCl (sgw 52 h (eX ca h) f L Q) H := by rw [hH]; exact hP
  have hS : va_S (sgA 52 h s.heap.size) s.heap H locs := by rw [hH, hlo]; exact hS
  suffices hgo : W p l e ({ frames := 0, cells := 0, slots := 0, locals := 0 }) s m ([.ref (h 17), .int x0] : List Value).toArray below meth cd H locs 0 0 Qz (F0 m 0 ls []) by rw [hH, hlo] at hgo; exact hgo
  clear hH hlo
  obtain ⟨sp, hsp⟩ : ∃ z : Int32, z = sX8_chairOf x0 f L := ⟨_, rfl⟩
  have hs : sp = sX8_chairOf x0 f L := hsp
  have loop_2 : ∀ (n_2 : Nat) (y2_2 : Int32) (H : Heap) (locs : List Loc) (ls : Array Slot), sp = sX8_chairOf_l2 x0 n_2 y2_2 f L → 8 - y2_2.toInt < (n_2 : Int) → 0 ≤ y2_2.toInt ∧ y2_2.toInt ≤ 8 → va_P D vwCl (sgw 52 h (eX ca h) f L Q) H → va_S (sgA 52 h s.heap.size) s.heap H locs → lv_has ls 4 [(0, .ref (h 17)), (1, .int x0), (2, .int y2_2)] → W p l e ({ frames := 0, cells := 0, slots := 0, locals := 0 }) s m ([.ref (h 17), .int x0] : List Value).toArray below meth cd H locs 0 0 Qz (F0 m 2 ls []) := by
    intro n_2
    induction n_2 with
    | zero => intro y2_2 H locs ls hs hm_2 hy0_2 hP hS hl; exact absurd hm_2 (by omega)
    | succ n_2 ih_2 =>
      have loop_12 : ∀ (n_12 : Nat) (y2_12 : Int32) (y3_12 : Int32) (H : Heap) (locs : List Loc) (ls : Array Slot), sp = sX8_chairOf_l12 (sX8_chairOf_l2 x0 n_2) x0 n_12 y2_12 y3_12 f L → 3 - y3_12.toInt < (n_12 : Int) → 8 - y2_12.toInt < ((n_2 + 1 : Nat) : Int) → 1 ≤ (f 17 9).toInt ∧ (f 17 9).toInt ≤ 8 → 0 ≤ y2_12.toInt ∧ y2_12.toInt ≤ 7 → 0 ≤ y3_12.toInt ∧ y3_12.toInt ≤ 3 → va_P D vwCl (sgw 52 h (eX ca h) f L Q) H → va_S (sgA 52 h s.heap.size) s.heap H locs → lv_has ls 4 [(0, .ref (h 17)), (1, .int x0), (2, .int y2_12), (3, .int y3_12)] → W p l e ({ frames := 0, cells := 0, slots := 0, locals := 0 }) s m ([.ref (h 17), .int x0] : List Value).toArray below meth cd H locs 0 0 Qz (F0 m 12 ls []) := by
        intro n_12
        induction n_12 with
        | zero => intro y2_12 y3_12 H locs ls hs hm_12 hm_2 hy0_12 hy1_12 hy2_12 hP hS hl; exact absurd hm_12 (by omega)
        | succ n_12 ih_12 =>
          have blk_42 : ∀ (y2_42 : Int32) (y3_42 : Int32) (H : Heap) (locs : List Loc) (ls : Array Slot), sp = sX8_chairOf_b42 (sX8_chairOf_l2 x0 n_2) (sX8_chairOf_l12 (sX8_chairOf_l2 x0 n_2) x0 n_12) x0 y2_42 y3_42 f L → 8 - y2_42.toInt < ((n_2 + 1 : Nat) : Int) → 3 - y3_42.toInt < ((n_12 + 1 : Nat) : Int) → 1 ≤ (f 17 9).toInt ∧ (f 17 9).toInt ≤ 8 → 0 ≤ y2_42.toInt ∧ y2_42.toInt ≤ 7 → 0 ≤ y3_42.toInt ∧ y3_42.toInt ≤ 2 → va_P D vwCl (sgw 52 h (eX ca h) f L Q) H → va_S (sgA 52 h s.heap.size) s.heap H locs → lv_has ls 4 [(0, .ref (h 17)), (1, .int x0), (2, .int y2_42), (3, .int y3_42)] → W p l e ({ frames := 0, cells := 0, slots := 0, locals := 0 }) s m ([.ref (h 17), .int x0] : List Value).toArray below meth cd H locs 0 0 Qz (F0 m 42 ls []) := by
            intro y2_42 y3_42 H locs ls hs hm_2 hm_12 hy0_42 hy1_42 hy2_42 hP hS hl
            obtain ⟨v_1, ev_1⟩ : ∃ z : Int32, z = f 17 9 := ⟨_, rfl⟩
            have q_2 : 0 ≤ v_1.toInt ∧ v_1.toInt ≤ 8 := by rw [ev_1]; exact hI 17 9
            have q_3 : (f 17 9).toInt = v_1.toInt := by rw [ev_1]
            obtain ⟨v_4, ev_4⟩ : ∃ z : Int32, z = y3_42 + 1 := ⟨_, rfl⟩
            have q_5 : v_4.toInt = y3_42.toInt + 1 := by rw [ev_4]; exact (bn_addc y3_42 1 (by decide) (by omega) (by omega))
            refine lv_iinc (v := v_4) (lv' := [(3, .int v_4), (0, .ref (h 17)), (1, .int x0), (2, .int y2_42)]) hx hb dX8_chairOf_42 hl (k := 3) rfl (by rw [ev_4]; rfl) (by decide) rfl (fun ls hl => ?_)
            refine lv_goto (tgt := 12) hx hb dX8_chairOf_45 (by decide) ?_
            exact ih_12 y2_42 v_4 _ _ _ (hs.trans ((spl_e ev_1 (spl_e ev_4 rfl)))) (by omega) hm_2 (by have zz17_9 : (f 17 9).toInt = v_1.toInt := (congrArg Int32.toInt (show f 17 9 = v_1 from ev_1.symm)); exact ⟨by omega, by omega⟩) hy1_42 ⟨by omega, by omega⟩ hP hS (lv_sub hl [1, 2, 3, 0] rfl)
          intro y2_12 y3_12 H locs ls hs hm_12 hm_2 hy0_12 hy1_12 hy2_12 hP hS hl
          have hs : sp = sX8_chairOf_h12 (sX8_chairOf_l2 x0 n_2) x0 (sX8_chairOf_l12 (sX8_chairOf_l2 x0 n_2) x0 n_12) y2_12 y3_12 f L := hs
          obtain ⟨v_6, ev_6⟩ : ∃ z : Int32, z = f 17 9 := ⟨_, rfl⟩
          replace hs := hs.trans (spl_e ev_6 rfl)
          have q_7 : 0 ≤ v_6.toInt ∧ v_6.toInt ≤ 8 := by rw [ev_6]; exact hI 17 9
          have q_8 : (f 17 9).toInt = v_6.toInt := by rw [ev_6]
          refine lv_iload_n hx hb dX8_chairOf_12 rfl (lv_at hl 3 rfl) ?_
          refine lv_iconst (v := 3) hx hb dX8_chairOf_13 ic_3 ?_
          refine lv_icmp_ge (tgt := 48) hx hb dX8_chairOf_14 (by decide) (fun c => ?_) (fun c => ?_)
          · skip
            have c_9 : 3 ≤ y3_12.toInt := (by first | exact (cm_le0 ti_3 c) | (have z := bn_le c; have k1 : (3 : Int32).toInt = 3 := ti_3; omega))
            obtain ⟨v_11, ev_11⟩ : ∃ z : Int32, z = y2_12 + 1 := ⟨_, rfl⟩
            have q_12 : v_11.toInt = y2_12.toInt + 1 := by rw [ev_11]; exact (bn_addc y2_12 1 (by decide) (by omega) (by omega))
            refine lv_iinc (v := v_11) (lv' := [(2, .int v_11), (0, .ref (h 17)), (1, .int x0), (3, .int y3_12)]) hx hb dX8_chairOf_48 hl (k := 2) rfl (by rw [ev_11]; rfl) (by decide) rfl (fun ls hl => ?_)
            refine lv_goto (tgt := 2) hx hb dX8_chairOf_51 (by decide) ?_
            exact ih_2 v_11 _ _ _ (hs.trans ((if_neg (Int.not_lt.mpr c_9)).trans (spl_e ev_11 rfl))) (by omega) ⟨by omega, by omega⟩ hP hS (lv_sub hl [1, 2, 0] rfl)
          · skip
            have c_10 : y3_12.toInt < 3 := (by first | exact (cm_nle0 ti_3 c) | (have z := bn_nle c; have k1 : (3 : Int32).toInt = 3 := ti_3; omega))
            refine lv_aload_n hx hb dX8_chairOf_17 rfl (lv_at hl 0 rfl) ?_
            refine sl_gX_17_4_8 hx hb hts hown hK hP dX8_chairOf_18 ?_
            refine lv_iload_n hx hb dX8_chairOf_21 rfl (lv_at hl 2 rfl) ?_
            refine sg_iald hx hb hK hP 20 (by decide) 0 rfl rfl (i := y2_12) (vp_in_iff.mpr ⟨by omega, by omega⟩) dX8_chairOf_22 ?_
            refine lv_topi (fun v_13 ev_13 => ?_)
            replace hs := hs.trans ((if_pos c_10).trans (spl_e ev_13 rfl))
            have q_14 : 0 ≤ v_13.toInt ∧ v_13.toInt ≤ 7 := by rw [ev_13]; exact hI 20 _
            refine lv_iload_n hx hb dX8_chairOf_23 rfl (lv_at hl 1 rfl) ?_
            refine lv_icmp_ne (tgt := 42) hx hb dX8_chairOf_24 (by decide) (fun c => ?_) (fun c => ?_)
            · skip
              have c_15 : v_13.toInt ≠ x0.toInt := (by first | exact (bn_ne c) | (have z := bn_ne c; omega))
              exact blk_42 y2_12 y3_12 _ _ _ (hs.trans ((if_neg c_15).trans rfl)) hm_2 (by omega) (by have zz17_9 : (f 17 9).toInt = v_6.toInt := (congrArg Int32.toInt (show f 17 9 = v_6 from ev_6.symm)); exact ⟨by omega, by omega⟩) hy1_12 ⟨by omega, by omega⟩ hP hS (lv_sub hl [0, 1, 2, 3] rfl)
            · skip
              have c_16 : v_13.toInt = x0.toInt := (by first | exact (Int32.toInt_inj.mpr c) | (have z := Int32.toInt_inj.mpr c; omega))
              refine lv_aload_n hx hb dX8_chairOf_27 rfl (lv_at hl 0 rfl) ?_
              refine sl_gX_17_8_8 hx hb hts hown hK hP dX8_chairOf_28 ?_
              refine lv_iload_n hx hb dX8_chairOf_31 rfl (lv_at hl 3 rfl) ?_
              refine sg_iald hx hb hK hP 24 (by decide) 0 rfl rfl (i := y3_12) (vp_in_iff.mpr ⟨by omega, by omega⟩) dX8_chairOf_32 ?_
              refine lv_topi (fun v_17 ev_17 => ?_)
              have q_18 : 0 ≤ v_17.toInt ∧ v_17.toInt ≤ 255 := by rw [ev_17]; exact hI 24 _
              refine lv_iload_n hx hb dX8_chairOf_33 rfl (lv_at hl 2 rfl) ?_
              refine lv_ishr hx hb dX8_chairOf_34 ?_
              refine lv_topi (fun v_19 ev_19 => ?_)
              refine lv_iconst (v := 1) hx hb dX8_chairOf_35 ic_1 ?_
              refine lv_iand hx hb dX8_chairOf_36 ?_
              refine lv_topi (fun v_20 ev_20 => ?_)
              replace hs := hs.trans ((if_pos c_16).trans (spl_e ev_17 (spl_e ev_19 (spl_e ev_20 rfl))))
              have q_21 : 0 ≤ v_20.toInt ∧ v_20.toInt ≤ 1 := by rw [ev_20]; exact bn_and1c v_19
              refine lv_if_eq (tgt := 42) hx hb dX8_chairOf_37 (by decide) (fun c => ?_) (fun c => ?_)
              · skip
                have c_22 : v_20.toInt = 0 := (by first | exact (cm_eq1 ti_0 c) | (have z := Int32.toInt_inj.mpr c; have k1 : (0 : Int32).toInt = 0 := ti_0; omega))
                exact blk_42 y2_12 y3_12 _ _ _ (hs.trans ((if_pos c_22).trans rfl)) hm_2 (by omega) (by have zz17_9 : (f 17 9).toInt = v_6.toInt := (congrArg Int32.toInt (show f 17 9 = v_6 from ev_6.symm)); exact ⟨by omega, by omega⟩) hy1_12 ⟨by omega, by omega⟩ hP hS (lv_sub hl [0, 1, 2, 3] rfl)
              · skip
                have c_23 : v_20.toInt ≠ 0 := (by first | exact (cm_ne1 ti_0 c) | (have z := bn_ne c; have k1 : (0 : Int32).toInt = 0 := ti_0; omega))
                refine lv_iload_n hx hb dX8_chairOf_40 rfl (lv_at hl 3 rfl) ?_
                exact hret _ _ _ _ (y3_12) f L Q dX8_chairOf_41 hP hS ⟨⟨rfl, rfl, rfl⟩, ⟨by omega, by omega⟩, (Eq.trans (Eq.symm (hs.trans ((if_neg c_23).trans rfl))) hsp)⟩
      intro y2_2 H locs ls hs hm_2 hy0_2 hP hS hl
      have hs : sp = sX8_chairOf_h2 x0 (sX8_chairOf_l2 x0 n_2) y2_2 f L := hs
      refine lv_iload_n hx hb dX8_chairOf_2 rfl (lv_at hl 2 rfl) ?_
      refine lv_aload_n hx hb dX8_chairOf_3 rfl (lv_at hl 0 rfl) ?_
      refine sl_gX_17_9_8 (v := (f 17 9)) hx hb hts hown hK hP rfl dX8_chairOf_4 ?_
      refine lv_topi (fun v_24 ev_24 => ?_)
      replace hs := hs.trans (spl_e ev_24 rfl)
      have q_25 : 0 ≤ v_24.toInt ∧ v_24.toInt ≤ 8 := by rw [ev_24]; exact hI 17 9
      refine lv_icmp_ge (tgt := 54) hx hb dX8_chairOf_7 (by decide) (fun c => ?_) (fun c => ?_)
      · skip
        have c_26 : v_24.toInt ≤ y2_2.toInt := (by first | exact (bn_le c) | (have z := bn_le c; omega))
        refine lv_bipush (v := (-2)) hx hb dX8_chairOf_54 bp_m2 ?_
        have k99 : ((-2) : Int32).toInt = (-2) := ti_m2
        exact hret _ _ _ _ (-2) f L Q dX8_chairOf_56 hP hS ⟨⟨rfl, rfl, rfl⟩, (by decide), (Eq.trans (Eq.symm (hs.trans ((if_neg (Int.not_lt.mpr c_26)).trans rfl))) hsp)⟩
      · skip
        have c_27 : y2_2.toInt < v_24.toInt := (by first | exact (bn_nle c) | (have z := bn_nle c; omega))
        refine lv_iconst (v := 0) hx hb dX8_chairOf_10 ic_0 ?_
        refine lv_istore_n (lv' := [(3, .int 0), (0, .ref (h 17)), (1, .int x0), (2, .int y2_2)]) hx hb dX8_chairOf_11 rfl hl (by decide) rfl (fun ls hl => ?_)
        exact loop_12 4 y2_2 0 _ _ _ (hs.trans ((if_pos c_27).trans rfl)) (by have kc1 : (0 : Int32).toInt = 0 := ti_0; omega) (by have kc1 : (0 : Int32).toInt = 0 := ti_0; omega) (by have zz17_9 : (f 17 9).toInt = v_24.toInt := (congrArg Int32.toInt (show f 17 9 = v_24 from ev_24.symm)); exact ⟨by omega, by omega⟩) ⟨by omega, by omega⟩ (by decide) hP hS (lv_sub hl [1, 2, 3, 0] rfl)
  refine lv_iconst (v := 0) hx hb dX8_chairOf_0 ic_0 ?_
  refine lv_istore_n (lv' := [(2, .int 0), (0, .ref (h 17)), (1, .int x0)]) hx hb dX8_chairOf_1 rfl hl (by decide) rfl (fun ls hl => ?_)
  exact loop_2 9 0 _ _ _ hs (by have kc0 : (0 : Int32).toInt = 0 := ti_0; omega) (by decide) hP hS (lv_sub hl [1, 2, 0] rfl)

abbrev WkX8_parted : List (Nat × Nat × Option Nat) := [(8, 8, none), (9, 9, none), (17, 17, some 9), (17, 17, some 10), (17, 17, some 11), (17, 17, some 12), (20, 20, none), (21, 21, none), (22, 22, none), (23, 23, none), (24, 24, none)]
set_option maxHeartbeats 4000000 in
set_option maxRecDepth 100000 in
theorem kX8_parted (l : Launch) (D : va_G) (ca : Nat → ClassId) (za h : Nat → Nat) (hh : sgH 52 h) (f : sg_F) (L : sg_L) (Q : sg_Q) (hI : sgI loX hiX f) (x0 : Int32) (x1 : Int32) (x2 : Int32) (b0 : 0 ≤ x0.toInt ∧ x0.toInt ≤ 2) (b1 : 1 ≤ x1.toInt ∧ x1.toInt ≤ 3) (b2 : (-1) ≤ x2.toInt ∧ x2.toInt ≤ 7) (sz : Nat) : Met l yX8_parted gwX8_parted { frames := 10, cells := 0, slots := 0, locals := 220 } (sgP D vwCl (tyX ca) 52 h (eX ca h) zcX za f L Q sz [.ref (h 17), .int x0, .int x1, .int x2]) (sgQi D vwCl 52 h (eX ca h) sz (fun r f1 L1 Q1 => ((sgI loX hiX f1 ∧ sgK WkX8_parted f f1 ∧ L1 = L ∧ Q1 = Q) ∧ True ∧ (r, f1) = sX8_parted x0 x1 x2 f L))) 0 0 (sgA 52 h sz) := by
  refine sg_ofWi (cc := cX8_parted) (maxL := 4) RX8 (by decide) rfl rfl (Nat.le_of_ble_eq_true rfl) ?_
  intro p e s m below meth cd Qz ls hx hb hml hown hts hK hZ hP hS hl hret
  have hA := sgY.self (n := 52) (h := h) (sz := s.heap.size)
  have hl : lv_has ls 4 [(0, .ref (h 17)), (1, .int x0), (2, .int x1), (3, .int x2)] := hl
  obtain ⟨H, hH⟩ : ∃ z : Heap, z = s.heap := ⟨_, rfl⟩
  obtain ⟨locs, hlo⟩ : ∃ z : List Loc, z = [] := ⟨_, rfl⟩
  have hP : va_P D vwCl (sgw 52 h (eX ca h) f L Q) H := by rw [hH]; exact hP
  have hS : va_S (sgA 52 h s.heap.size) s.heap H locs := by rw [hH, hlo]; exact hS
  suffices hgo : W p l e ({ frames := 10, cells := 0, slots := 0, locals := 220 }) s m ([.ref (h 17), .int x0, .int x1, .int x2] : List Value).toArray below meth cd H locs 0 0 Qz (F0 m 0 ls []) by rw [hH, hlo] at hgo; exact hgo
  clear hH hlo
  obtain ⟨sp, hsp⟩ : ∃ z : Int32 × sg_F, z = sX8_parted x0 x1 x2 f L := ⟨_, rfl⟩
  have hs : sp = sX8_parted x0 x1 x2 f L := hsp
  have hF : sgK WkX8_parted f f := sgK.rf
  refine lv_aload_n hx hb dX8_parted_0 rfl (lv_at hl 0 rfl) ?_
  refine sg_callv (va_runV (As := []) (rest := []) ⟨hx, hb, hml, hown, hts⟩ (kX8_gather l D ca za h hh f L Q hI H.size) (sl_c8_gather_0_0_0_0_8 hts ⟨Nat.le_of_ble_eq_true rfl, Nat.le_of_ble_eq_true rfl⟩) (sl_vX_17 hA hK hP hS hZ) rfl rfl hl.1 rfl (lv_room (Nat.le_of_ble_eq_true rfl)) dX8_parted_1 ⟨Nat.le_refl _, Nat.le_refl _⟩) hA hS (fun f_1 L_2 Q_3 H locs hq hP hS => ?_)
  obtain ⟨⟨hI, hk_f_1, eL9, eQ9⟩, u_4⟩ := hq
  rw [eL9, eQ9] at hP; clear eL9 eQ9
  have hF : sgK WkX8_parted f f_1 := sgK.tr hF hk_f_1 (by decide +kernel)
  refine lv_aload_n hx hb dX8_parted_4 rfl (lv_at hl 0 rfl) ?_
  refine lv_iload_n hx hb dX8_parted_5 rfl (lv_at hl 1 rfl) ?_
  refine sg_callv (va_runV (As := [.int x0]) (rest := []) ⟨hx, hb, hml, hown, hts⟩ (kX8_sumGroups l D ca za h hh f_1 L Q hI x0 b0 H.size) (sl_c8_sumGroups_4_0_0_102_8 hts ⟨Nat.le_of_ble_eq_true rfl, Nat.le_of_ble_eq_true rfl⟩) (sl_vX_17 hA hK hP hS hZ) rfl rfl hl.1 rfl (lv_room (Nat.le_of_ble_eq_true rfl)) dX8_parted_6 ⟨Nat.le_refl _, Nat.le_refl _⟩) hA hS (fun f_5 L_6 Q_7 H locs hq hP hS => ?_)
  obtain ⟨⟨hI, hk_f_5, eL9, eQ9⟩, u_8⟩ := hq
  rw [eL9, eQ9] at hP; clear eL9 eQ9
  have hF : sgK WkX8_parted f f_5 := sgK.tr hF hk_f_5 (by decide +kernel)
  refine lv_aload_n hx hb dX8_parted_9 rfl (lv_at hl 0 rfl) ?_
  refine lv_iconst (v := 0) hx hb dX8_parted_10 ic_0 ?_
  refine sg_put (ci := 8) (x := 0) (ty := .boolean) (C := RX8) (T := TX8) (N := 13) hx hb hts (fun w h => List.mem_cons_of_mem _ (gx_8 w h)) tyX8 tyX8_ok nmX8 hown hh hA hK hP hS 17 (by decide) rfl rfl 12 (by decide) (hts _ (List.mem_cons_of_mem _ mw_425)) (fun _ h9 => h9) rfl rfl (by decide +kernel) (by decide) (by decide) (Nat.le_of_ble_eq_true rfl) dX8_parted_11 (fun f_9 H locs ef_9 hP hS => ?_)
  have hI : sgI loX hiX f_9 := by rw [ef_9]; exact sgI.put hI 17 12 (show 0 ≤ (0 : Int32).toInt ∧ (0 : Int32).toInt ≤ 1 from by decide)
  have hF : sgK WkX8_parted f f_9 := sgK.put hF ef_9 (by rfl)
  refine lv_aload_n hx hb dX8_parted_14 rfl (lv_at hl 0 rfl) ?_
  refine lv_iload_n hx hb dX8_parted_15 rfl (lv_at hl 2 rfl) ?_
  refine sl_pX_17_10_8 (x := x1) hx hb hts hown hh hA hK hP hS dX8_parted_16 (fun f_10 H locs ef_10 hP hS => ?_)
  have hI : sgI loX hiX f_10 := by rw [ef_10]; exact sgI.put hI 17 10 (show 0 ≤ (x1 : Int32).toInt ∧ (x1 : Int32).toInt ≤ 3 from ⟨by omega, by omega⟩)
  have hF : sgK WkX8_parted f f_10 := sgK.put hF ef_10 (by rfl)
  refine lv_aload_n hx hb dX8_parted_19 rfl (lv_at hl 0 rfl) ?_
  refine lv_iconst (v := 0) hx hb dX8_parted_20 ic_0 ?_
  refine sg_callv (va_runV (As := [.int 0]) (rest := []) ⟨hx, hb, hml, hown, hts⟩ (kX8_part_0 l D ca za h hh f_10 L Q hI H.size) (sl_c8_part_9_0_0_198_8 hts ⟨Nat.le_of_ble_eq_true rfl, Nat.le_of_ble_eq_true rfl⟩) (sl_vX_17 hA hK hP hS hZ) rfl rfl hl.1 rfl (lv_room (Nat.le_of_ble_eq_true rfl)) dX8_parted_21 ⟨Nat.le_refl _, Nat.le_refl _⟩) hA hS (fun f_11 L_12 Q_13 H locs hq hP hS => ?_)
  obtain ⟨⟨hI, hk_f_11, eL9, eQ9⟩, u_14⟩ := hq
  replace hs := hs.trans (spl_e u_4 (spl_e u_8 (spl_e ef_9 (spl_e ef_10 (spl_e u_14 rfl)))))
  rw [eL9, eQ9] at hP; clear eL9 eQ9
  have hF : sgK WkX8_parted f f_11 := sgK.tr hF hk_f_11 (by decide +kernel)
  refine lv_iload_n hx hb dX8_parted_24 rfl (lv_at hl 3 rfl) ?_
  refine lv_iconst (v := (-1)) hx hb dX8_parted_25 ic_m1 ?_
  refine lv_icmp_ne (tgt := 36) hx hb dX8_parted_26 (by decide) (fun c => ?_) (fun c => ?_)
  · skip
    have c_15 : x2.toInt ≠ (-1) := (by first | exact (cm_ne1 ti_m1 c) | (have z := bn_ne c; have k1 : ((-1) : Int32).toInt = (-1) := ti_m1; omega))
    refine lv_aload_n hx hb dX8_parted_36 rfl (lv_at hl 0 rfl) ?_
    refine lv_iload_n hx hb dX8_parted_37 rfl (lv_at hl 3 rfl) ?_
    refine sg_calli (va_runV (As := [.int x2]) (rest := []) ⟨hx, hb, hml, hown, hts⟩ (kX8_chairOf l D ca za h hh f_11 L Q hI x2 ⟨by omega, by omega⟩ H.size) (sl_c8_chairOf_0_0_0_0_8 hts ⟨Nat.le_of_ble_eq_true rfl, Nat.le_of_ble_eq_true rfl⟩) (sl_vX_17 hA hK hP hS hZ) rfl rfl hl.1 rfl (lv_room (Nat.le_of_ble_eq_true rfl)) dX8_parted_38 ⟨Nat.le_refl _, Nat.le_refl _⟩) hA hS (fun r_20 f_17 L_18 Q_19 H locs hq hP hS => ?_)
    obtain ⟨⟨ef9, eL9, eQ9⟩, hq, u_21⟩ := hq
    rw [ef9, eL9, eQ9] at hP; clear ef9 eL9 eQ9
    exact hret _ _ _ _ (r_20) f_11 L Q dX8_parted_41 hP hS ⟨⟨hI, hF, rfl, rfl⟩, trivial, (Eq.trans (Eq.symm (hs.trans ((if_neg c_15).trans (spl_e u_21 rfl)))) hsp)⟩
  · skip
    have c_16 : x2.toInt = (-1) := (by first | exact (cm_eq1 ti_m1 c) | (have z := Int32.toInt_inj.mpr c; have k1 : ((-1) : Int32).toInt = (-1) := ti_m1; omega))
    refine lv_aload_n hx hb dX8_parted_29 rfl (lv_at hl 0 rfl) ?_
    refine sl_gX_17_11_8 (v := (f_11 17 11)) hx hb hts hown hK hP rfl dX8_parted_30 ?_
    refine lv_topi (fun v_22 ev_22 => ?_)
    refine lv_goto (tgt := 41) hx hb dX8_parted_33 (by decide) ?_
    exact hret _ _ _ _ (v_22) f_11 L Q dX8_parted_41 hP hS ⟨⟨hI, hF, rfl, rfl⟩, trivial, (Eq.trans (Eq.symm (hs.trans ((if_pos c_16).trans (spl_e ev_22 rfl)))) hsp)⟩

abbrev WkX11_chairs : List (Nat × Nat × Option Nat) := [(8, 8, none), (9, 9, none), (10, 10, some 2), (10, 10, some 3), (11, 11, none), (12, 12, none), (17, 17, some 9), (17, 17, some 10), (17, 17, some 11), (17, 17, some 12), (20, 20, none), (21, 21, none), (22, 22, none), (23, 23, none), (24, 24, none)]
set_option maxHeartbeats 4000000 in
set_option maxRecDepth 100000 in
theorem kX11_chairs (l : Launch) (D : va_G) (ca : Nat → ClassId) (za h : Nat → Nat) (hh : sgH 52 h) (f : sg_F) (L : sg_L) (Q : sg_Q) (hI : sgI loX hiX f) (x0 : Int32) (x1 : Int32) (x2 : Int32) (sz : Nat) : Met l yX11_chairs gwX11_chairs { frames := 11, cells := 0, slots := 0, locals := 243 } (sgP D vwCl (tyX ca) 52 h (eX ca h) zcX za f L Q sz [.ref (h 0), .int x0, .int x1, .int x2]) (sgQi D vwCl 52 h (eX ca h) sz (fun r f1 L1 Q1 => ((sgI loX hiX f1 ∧ sgK WkX11_chairs f f1 ∧ L1 = L ∧ Q1 = Q) ∧ True ∧ (r, f1) = sX11_chairs x0 x1 x2 f L))) 0 0 (sgA 52 h sz) := by
  refine sg_ofWi (cc := cX11_chairs) (maxL := 6) RX11 (by decide) rfl rfl (Nat.le_of_ble_eq_true rfl) ?_
  intro p e s m below meth cd Qz ls hx hb hml hown hts hK hZ hP hS hl hret
  have hA := sgY.self (n := 52) (h := h) (sz := s.heap.size)
  have hl : lv_has ls 6 [(0, .ref (h 0)), (1, .int x0), (2, .int x1), (3, .int x2)] := hl
  obtain ⟨H, hH⟩ : ∃ z : Heap, z = s.heap := ⟨_, rfl⟩
  obtain ⟨locs, hlo⟩ : ∃ z : List Loc, z = [] := ⟨_, rfl⟩
  have hP : va_P D vwCl (sgw 52 h (eX ca h) f L Q) H := by rw [hH]; exact hP
  have hS : va_S (sgA 52 h s.heap.size) s.heap H locs := by rw [hH, hlo]; exact hS
  suffices hgo : W p l e ({ frames := 11, cells := 0, slots := 0, locals := 243 }) s m ([.ref (h 0), .int x0, .int x1, .int x2] : List Value).toArray below meth cd H locs 0 0 Qz (F0 m 0 ls []) by rw [hH, hlo] at hgo; exact hgo
  clear hH hlo
  obtain ⟨sp, hsp⟩ : ∃ z : Int32 × sg_F, z = sX11_chairs x0 x1 x2 f L := ⟨_, rfl⟩
  have hs : sp = sX11_chairs x0 x1 x2 f L := hsp
  have hF : sgK WkX11_chairs f f := sgK.rf
  have blk_59 : ∀ (y4_59 : Int32) (fp_59 : sg_F) (H : Heap) (locs : List Loc) (ls : Array Slot), sp = sX11_chairs_b59 x0 x1 x2 y4_59 fp_59 L → 0 ≤ x0.toInt ∧ x0.toInt ≤ 5 → 0 ≤ x1.toInt ∧ x1.toInt ≤ 29 → (-1) ≤ x2.toInt ∧ x2.toInt ≤ 7 → 1 ≤ y4_59.toInt ∧ y4_59.toInt ≤ 3 → sgI loX hiX fp_59 → sgK WkX11_chairs f fp_59 → va_P D vwCl (sgw 52 h (eX ca h) fp_59 L Q) H → va_S (sgA 52 h s.heap.size) s.heap H locs → lv_has ls 6 [(0, .ref (h 0)), (1, .int x0), (2, .int x1), (3, .int x2), (4, .int y4_59)] → W p l e ({ frames := 11, cells := 0, slots := 0, locals := 243 }) s m ([.ref (h 0), .int x0, .int x1, .int x2] : List Value).toArray below meth cd H locs 0 0 Qz (F0 m 59 ls []) := by
    intro y4_59 fp_59 H locs ls hs hy0_59 hy1_59 hy2_59 hy3_59 hI hF hP hS hl
    refine lv_aload_n hx hb dX11_chairs_59 rfl (lv_at hl 0 rfl) ?_
    refine lv_iload_n hx hb dX11_chairs_60 rfl (lv_at hl 1 rfl) ?_
    refine sg_calli (va_runV (As := [.int x0]) (rest := []) ⟨hx, hb, hml, hown, hts⟩ (kX11_readWeek l D ca za h hh fp_59 L Q hI x0 hy0_59 H.size) (sl_c11_readWeek_2_0_0_45_11 hts ⟨Nat.le_of_ble_eq_true rfl, Nat.le_of_ble_eq_true rfl⟩) (sl_vX_0 hA hK hP hS hZ) rfl rfl hl.1 rfl (lv_room (Nat.le_of_ble_eq_true rfl)) dX11_chairs_61 ⟨Nat.le_refl _, Nat.le_refl _⟩) hA hS (fun r_4 f_1 L_2 Q_3 H locs hq hP hS => ?_)
    obtain ⟨⟨hI, hk_f_1, eL9, eQ9⟩, hq, u_5⟩ := hq
    replace hs := hs.trans (spl2_e u_5 rfl)
    rw [eL9, eQ9] at hP; clear eL9 eQ9
    have hF : sgK WkX11_chairs f f_1 := sgK.tr hF hk_f_1 (by decide +kernel)
    refine lv_istore (lv' := [(5, .int r_4), (0, .ref (h 0)), (1, .int x0), (2, .int x1), (3, .int x2), (4, .int y4_59)]) hx hb dX11_chairs_64 hl (by decide) rfl (fun ls hl => ?_)
    refine lv_iload hx hb dX11_chairs_66 (lv_at hl 0 rfl) ?_
    refine lv_if_eq (tgt := 76) hx hb dX11_chairs_68 (by decide) (fun c => ?_) (fun c => ?_)
    · skip
      have c_6 : r_4.toInt = 0 := (by first | exact (cm_eq1 ti_0 c) | (have z := Int32.toInt_inj.mpr c; have k1 : (0 : Int32).toInt = 0 := ti_0; omega))
      refine lv_aload_n hx hb dX11_chairs_76 rfl (lv_at hl 1 rfl) ?_
      refine sl_gX_0_3_11 hx hb hts hown hK hP dX11_chairs_77 ?_
      refine lv_iload_n hx hb dX11_chairs_80 rfl (lv_at hl 3 rfl) ?_
      refine lv_bipush (v := 10) hx hb dX11_chairs_81 bp_10 ?_
      refine lv_idiv hx hb dX11_chairs_83 (by decide) ?_
      refine lv_topi (fun v_8 ev_8 => ?_)
      have q_9 : v_8.toInt = x1.toInt / 10 := by rw [ev_8]; exact bn_divI (by omega) (by decide) (by decide)
      refine lv_iload hx hb dX11_chairs_84 (lv_at hl 5 rfl) ?_
      refine lv_iload_n hx hb dX11_chairs_86 rfl (lv_at hl 4 rfl) ?_
      refine sg_calli (va_runV (As := [.int v_8, .int y4_59, .int x2]) (rest := []) ⟨hx, hb, hml, hown, hts⟩ (kX8_parted l D ca za h hh f_1 L Q hI v_8 y4_59 x2 ⟨by omega, by omega⟩ hy3_59 hy2_59 H.size) (sl_c8_parted_10_0_0_220_11 hts ⟨Nat.le_of_ble_eq_true rfl, Nat.le_of_ble_eq_true rfl⟩) (sl_vX_17 hA hK hP hS hZ) rfl rfl hl.1 rfl (lv_room (Nat.le_of_ble_eq_true rfl)) dX11_chairs_87 ⟨Nat.le_refl _, Nat.le_refl _⟩) hA hS (fun r_13 f_10 L_11 Q_12 H locs hq hP hS => ?_)
      obtain ⟨⟨hI, hk_f_10, eL9, eQ9⟩, hq, u_14⟩ := hq
      rw [eL9, eQ9] at hP; clear eL9 eQ9
      have hF : sgK WkX11_chairs f f_10 := sgK.tr hF hk_f_10 (by decide +kernel)
      exact hret _ _ _ _ (r_13) f_10 L Q dX11_chairs_90 hP hS ⟨⟨hI, hF, rfl, rfl⟩, trivial, (Eq.trans (Eq.symm (hs.trans ((if_pos c_6).trans (spl_e ev_8 (spl2_e u_14 rfl))))) hsp)⟩
    · skip
      have c_7 : r_4.toInt ≠ 0 := (by first | exact (cm_ne1 ti_0 c) | (have z := bn_ne c; have k1 : (0 : Int32).toInt = 0 := ti_0; omega))
      refine lv_iload hx hb dX11_chairs_71 (lv_at hl 0 rfl) ?_
      refine lv_goto (tgt := 90) hx hb dX11_chairs_73 (by decide) ?_
      exact hret _ _ _ _ (r_4) f_1 L Q dX11_chairs_90 hP hS ⟨⟨hI, hF, rfl, rfl⟩, trivial, (Eq.trans (Eq.symm (hs.trans ((if_neg c_7).trans rfl))) hsp)⟩
  refine lv_iload_n hx hb dX11_chairs_0 rfl (lv_at hl 2 rfl) ?_
  refine lv_bipush (v := 10) hx hb dX11_chairs_1 bp_10 ?_
  refine lv_irem hx hb dX11_chairs_3 (by decide) ?_
  refine lv_topi (fun v_15 ev_15 => ?_)
  have q_16 : 0 ≤ x1.toInt → v_15.toInt = x1.toInt % 10 := fun z => by rw [ev_15]; exact bn_remI z (by decide) (by decide)
  refine lv_istore (lv' := [(4, .int v_15), (0, .ref (h 0)), (1, .int x0), (2, .int x1), (3, .int x2)]) hx hb dX11_chairs_4 hl (by decide) rfl (fun ls hl => ?_)
  refine lv_iload_n hx hb dX11_chairs_6 rfl (lv_at hl 2 rfl) ?_
  refine sg_calli (va_runS (As := [.int x0]) (rest := []) ⟨hx, hb, hml, hown, hts⟩ (kX11_isShelf l D ca za h hh f L Q hI x0 H.size) (va_cwS 1 hts (gw_S (fun _ h => List.mem_cons_of_mem _ h) mw_35 mw_36 mw_37 mw_34) rfl rfl rfl hd_yX11_isShelf.2 ⟨Nat.le_of_ble_eq_true rfl, Nat.le_of_ble_eq_true rfl⟩) (sg_preS hA hK hP hS hZ) rfl rfl hl.1 rfl (lv_room (Nat.le_of_ble_eq_true rfl)) dX11_chairs_7 ⟨Nat.le_refl _, Nat.le_refl _⟩) hA hS (fun r_20 f_17 L_18 Q_19 H locs hq hP hS => ?_)
  obtain ⟨⟨ef9, eL9, eQ9⟩, hq, u_21⟩ := hq
  replace hs := hs.trans (spl_e ev_15 (spl_e u_21 rfl))
  rw [ef9, eL9, eQ9] at hP; clear ef9 eL9 eQ9
  rcases hq with ⟨rfl, hq⟩ | ⟨rfl, hq⟩
  · skip
    have hc_22 := hq
    refine lv_if_eq (tgt := 39) hx hb dX11_chairs_10 (by decide) (fun c => absurd c (by decide)) (fun c => ?_)
    refine lv_iload_n hx hb dX11_chairs_13 rfl (lv_at hl 3 rfl) ?_
    refine lv_if_lt (tgt := 39) hx hb dX11_chairs_14 (by decide) (fun c => ?_) (fun c => ?_)
    · skip
      have c_23 : x1.toInt < 0 := (by first | exact (cm_lt1 ti_0 c) | (have z := bn_lt c; have k1 : (0 : Int32).toInt = 0 := ti_0; omega))
      refine lv_iconst (v := (-1)) hx hb dX11_chairs_39 ic_m1 ?_
      have k99 : ((-1) : Int32).toInt = (-1) := ti_m1
      exact hret _ _ _ _ (-1) f L Q dX11_chairs_40 hP hS ⟨⟨hI, hF, rfl, rfl⟩, trivial, (Eq.trans (Eq.symm (hs.trans ((if_pos rfl).trans ((if_pos c_23).trans rfl)))) hsp)⟩
    · skip
      have c_24 : 0 ≤ x1.toInt := (by first | exact (cm_nlt1 ti_0 c) | (have z := bn_nlt c; have k1 : (0 : Int32).toInt = 0 := ti_0; omega))
      refine lv_iload_n hx hb dX11_chairs_17 rfl (lv_at hl 3 rfl) ?_
      refine lv_bipush (v := 10) hx hb dX11_chairs_18 bp_10 ?_
      refine lv_idiv hx hb dX11_chairs_20 (by decide) ?_
      refine lv_topi (fun v_25 ev_25 => ?_)
      have q_26 : v_25.toInt = x1.toInt / 10 := by rw [ev_25]; exact bn_divI (by omega) (by decide) (by decide)
      refine sg_calli (va_runS (As := [.int v_25]) (rest := []) ⟨hx, hb, hml, hown, hts⟩ (kX11_isPart l D ca za h hh f L Q hI v_25 H.size) (va_cwS 1 hts (gw_S (fun _ h => List.mem_cons_of_mem _ h) mw_58 mw_59 mw_37 mw_57) rfl rfl rfl hd_yX11_isPart.2 ⟨Nat.le_of_ble_eq_true rfl, Nat.le_of_ble_eq_true rfl⟩) (sg_preS hA hK hP hS hZ) rfl rfl hl.1 rfl (lv_room (Nat.le_of_ble_eq_true rfl)) dX11_chairs_21 ⟨Nat.le_refl _, Nat.le_refl _⟩) hA hS (fun r_30 f_27 L_28 Q_29 H locs hq hP hS => ?_)
      obtain ⟨⟨ef9, eL9, eQ9⟩, hq, u_31⟩ := hq
      replace hs := hs.trans ((if_pos rfl).trans ((if_neg (Int.not_lt.mpr c_24)).trans (spl_e ev_25 (spl_e u_31 rfl))))
      rw [ef9, eL9, eQ9] at hP; clear ef9 eL9 eQ9
      rcases hq with ⟨rfl, hq⟩ | ⟨rfl, hq⟩
      · skip
        have hc_32 := hq
        refine lv_if_eq (tgt := 39) hx hb dX11_chairs_24 (by decide) (fun c => absurd c (by decide)) (fun c => ?_)
        refine lv_iload hx hb dX11_chairs_27 (lv_at hl 0 rfl) ?_
        refine lv_iconst (v := 1) hx hb dX11_chairs_29 ic_1 ?_
        refine lv_icmp_lt (tgt := 39) hx hb dX11_chairs_30 (by decide) (fun c => ?_) (fun c => ?_)
        · skip
          have c_33 : v_15.toInt < 1 := (by first | exact (cm_lt1 ti_1 c) | (have z := bn_lt c; have k1 : (1 : Int32).toInt = 1 := ti_1; omega))
          refine lv_iconst (v := (-1)) hx hb dX11_chairs_39 ic_m1 ?_
          have k99 : ((-1) : Int32).toInt = (-1) := ti_m1
          exact hret _ _ _ _ (-1) f L Q dX11_chairs_40 hP hS ⟨⟨hI, hF, rfl, rfl⟩, trivial, (Eq.trans (Eq.symm (hs.trans ((if_pos rfl).trans ((if_pos c_33).trans rfl)))) hsp)⟩
        · skip
          have c_34 : 1 ≤ v_15.toInt := (by first | exact (cm_nlt1 ti_1 c) | (have z := bn_nlt c; have k1 : (1 : Int32).toInt = 1 := ti_1; omega))
          replace hs := hs.trans ((if_pos rfl).trans ((if_neg (Int.not_lt.mpr c_34)).trans rfl))
          refine lv_iload hx hb dX11_chairs_33 (lv_at hl 0 rfl) ?_
          refine lv_iconst (v := 3) hx hb dX11_chairs_35 ic_3 ?_
          refine lv_icmp_le (tgt := 41) hx hb dX11_chairs_36 (by decide) (fun c => ?_) (fun c => ?_)
          · skip
            have c_35 : v_15.toInt ≤ 3 := (by first | exact (cm_le1 ti_3 c) | (have z := bn_le c; have k1 : (3 : Int32).toInt = 3 := ti_3; omega))
            replace hs := hs.trans ((if_neg (Int.not_lt.mpr c_35)).trans rfl)
            refine lv_iload_n hx hb dX11_chairs_41 rfl (lv_at hl 4 rfl) ?_
            refine lv_iconst (v := (-1)) hx hb dX11_chairs_42 ic_m1 ?_
            refine lv_icmp_eq (tgt := 59) hx hb dX11_chairs_43 (by decide) (fun c => ?_) (fun c => ?_)
            · skip
              have c_37 : x2.toInt = (-1) := (by first | exact (cm_eq1 ti_m1 c) | (have z := Int32.toInt_inj.mpr c; have k1 : ((-1) : Int32).toInt = (-1) := ti_m1; omega))
              exact blk_59 v_15 f _ _ _ (hs.trans ((if_pos c_37).trans rfl)) ⟨by omega, by omega⟩ ⟨by omega, by omega⟩ ⟨by omega, by omega⟩ ⟨by omega, by omega⟩ hI hF hP hS (lv_sub hl [1, 2, 3, 4, 0] rfl)
            · skip
              have c_38 : x2.toInt ≠ (-1) := (by first | exact (cm_ne1 ti_m1 c) | (have z := bn_ne c; have k1 : ((-1) : Int32).toInt = (-1) := ti_m1; omega))
              refine lv_aload_n hx hb dX11_chairs_46 rfl (lv_at hl 1 rfl) ?_
              refine sl_gX_0_0_11 hx hb hts hown hK hP dX11_chairs_47 ?_
              refine lv_iload_n hx hb dX11_chairs_50 rfl (lv_at hl 4 rfl) ?_
              obtain ⟨v_39, ev_39⟩ : ∃ z : Int32, z = f 1 3 := ⟨_, rfl⟩
              have q_40 : 0 ≤ v_39.toInt ∧ v_39.toInt ≤ 8 := by rw [ev_39]; exact hI 1 3
              have q_41 : (f 1 3).toInt = v_39.toInt := (congrArg Int32.toInt (show f 1 3 = v_39 from ev_39.symm))
              refine sg_calli (va_runV (As := [.int x2]) (rest := []) ⟨hx, hb, hml, hown, hts⟩ (kX0_has l D ca za h hh f L Q hI x2 H.size) (sl_c0_has_0_0_0_0_11 hts ⟨Nat.le_of_ble_eq_true rfl, Nat.le_of_ble_eq_true rfl⟩) (sl_vX_1 hA hK hP hS hZ) rfl rfl hl.1 rfl (lv_room (Nat.le_of_ble_eq_true rfl)) dX11_chairs_51 ⟨Nat.le_refl _, Nat.le_refl _⟩) hA hS (fun r_46 f_43 L_44 Q_45 H locs hq hP hS => ?_)
              obtain ⟨⟨ef9, eL9, eQ9⟩, hq, u_47⟩ := hq
              replace hs := hs.trans ((if_neg c_38).trans (spl_e ev_39 (spl_e u_47 rfl)))
              rw [ef9, eL9, eQ9] at hP; clear ef9 eL9 eQ9
              rcases hq with ⟨rfl, hq⟩ | ⟨rfl, hq⟩
              · skip
                have hc_48 := hq
                refine lv_if_ne (tgt := 59) hx hb dX11_chairs_54 (by decide) (fun c => ?_) (fun c => absurd c (by decide))
                exact blk_59 v_15 f _ _ _ (hs.trans ((if_pos rfl).trans rfl)) ⟨by omega, by omega⟩ ⟨by omega, by omega⟩ ⟨by omega, by omega⟩ ⟨by omega, by omega⟩ hI hF hP hS (lv_sub hl [1, 2, 3, 4, 0] rfl)
              · skip
                have hc_48 := hq
                refine lv_if_ne (tgt := 59) hx hb dX11_chairs_54 (by decide) (fun c => absurd c (by decide)) (fun c => ?_)
                refine lv_iconst (v := (-1)) hx hb dX11_chairs_57 ic_m1 ?_
                have k99 : ((-1) : Int32).toInt = (-1) := ti_m1
                exact hret _ _ _ _ (-1) f L Q dX11_chairs_58 hP hS ⟨⟨hI, hF, rfl, rfl⟩, trivial, (Eq.trans (Eq.symm (hs.trans ((if_neg (by decide)).trans rfl))) hsp)⟩
          · skip
            have c_36 : 3 < v_15.toInt := (by first | exact (cm_nle1 ti_3 c) | (have z := bn_nle c; have k1 : (3 : Int32).toInt = 3 := ti_3; omega))
            refine lv_iconst (v := (-1)) hx hb dX11_chairs_39 ic_m1 ?_
            have k99 : ((-1) : Int32).toInt = (-1) := ti_m1
            exact hret _ _ _ _ (-1) f L Q dX11_chairs_40 hP hS ⟨⟨hI, hF, rfl, rfl⟩, trivial, (Eq.trans (Eq.symm (hs.trans ((if_pos c_36).trans rfl))) hsp)⟩
      · skip
        have hc_32 := hq
        refine lv_if_eq (tgt := 39) hx hb dX11_chairs_24 (by decide) (fun c => ?_) (fun c => absurd c (by decide))
        refine lv_iconst (v := (-1)) hx hb dX11_chairs_39 ic_m1 ?_
        have k99 : ((-1) : Int32).toInt = (-1) := ti_m1
        exact hret _ _ _ _ (-1) f L Q dX11_chairs_40 hP hS ⟨⟨hI, hF, rfl, rfl⟩, trivial, (Eq.trans (Eq.symm (hs.trans ((if_neg (by decide)).trans rfl))) hsp)⟩
  · skip
    have hc_22 := hq
    refine lv_if_eq (tgt := 39) hx hb dX11_chairs_10 (by decide) (fun c => ?_) (fun c => absurd c (by decide))
    refine lv_iconst (v := (-1)) hx hb dX11_chairs_39 ic_m1 ?_
    have k99 : ((-1) : Int32).toInt = (-1) := ti_m1
    exact hret _ _ _ _ (-1) f L Q dX11_chairs_40 hP hS ⟨⟨hI, hF, rfl, rfl⟩, trivial, (Eq.trans (Eq.symm (hs.trans ((if_neg (by decide)).trans rfl))) hsp)⟩

abbrev WkX4_moreByWilful : List (Nat × Nat × Option Nat) := [(8, 8, none), (9, 9, none), (13, 13, some 5), (13, 13, some 6), (13, 13, some 9), (13, 13, some 10), (14, 14, none), (15, 15, none), (16, 16, none)]
set_option maxHeartbeats 4000000 in
set_option maxRecDepth 100000 in
theorem kX4_moreByWilful (l : Launch) (D : va_G) (ca : Nat → ClassId) (za h : Nat → Nat) (hh : sgH 52 h) (f : sg_F) (L : sg_L) (Q : sg_Q) (hI : sgI loX hiX f) (x0 : Int32) (x1 : Int32) (b0 : 0 ≤ x0.toInt ∧ x0.toInt ≤ 7) (b1 : 0 ≤ x1.toInt ∧ x1.toInt ≤ 60) (sz : Nat) : Met l yX4_moreByWilful gwX4_moreByWilful { frames := 7, cells := 0, slots := 0, locals := 170 } (sgP D vwCl (tyX ca) 52 h (eX ca h) zcX za f L Q sz [.ref (h 13), .int x0, .int x1]) (sgQi D vwCl 52 h (eX ca h) sz (fun r f1 L1 Q1 => ((sgI loX hiX f1 ∧ sgK WkX4_moreByWilful f f1 ∧ L1 = L ∧ Q1 = Q) ∧ True ∧ (r, f1) = sX4_moreByWilful x0 x1 f L))) 0 0 (sgA 52 h sz) := by
  refine sg_ofWi (cc := cX4_moreByWilful) (maxL := 4) RX4 (by decide) rfl rfl (Nat.le_of_ble_eq_true rfl) ?_
  intro p e s m below meth cd Qz ls hx hb hml hown hts hK hZ hP hS hl hret
  have hA := sgY.self (n := 52) (h := h) (sz := s.heap.size)
  have hl : lv_has ls 4 [(0, .ref (h 13)), (1, .int x0), (2, .int x1)] := hl
  obtain ⟨H, hH⟩ : ∃ z : Heap, z = s.heap := ⟨_, rfl⟩
  obtain ⟨locs, hlo⟩ : ∃ z : List Loc, z = [] := ⟨_, rfl⟩
  have hP : va_P D vwCl (sgw 52 h (eX ca h) f L Q) H := by rw [hH]; exact hP
  have hS : va_S (sgA 52 h s.heap.size) s.heap H locs := by rw [hH, hlo]; exact hS
  suffices hgo : W p l e ({ frames := 7, cells := 0, slots := 0, locals := 170 }) s m ([.ref (h 13), .int x0, .int x1] : List Value).toArray below meth cd H locs 0 0 Qz (F0 m 0 ls []) by rw [hH, hlo] at hgo; exact hgo
  clear hH hlo
  obtain ⟨sp, hsp⟩ : ∃ z : Int32 × sg_F, z = sX4_moreByWilful x0 x1 f L := ⟨_, rfl⟩
  have hs : sp = sX4_moreByWilful x0 x1 f L := hsp
  have hF : sgK WkX4_moreByWilful f f := sgK.rf
  refine lv_aload_n hx hb dX4_moreByWilful_0 rfl (lv_at hl 0 rfl) ?_
  refine lv_aload_n hx hb dX4_moreByWilful_1 rfl (lv_at hl 0 rfl) ?_
  refine sl_gX_13_1_4 hx hb hts hown hK hP dX4_moreByWilful_2 ?_
  refine sl_gX_10_2_4 (v := (f 10 2)) hx hb hts hown hK hP rfl dX4_moreByWilful_5 ?_
  refine lv_topi (fun v_1 ev_1 => ?_)
  have q_2 : 0 ≤ v_1.toInt ∧ v_1.toInt ≤ 21 := by rw [ev_1]; exact hI 10 2
  refine sg_callv (va_runV (As := [.int v_1]) (rest := []) ⟨hx, hb, hml, hown, hts⟩ (kX4_live l D ca za h hh f L Q hI v_1 q_2 H.size) (sl_c4_live_6_0_0_148_4 hts ⟨Nat.le_of_ble_eq_true rfl, Nat.le_of_ble_eq_true rfl⟩) (sl_vX_13 hA hK hP hS hZ) rfl rfl hl.1 rfl (lv_room (Nat.le_of_ble_eq_true rfl)) dX4_moreByWilful_8 ⟨Nat.le_refl _, Nat.le_refl _⟩) hA hS (fun f_3 L_4 Q_5 H locs hq hP hS => ?_)
  obtain ⟨⟨hI, hk_f_3, eL9, eQ9⟩, u_6⟩ := hq
  rw [eL9, eQ9] at hP; clear eL9 eQ9
  have hF : sgK WkX4_moreByWilful f f_3 := sgK.tr hF hk_f_3 (by decide +kernel)
  refine lv_aload_n hx hb dX4_moreByWilful_11 rfl (lv_at hl 0 rfl) ?_
  refine sl_gX_13_6_4 (v := (f_3 13 6)) hx hb hts hown hK hP rfl dX4_moreByWilful_12 ?_
  refine lv_topi (fun v_7 ev_7 => ?_)
  refine lv_istore_n (lv' := [(3, .int v_7), (0, .ref (h 13)), (1, .int x0), (2, .int x1)]) hx hb dX4_moreByWilful_15 rfl hl (by decide) rfl (fun ls hl => ?_)
  refine lv_aload_n hx hb dX4_moreByWilful_16 rfl (lv_at hl 1 rfl) ?_
  refine lv_iload_n hx hb dX4_moreByWilful_17 rfl (lv_at hl 2 rfl) ?_
  refine sl_pX_13_9_4 (x := x0) hx hb hts hown hh hA hK hP hS dX4_moreByWilful_18 (fun f_8 H locs ef_8 hP hS => ?_)
  have hI : sgI loX hiX f_8 := by rw [ef_8]; exact sgI.put hI 13 9 (show (-1) ≤ (x0 : Int32).toInt ∧ (x0 : Int32).toInt ≤ 7 from ⟨by omega, by omega⟩)
  have hF : sgK WkX4_moreByWilful f f_8 := sgK.put hF ef_8 (by rfl)
  refine lv_aload_n hx hb dX4_moreByWilful_21 rfl (lv_at hl 1 rfl) ?_
  refine lv_iload_n hx hb dX4_moreByWilful_22 rfl (lv_at hl 3 rfl) ?_
  refine sl_pX_13_10_4 (x := x1) hx hb hts hown hh hA hK hP hS dX4_moreByWilful_23 (fun f_9 H locs ef_9 hP hS => ?_)
  have hI : sgI loX hiX f_9 := by rw [ef_9]; exact sgI.put hI 13 10 (show 0 ≤ (x1 : Int32).toInt ∧ (x1 : Int32).toInt ≤ 60 from b1)
  have hF : sgK WkX4_moreByWilful f f_9 := sgK.put hF ef_9 (by rfl)
  refine lv_aload_n hx hb dX4_moreByWilful_26 rfl (lv_at hl 1 rfl) ?_
  refine lv_aload_n hx hb dX4_moreByWilful_27 rfl (lv_at hl 1 rfl) ?_
  refine sl_gX_13_1_4 hx hb hts hown hK hP dX4_moreByWilful_28 ?_
  refine sl_gX_10_2_4 (v := v_1) hx hb hts hown hK hP (show f_9 10 2 = v_1 from (by rw [ef_9, sg_up_n (by decide)]; exact (by rw [ef_8, sg_up_n (by decide)]; exact ((hk_f_3 10 2 (by decide)).trans ev_1.symm)))) dX4_moreByWilful_31 ?_
  refine sg_callv (va_runV (As := [.int v_1]) (rest := []) ⟨hx, hb, hml, hown, hts⟩ (kX4_live l D ca za h hh f_9 L Q hI v_1 q_2 H.size) (sl_c4_live_6_0_0_148_4 hts ⟨Nat.le_of_ble_eq_true rfl, Nat.le_of_ble_eq_true rfl⟩) (sl_vX_13 hA hK hP hS hZ) rfl rfl hl.1 rfl (lv_room (Nat.le_of_ble_eq_true rfl)) dX4_moreByWilful_34 ⟨Nat.le_refl _, Nat.le_refl _⟩) hA hS (fun f_10 L_11 Q_12 H locs hq hP hS => ?_)
  obtain ⟨⟨hI, hk_f_10, eL9, eQ9⟩, u_13⟩ := hq
  rw [eL9, eQ9] at hP; clear eL9 eQ9
  have hF : sgK WkX4_moreByWilful f f_10 := sgK.tr hF hk_f_10 (by decide +kernel)
  refine lv_aload_n hx hb dX4_moreByWilful_37 rfl (lv_at hl 1 rfl) ?_
  refine lv_iconst (v := (-1)) hx hb dX4_moreByWilful_38 ic_m1 ?_
  refine sl_pX_13_9_4 (x := (-1)) hx hb hts hown hh hA hK hP hS dX4_moreByWilful_39 (fun f_14 H locs ef_14 hP hS => ?_)
  have hI : sgI loX hiX f_14 := by rw [ef_14]; exact sgI.put hI 13 9 (show (-1) ≤ ((-1) : Int32).toInt ∧ ((-1) : Int32).toInt ≤ 7 from by decide)
  have hF : sgK WkX4_moreByWilful f f_14 := sgK.put hF ef_14 (by rfl)
  refine lv_aload_n hx hb dX4_moreByWilful_42 rfl (lv_at hl 1 rfl) ?_
  refine sl_gX_13_6_4 (v := (f_14 13 6)) hx hb hts hown hK hP rfl dX4_moreByWilful_43 ?_
  refine lv_topi (fun v_15 ev_15 => ?_)
  refine lv_iload_n hx hb dX4_moreByWilful_46 rfl (lv_at hl 0 rfl) ?_
  refine lv_isub hx hb dX4_moreByWilful_47 ?_
  refine lv_topi (fun v_16 ev_16 => ?_)
  exact hret _ _ _ _ (v_16) f_14 L Q dX4_moreByWilful_48 hP hS ⟨⟨hI, hF, rfl, rfl⟩, trivial, (Eq.trans (Eq.symm (hs.trans ((spl_e ev_1 (spl_e u_6 (spl_e ev_7 (spl_e ef_8 (spl_e ef_9 (spl_e u_13 (spl_e ef_14 (spl_e ev_15 (spl_e ev_16 rfl)))))))))))) hsp)⟩

abbrev WkX11_wilful : List (Nat × Nat × Option Nat) := [(8, 8, none), (9, 9, none), (10, 10, some 2), (10, 10, some 3), (11, 11, none), (12, 12, none), (13, 13, some 5), (13, 13, some 6), (13, 13, some 9), (13, 13, some 10), (14, 14, none), (15, 15, none), (16, 16, none)]
set_option maxHeartbeats 4000000 in
set_option maxRecDepth 100000 in
theorem kX11_wilful (l : Launch) (D : va_G) (ca : Nat → ClassId) (za h : Nat → Nat) (hh : sgH 52 h) (f : sg_F) (L : sg_L) (Q : sg_Q) (hI : sgI loX hiX f) (x0 : Int32) (x1 : Int32) (x2 : Int32) (sz : Nat) : Met l yX11_wilful gwX11_wilful { frames := 8, cells := 0, slots := 0, locals := 193 } (sgP D vwCl (tyX ca) 52 h (eX ca h) zcX za f L Q sz [.ref (h 0), .int x0, .int x1, .int x2]) (sgQi D vwCl 52 h (eX ca h) sz (fun r f1 L1 Q1 => ((sgI loX hiX f1 ∧ sgK WkX11_wilful f f1 ∧ L1 = L ∧ Q1 = Q) ∧ True ∧ (r, f1) = sX11_wilful x0 x1 x2 f L))) 0 0 (sgA 52 h sz) := by
  refine sg_ofWi (cc := cX11_wilful) (maxL := 4) RX11 (by decide) rfl rfl (Nat.le_of_ble_eq_true rfl) ?_
  intro p e s m below meth cd Qz ls hx hb hml hown hts hK hZ hP hS hl hret
  have hA := sgY.self (n := 52) (h := h) (sz := s.heap.size)
  have hl : lv_has ls 4 [(0, .ref (h 0)), (1, .int x0), (2, .int x1), (3, .int x2)] := hl
  obtain ⟨H, hH⟩ : ∃ z : Heap, z = s.heap := ⟨_, rfl⟩
  obtain ⟨locs, hlo⟩ : ∃ z : List Loc, z = [] := ⟨_, rfl⟩
  have hP : va_P D vwCl (sgw 52 h (eX ca h) f L Q) H := by rw [hH]; exact hP
  have hS : va_S (sgA 52 h s.heap.size) s.heap H locs := by rw [hH, hlo]; exact hS
  suffices hgo : W p l e ({ frames := 8, cells := 0, slots := 0, locals := 193 }) s m ([.ref (h 0), .int x0, .int x1, .int x2] : List Value).toArray below meth cd H locs 0 0 Qz (F0 m 0 ls []) by rw [hH, hlo] at hgo; exact hgo
  clear hH hlo
  obtain ⟨sp, hsp⟩ : ∃ z : Int32 × sg_F, z = sX11_wilful x0 x1 x2 f L := ⟨_, rfl⟩
  have hs : sp = sX11_wilful x0 x1 x2 f L := hsp
  have hF : sgK WkX11_wilful f f := sgK.rf
  refine lv_iload_n hx hb dX11_wilful_0 rfl (lv_at hl 1 rfl) ?_
  refine sg_calli (va_runS (As := [.int x0]) (rest := []) ⟨hx, hb, hml, hown, hts⟩ (kX11_isShelf l D ca za h hh f L Q hI x0 H.size) (va_cwS 1 hts (gw_S (fun _ h => List.mem_cons_of_mem _ h) mw_35 mw_36 mw_37 mw_34) rfl rfl rfl hd_yX11_isShelf.2 ⟨Nat.le_of_ble_eq_true rfl, Nat.le_of_ble_eq_true rfl⟩) (sg_preS hA hK hP hS hZ) rfl rfl hl.1 rfl (lv_room (Nat.le_of_ble_eq_true rfl)) dX11_wilful_1 ⟨Nat.le_refl _, Nat.le_refl _⟩) hA hS (fun r_4 f_1 L_2 Q_3 H locs hq hP hS => ?_)
  obtain ⟨⟨ef9, eL9, eQ9⟩, hq, u_5⟩ := hq
  replace hs := hs.trans (spl_e u_5 rfl)
  rw [ef9, eL9, eQ9] at hP; clear ef9 eL9 eQ9
  rcases hq with ⟨rfl, hq⟩ | ⟨rfl, hq⟩
  · skip
    have hc_6 := hq
    refine lv_if_eq (tgt := 25) hx hb dX11_wilful_4 (by decide) (fun c => absurd c (by decide)) (fun c => ?_)
    refine lv_aload_n hx hb dX11_wilful_7 rfl (lv_at hl 0 rfl) ?_
    refine sl_gX_0_0_11 hx hb hts hown hK hP dX11_wilful_8 ?_
    refine lv_iload_n hx hb dX11_wilful_11 rfl (lv_at hl 2 rfl) ?_
    obtain ⟨v_7, ev_7⟩ : ∃ z : Int32, z = f 1 3 := ⟨_, rfl⟩
    have q_8 : 0 ≤ v_7.toInt ∧ v_7.toInt ≤ 8 := by rw [ev_7]; exact hI 1 3
    have q_9 : (f 1 3).toInt = v_7.toInt := (congrArg Int32.toInt (show f 1 3 = v_7 from ev_7.symm))
    refine sg_calli (va_runV (As := [.int x1]) (rest := []) ⟨hx, hb, hml, hown, hts⟩ (kX0_has l D ca za h hh f L Q hI x1 H.size) (sl_c0_has_0_0_0_0_11 hts ⟨Nat.le_of_ble_eq_true rfl, Nat.le_of_ble_eq_true rfl⟩) (sl_vX_1 hA hK hP hS hZ) rfl rfl hl.1 rfl (lv_room (Nat.le_of_ble_eq_true rfl)) dX11_wilful_12 ⟨Nat.le_refl _, Nat.le_refl _⟩) hA hS (fun r_14 f_11 L_12 Q_13 H locs hq hP hS => ?_)
    obtain ⟨⟨ef9, eL9, eQ9⟩, hq, u_15⟩ := hq
    replace hs := hs.trans ((if_pos rfl).trans (spl_e ev_7 (spl_e u_15 rfl)))
    rw [ef9, eL9, eQ9] at hP; clear ef9 eL9 eQ9
    rcases hq with ⟨rfl, hq⟩ | ⟨rfl, hq⟩
    · skip
      have hc_16 := hq
      refine lv_if_eq (tgt := 25) hx hb dX11_wilful_15 (by decide) (fun c => absurd c (by decide)) (fun c => ?_)
      refine lv_iload_n hx hb dX11_wilful_18 rfl (lv_at hl 3 rfl) ?_
      refine sg_calli (va_runS (As := [.int x2]) (rest := []) ⟨hx, hb, hml, hown, hts⟩ (kX11_isSetting l D ca za h hh f L Q hI x2 H.size) (va_cwS 1 hts (gw_S (fun _ h => List.mem_cons_of_mem _ h) mw_61 mw_62 mw_37 mw_60) rfl rfl rfl hd_yX11_isSetting.2 ⟨Nat.le_of_ble_eq_true rfl, Nat.le_of_ble_eq_true rfl⟩) (sg_preS hA hK hP hS hZ) rfl rfl hl.1 rfl (lv_room (Nat.le_of_ble_eq_true rfl)) dX11_wilful_19 ⟨Nat.le_refl _, Nat.le_refl _⟩) hA hS (fun r_20 f_17 L_18 Q_19 H locs hq hP hS => ?_)
      obtain ⟨⟨ef9, eL9, eQ9⟩, hq, u_21⟩ := hq
      replace hs := hs.trans ((if_pos rfl).trans (spl_e u_21 rfl))
      rw [ef9, eL9, eQ9] at hP; clear ef9 eL9 eQ9
      rcases hq with ⟨rfl, hq⟩ | ⟨rfl, hq⟩
      · skip
        have hc_22 := hq
        refine lv_if_ne (tgt := 28) hx hb dX11_wilful_22 (by decide) (fun c => ?_) (fun c => absurd c (by decide))
        refine lv_aload_n hx hb dX11_wilful_28 rfl (lv_at hl 0 rfl) ?_
        refine lv_iload_n hx hb dX11_wilful_29 rfl (lv_at hl 1 rfl) ?_
        refine sg_calli (va_runV (As := [.int x0]) (rest := []) ⟨hx, hb, hml, hown, hts⟩ (kX11_readWeek l D ca za h hh f L Q hI x0 ⟨by omega, by omega⟩ H.size) (sl_c11_readWeek_2_0_0_45_11 hts ⟨Nat.le_of_ble_eq_true rfl, Nat.le_of_ble_eq_true rfl⟩) (sl_vX_0 hA hK hP hS hZ) rfl rfl hl.1 rfl (lv_room (Nat.le_of_ble_eq_true rfl)) dX11_wilful_30 ⟨Nat.le_refl _, Nat.le_refl _⟩) hA hS (fun r_26 f_23 L_24 Q_25 H locs hq hP hS => ?_)
        obtain ⟨⟨hI, hk_f_23, eL9, eQ9⟩, hq, u_27⟩ := hq
        replace hs := hs.trans ((if_pos rfl).trans (spl2_e u_27 rfl))
        rw [eL9, eQ9] at hP; clear eL9 eQ9
        have hF : sgK WkX11_wilful f f_23 := sgK.tr hF hk_f_23 (by decide +kernel)
        refine lv_if_eq (tgt := 41) hx hb dX11_wilful_33 (by decide) (fun c => ?_) (fun c => ?_)
        · skip
          have c_28 : r_26.toInt = 0 := (by first | exact (cm_eq1 ti_0 c) | (have z := Int32.toInt_inj.mpr c; have k1 : (0 : Int32).toInt = 0 := ti_0; omega))
          refine lv_aload_n hx hb dX11_wilful_41 rfl (lv_at hl 0 rfl) ?_
          refine sl_gX_0_2_11 hx hb hts hown hK hP dX11_wilful_42 ?_
          refine lv_iload_n hx hb dX11_wilful_45 rfl (lv_at hl 2 rfl) ?_
          refine lv_iload_n hx hb dX11_wilful_46 rfl (lv_at hl 3 rfl) ?_
          refine sg_calli (va_runV (As := [.int x1, .int x2]) (rest := []) ⟨hx, hb, hml, hown, hts⟩ (kX4_moreByWilful l D ca za h hh f_23 L Q hI x1 x2 ⟨by omega, by omega⟩ ⟨by omega, by omega⟩ H.size) (sl_c4_moreByWilful_7_0_0_170_11 hts ⟨Nat.le_of_ble_eq_true rfl, Nat.le_of_ble_eq_true rfl⟩) (sl_vX_13 hA hK hP hS hZ) rfl rfl hl.1 rfl (lv_room (Nat.le_of_ble_eq_true rfl)) dX11_wilful_47 ⟨Nat.le_refl _, Nat.le_refl _⟩) hA hS (fun r_33 f_30 L_31 Q_32 H locs hq hP hS => ?_)
          obtain ⟨⟨hI, hk_f_30, eL9, eQ9⟩, hq, u_34⟩ := hq
          rw [eL9, eQ9] at hP; clear eL9 eQ9
          have hF : sgK WkX11_wilful f f_30 := sgK.tr hF hk_f_30 (by decide +kernel)
          exact hret _ _ _ _ (r_33) f_30 L Q dX11_wilful_50 hP hS ⟨⟨hI, hF, rfl, rfl⟩, trivial, (Eq.trans (Eq.symm (hs.trans ((if_pos c_28).trans (spl2_e u_34 rfl)))) hsp)⟩
        · skip
          have c_29 : r_26.toInt ≠ 0 := (by first | exact (cm_ne1 ti_0 c) | (have z := bn_ne c; have k1 : (0 : Int32).toInt = 0 := ti_0; omega))
          refine lv_ldc (v := (-2000000000)) hx hb hown (hts _ (List.mem_cons_of_mem _ mw_68)) dX11_wilful_36 ?_
          refine lv_goto (tgt := 50) hx hb dX11_wilful_38 (by decide) ?_
          have k99 : ((-2000000000) : Int32).toInt = (-2000000000) := ti_m2000000000
          exact hret _ _ _ _ (-2000000000) f_23 L Q dX11_wilful_50 hP hS ⟨⟨hI, hF, rfl, rfl⟩, trivial, (Eq.trans (Eq.symm (hs.trans ((if_neg c_29).trans rfl))) hsp)⟩
      · skip
        have hc_22 := hq
        refine lv_if_ne (tgt := 28) hx hb dX11_wilful_22 (by decide) (fun c => absurd c (by decide)) (fun c => ?_)
        refine lv_ldc (v := (-2000000000)) hx hb hown (hts _ (List.mem_cons_of_mem _ mw_68)) dX11_wilful_25 ?_
        have k99 : ((-2000000000) : Int32).toInt = (-2000000000) := ti_m2000000000
        exact hret _ _ _ _ (-2000000000) f L Q dX11_wilful_27 hP hS ⟨⟨hI, hF, rfl, rfl⟩, trivial, (Eq.trans (Eq.symm (hs.trans ((if_neg (by decide)).trans rfl))) hsp)⟩
    · skip
      have hc_16 := hq
      refine lv_if_eq (tgt := 25) hx hb dX11_wilful_15 (by decide) (fun c => ?_) (fun c => absurd c (by decide))
      refine lv_ldc (v := (-2000000000)) hx hb hown (hts _ (List.mem_cons_of_mem _ mw_68)) dX11_wilful_25 ?_
      have k99 : ((-2000000000) : Int32).toInt = (-2000000000) := ti_m2000000000
      exact hret _ _ _ _ (-2000000000) f L Q dX11_wilful_27 hP hS ⟨⟨hI, hF, rfl, rfl⟩, trivial, (Eq.trans (Eq.symm (hs.trans ((if_neg (by decide)).trans rfl))) hsp)⟩
  · skip
    have hc_6 := hq
    refine lv_if_eq (tgt := 25) hx hb dX11_wilful_4 (by decide) (fun c => ?_) (fun c => absurd c (by decide))
    refine lv_ldc (v := (-2000000000)) hx hb hown (hts _ (List.mem_cons_of_mem _ mw_68)) dX11_wilful_25 ?_
    have k99 : ((-2000000000) : Int32).toInt = (-2000000000) := ti_m2000000000
    exact hret _ _ _ _ (-2000000000) f L Q dX11_wilful_27 hP hS ⟨⟨hI, hF, rfl, rfl⟩, trivial, (Eq.trans (Eq.symm (hs.trans ((if_neg (by decide)).trans rfl))) hsp)⟩

set_option maxHeartbeats 4000000 in
set_option maxRecDepth 100000 in
theorem kX6_behindShift (l : Launch) (D : va_G) (ca : Nat → ClassId) (za h : Nat → Nat) (hh : sgH 52 h) (f : sg_F) (L : sg_L) (Q : sg_Q) (hI : sgI loX hiX f) (x0 : Int32) (x1 : Int32) (b0 : (-1) ≤ x0.toInt ∧ x0.toInt ≤ 7) (b1 : 0 ≤ x1.toInt ∧ x1.toInt ≤ 60) (sz : Nat) : Met l yX6_behindShift gwX6_behindShift { frames := 2, cells := 0, slots := 0, locals := 47 } (sgP D vwCl (tyX ca) 52 h (eX ca h) zcX za f L Q sz [.ref (h 27), .int x0, .int x1]) (sgQi D vwCl 52 h (eX ca h) sz (fun r f1 L1 Q1 => ((f1 = f ∧ L1 = L ∧ Q1 = Q) ∧ (0 ≤ r.toInt ∧ r.toInt ≤ 60) ∧ (r) = sX6_behindShift x0 x1 f L))) 0 0 (sgA 52 h sz) := by
  refine sg_ofWi (cc := cX6_behindShift) (maxL := 3) RX6 (by decide) rfl rfl (Nat.le_of_ble_eq_true rfl) ?_
  intro p e s m below meth cd Qz ls hx hb hml hown hts hK hZ hP hS hl hret
  have hA := sgY.self (n := 52) (h := h) (sz := s.heap.size)
  have hl : lv_has ls 3 [(0, .ref (h 27)), (1, .int x0), (2, .int x1)] := hl
  obtain ⟨H, hH⟩ : ∃ z : Heap, z = s.heap := ⟨_, rfl⟩
  obtain ⟨locs, hlo⟩ : ∃ z : List Loc, z = [] := ⟨_, rfl⟩
  have hP : va_P D vwCl (sgw 52 h (eX ca h) f L Q) H := by rw [hH]; exact hP
  have hS : va_S (sgA 52 h s.heap.size) s.heap H locs := by rw [hH, hlo]; exact hS
  suffices hgo : W p l e ({ frames := 2, cells := 0, slots := 0, locals := 47 }) s m ([.ref (h 27), .int x0, .int x1] : List Value).toArray below meth cd H locs 0 0 Qz (F0 m 0 ls []) by rw [hH, hlo] at hgo; exact hgo
  clear hH hlo
  obtain ⟨sp, hsp⟩ : ∃ z : Int32, z = sX6_behindShift x0 x1 f L := ⟨_, rfl⟩
  have hs : sp = sX6_behindShift x0 x1 f L := hsp
  refine lv_iload_n hx hb dX6_behindShift_0 rfl (lv_at hl 1 rfl) ?_
  refine lv_iconst (v := (-1)) hx hb dX6_behindShift_1 ic_m1 ?_
  refine lv_icmp_ne (tgt := 18) hx hb dX6_behindShift_2 (by decide) (fun c => ?_) (fun c => ?_)
  · skip
    have c_1 : x0.toInt ≠ (-1) := (by first | exact (cm_ne1 ti_m1 c) | (have z := bn_ne c; have k1 : ((-1) : Int32).toInt = (-1) := ti_m1; omega))
    refine lv_aload_n hx hb dX6_behindShift_18 rfl (lv_at hl 0 rfl) ?_
    refine sl_gX_27_0_6 hx hb hts hown hK hP dX6_behindShift_19 ?_
    refine lv_aload_n hx hb dX6_behindShift_22 rfl (lv_at hl 0 rfl) ?_
    refine sl_gX_27_2_6 (v := (f 27 2)) hx hb hts hown hK hP rfl dX6_behindShift_23 ?_
    refine lv_topi (fun v_3 ev_3 => ?_)
    have q_4 : 0 ≤ v_3.toInt ∧ v_3.toInt ≤ 2 := by rw [ev_3]; exact hI 27 2
    refine lv_aload_n hx hb dX6_behindShift_26 rfl (lv_at hl 0 rfl) ?_
    refine sl_gX_27_0_6 hx hb hts hown hK hP dX6_behindShift_27 ?_
    refine lv_iload_n hx hb dX6_behindShift_30 rfl (lv_at hl 1 rfl) ?_
    refine lv_aload_n hx hb dX6_behindShift_31 rfl (lv_at hl 0 rfl) ?_
    refine sl_gX_27_2_6 (v := v_3) hx hb hts hown hK hP (show f 27 2 = v_3 from ev_3.symm) dX6_behindShift_32 ?_
    refine lv_iload_n hx hb dX6_behindShift_35 rfl (lv_at hl 2 rfl) ?_
    refine lv_aload_n hx hb dX6_behindShift_36 rfl (lv_at hl 0 rfl) ?_
    refine sl_gX_27_0_6 hx hb hts hown hK hP dX6_behindShift_37 ?_
    refine lv_iload_n hx hb dX6_behindShift_40 rfl (lv_at hl 1 rfl) ?_
    refine lv_bipush (v := 6) hx hb dX6_behindShift_41 bp_6 ?_
    refine sg_calli (va_runV (As := [.int x0, .int 6]) (rest := [.int x1, .int v_3, .int x0, .ref (h 1), .int v_3, .ref (h 1)]) ⟨hx, hb, hml, hown, hts⟩ (kX0_numberOf l D ca za h hh f L Q hI x0 6 ⟨by omega, by omega⟩ (by decide) H.size) (sl_c0_numberOf_0_0_0_0_6 hts ⟨Nat.le_of_ble_eq_true rfl, Nat.le_of_ble_eq_true rfl⟩) (sl_vX_1 hA hK hP hS hZ) rfl rfl hl.1 rfl (lv_room (Nat.le_of_ble_eq_true rfl)) dX6_behindShift_43 ⟨Nat.le_refl _, Nat.le_refl _⟩) hA hS (fun r_8 f_5 L_6 Q_7 H locs hq hP hS => ?_)
    obtain ⟨⟨ef9, eL9, eQ9⟩, hq, u_9⟩ := hq
    rw [ef9, eL9, eQ9] at hP; clear ef9 eL9 eQ9
    refine sg_calli (va_runV (As := [.int x0, .int v_3, .int x1, .int r_8]) (rest := [.int v_3, .ref (h 1)]) ⟨hx, hb, hml, hown, hts⟩ (kX0_turned l D ca za h hh f L Q hI x0 v_3 x1 r_8 ⟨by omega, by omega⟩ q_4 b1 ⟨by omega, by omega⟩ H.size) (sl_c0_turned_1_0_0_22_6 hts ⟨Nat.le_of_ble_eq_true rfl, Nat.le_of_ble_eq_true rfl⟩) (sl_vX_1 hA hK hP hS hZ) rfl rfl hl.1 rfl (lv_room (Nat.le_of_ble_eq_true rfl)) dX6_behindShift_46 ⟨Nat.le_refl _, Nat.le_refl _⟩) hA hS (fun r_13 f_10 L_11 Q_12 H locs hq hP hS => ?_)
    obtain ⟨⟨ef9, eL9, eQ9⟩, hq, u_14⟩ := hq
    rw [ef9, eL9, eQ9] at hP; clear ef9 eL9 eQ9
    refine sg_calli (va_runV (As := [.int v_3, .int r_13]) (rest := []) ⟨hx, hb, hml, hown, hts⟩ (kX0_slipped l D ca za h hh f L Q hI v_3 r_13 q_4 ⟨by omega, by omega⟩ H.size) (sl_c0_slipped_1_0_0_21_6 hts ⟨Nat.le_of_ble_eq_true rfl, Nat.le_of_ble_eq_true rfl⟩) (sl_vX_1 hA hK hP hS hZ) rfl rfl hl.1 rfl (lv_room (Nat.le_of_ble_eq_true rfl)) dX6_behindShift_49 ⟨Nat.le_refl _, Nat.le_refl _⟩) hA hS (fun r_18 f_15 L_16 Q_17 H locs hq hP hS => ?_)
    obtain ⟨⟨ef9, eL9, eQ9⟩, hq, u_19⟩ := hq
    rw [ef9, eL9, eQ9] at hP; clear ef9 eL9 eQ9
    exact hret _ _ _ _ (r_18) f L Q dX6_behindShift_52 hP hS ⟨⟨rfl, rfl, rfl⟩, ⟨by omega, by omega⟩, (Eq.trans (Eq.symm (hs.trans (((if_neg c_1).trans (spl_e ev_3 (spl_e u_9 (spl_e u_14 (spl_e u_19 rfl)))))))) hsp)⟩
  · skip
    have c_2 : x0.toInt = (-1) := (by first | exact (cm_eq1 ti_m1 c) | (have z := Int32.toInt_inj.mpr c; have k1 : ((-1) : Int32).toInt = (-1) := ti_m1; omega))
    refine lv_aload_n hx hb dX6_behindShift_5 rfl (lv_at hl 0 rfl) ?_
    refine sl_gX_27_0_6 hx hb hts hown hK hP dX6_behindShift_6 ?_
    refine lv_aload_n hx hb dX6_behindShift_9 rfl (lv_at hl 0 rfl) ?_
    refine sl_gX_27_2_6 (v := (f 27 2)) hx hb hts hown hK hP rfl dX6_behindShift_10 ?_
    refine lv_topi (fun v_20 ev_20 => ?_)
    have q_21 : 0 ≤ v_20.toInt ∧ v_20.toInt ≤ 2 := by rw [ev_20]; exact hI 27 2
    refine lv_iload_n hx hb dX6_behindShift_13 rfl (lv_at hl 2 rfl) ?_
    refine sg_calli (va_runV (As := [.int v_20, .int x1]) (rest := []) ⟨hx, hb, hml, hown, hts⟩ (kX0_slipped l D ca za h hh f L Q hI v_20 x1 q_21 b1 H.size) (sl_c0_slipped_1_0_0_21_6 hts ⟨Nat.le_of_ble_eq_true rfl, Nat.le_of_ble_eq_true rfl⟩) (sl_vX_1 hA hK hP hS hZ) rfl rfl hl.1 rfl (lv_room (Nat.le_of_ble_eq_true rfl)) dX6_behindShift_14 ⟨Nat.le_refl _, Nat.le_refl _⟩) hA hS (fun r_25 f_22 L_23 Q_24 H locs hq hP hS => ?_)
    obtain ⟨⟨ef9, eL9, eQ9⟩, hq, u_26⟩ := hq
    rw [ef9, eL9, eQ9] at hP; clear ef9 eL9 eQ9
    exact hret _ _ _ _ (r_25) f L Q dX6_behindShift_17 hP hS ⟨⟨rfl, rfl, rfl⟩, ⟨by omega, by omega⟩, (Eq.trans (Eq.symm (hs.trans (((if_pos c_2).trans (spl_e ev_20 (spl_e u_26 rfl)))))) hsp)⟩

set_option maxHeartbeats 4000000 in
set_option maxRecDepth 100000 in
theorem kX6_allBehind (l : Launch) (D : va_G) (ca : Nat → ClassId) (za h : Nat → Nat) (hh : sgH 52 h) (f : sg_F) (L : sg_L) (Q : sg_Q) (hI : sgI loX hiX f) (x0 : Int64) (x1 : Int32) (b1 : (-1) ≤ x1.toInt ∧ x1.toInt ≤ 7) (sz : Nat) : Met l yX6_allBehind gwX6_allBehind { frames := 3, cells := 0, slots := 0, locals := 69 } (sgP D vwCl (tyX ca) 52 h (eX ca h) zcX za f L Q sz [.ref (h 27), .long x0, .int x1]) (sgQl D vwCl 52 h (eX ca h) sz (fun r f1 L1 Q1 => ((f1 = f ∧ L1 = L ∧ Q1 = Q) ∧ True ∧ (r) = sX6_allBehind x0 x1 f L))) 0 0 (sgA 52 h sz) := by
  refine sg_ofWl (cc := cX6_allBehind) (maxL := 7) RX6 (by decide) rfl rfl (Nat.le_of_ble_eq_true rfl) ?_
  intro p e s m below meth cd Qz ls hx hb hml hown hts hK hZ hP hS hl hret
  have hA := sgY.self (n := 52) (h := h) (sz := s.heap.size)
  have hl : lv_has ls 7 [(0, .ref (h 27)), (1, .long x0), (3, .int x1)] := hl
  obtain ⟨H, hH⟩ : ∃ z : Heap, z = s.heap := ⟨_, rfl⟩
  obtain ⟨locs, hlo⟩ : ∃ z : List Loc, z = [] := ⟨_, rfl⟩
  have hP : va_P D vwCl (sgw 52 h (eX ca h) f L Q) H := by rw [hH]; exact hP
  have hS : va_S (sgA 52 h s.heap.size) s.heap H locs := by rw [hH, hlo]; exact hS
  suffices hgo : W p l e ({ frames := 3, cells := 0, slots := 0, locals := 69 }) s m ([.ref (h 27), .long x0, .int x1] : List Value).toArray below meth cd H locs 0 0 Qz (F0 m 0 ls []) by rw [hH, hlo] at hgo; exact hgo
  clear hH hlo
  obtain ⟨sp, hsp⟩ : ∃ z : Int64, z = sX6_allBehind x0 x1 f L := ⟨_, rfl⟩
  have hs : sp = sX6_allBehind x0 x1 f L := hsp
  have loop_6 : ∀ (n_6 : Nat) (y4_6 : Int64) (y6_6 : Int32) (H : Heap) (locs : List Loc) (ls : Array Slot), sp = sX6_allBehind_l6 x0 x1 n_6 y4_6 y6_6 f L → 61 - y6_6.toInt < (n_6 : Int) → 0 ≤ y6_6.toInt ∧ y6_6.toInt ≤ 61 → va_P D vwCl (sgw 52 h (eX ca h) f L Q) H → va_S (sgA 52 h s.heap.size) s.heap H locs → lv_has ls 7 [(0, .ref (h 27)), (1, .long x0), (3, .int x1), (4, .long y4_6), (6, .int y6_6)] → W p l e ({ frames := 3, cells := 0, slots := 0, locals := 69 }) s m ([.ref (h 27), .long x0, .int x1] : List Value).toArray below meth cd H locs 0 0 Qz (F0 m 6 ls []) := by
    intro n_6
    induction n_6 with
    | zero => intro y4_6 y6_6 H locs ls hs hm_6 hy0_6 hP hS hl; exact absurd hm_6 (by omega)
    | succ n_6 ih_6 =>
      have blk_38 : ∀ (y4_38 : Int64) (y6_38 : Int32) (H : Heap) (locs : List Loc) (ls : Array Slot), sp = sX6_allBehind_b38 (sX6_allBehind_l6 x0 x1 n_6) x0 x1 y4_38 y6_38 f L → 61 - y6_38.toInt < ((n_6 + 1 : Nat) : Int) → 0 ≤ y6_38.toInt ∧ y6_38.toInt ≤ 60 → va_P D vwCl (sgw 52 h (eX ca h) f L Q) H → va_S (sgA 52 h s.heap.size) s.heap H locs → lv_has ls 7 [(0, .ref (h 27)), (1, .long x0), (3, .int x1), (4, .long y4_38), (6, .int y6_38)] → W p l e ({ frames := 3, cells := 0, slots := 0, locals := 69 }) s m ([.ref (h 27), .long x0, .int x1] : List Value).toArray below meth cd H locs 0 0 Qz (F0 m 38 ls []) := by
        intro y4_38 y6_38 H locs ls hs hm_6 hy0_38 hP hS hl
        obtain ⟨v_1, ev_1⟩ : ∃ z : Int32, z = y6_38 + 1 := ⟨_, rfl⟩
        have q_2 : v_1.toInt = y6_38.toInt + 1 := by rw [ev_1]; exact (bn_addc y6_38 1 (by decide) (by omega) (by omega))
        refine lv_iinc (v := v_1) (lv' := [(6, .int v_1), (0, .ref (h 27)), (1, .long x0), (3, .int x1), (4, .long y4_38)]) hx hb dX6_allBehind_38 hl (k := 4) rfl (by rw [ev_1]; rfl) (by decide) rfl (fun ls hl => ?_)
        refine lv_goto (tgt := 6) hx hb dX6_allBehind_41 (by decide) ?_
        exact ih_6 y4_38 v_1 _ _ _ (hs.trans ((spl_e ev_1 rfl))) (by omega) ⟨by omega, by omega⟩ hP hS (lv_sub hl [1, 2, 3, 4, 0] rfl)
      intro y4_6 y6_6 H locs ls hs hm_6 hy0_6 hP hS hl
      have hs : sp = sX6_allBehind_h6 x0 x1 (sX6_allBehind_l6 x0 x1 n_6) y4_6 y6_6 f L := hs
      refine lv_iload hx hb dX6_allBehind_6 (lv_at hl 4 rfl) ?_
      refine lv_bipush (v := 60) hx hb dX6_allBehind_8 bp_60 ?_
      refine lv_icmp_gt (tgt := 44) hx hb dX6_allBehind_10 (by decide) (fun c => ?_) (fun c => ?_)
      · skip
        have c_3 : 60 < y6_6.toInt := (by first | exact (cm_lt0 ti_60 c) | (have z := bn_lt c; have k1 : (60 : Int32).toInt = 60 := ti_60; omega))
        refine lv_lload hx hb dX6_allBehind_44 (lv_at hl 3 rfl) ?_
        exact hret _ _ _ _ (y4_6) f L Q dX6_allBehind_46 hP hS ⟨⟨rfl, rfl, rfl⟩, trivial, (Eq.trans (Eq.symm (hs.trans (((if_pos c_3).trans rfl)))) hsp)⟩
      · skip
        have c_4 : y6_6.toInt ≤ 60 := (by first | exact (cm_nlt0 ti_60 c) | (have z := bn_nlt c; have k1 : (60 : Int32).toInt = 60 := ti_60; omega))
        refine lv_lload_n hx hb dX6_allBehind_13 rfl (lv_at hl 1 rfl) ?_
        refine lv_iload hx hb dX6_allBehind_14 (lv_at hl 4 rfl) ?_
        obtain ⟨w_5, ew_5⟩ : ∃ z : Int64, z = (Int64.toUInt64 (x0 : Int64) >>> (Int64.toUInt64 (Int32.toInt64 y6_6) &&& Int64.toUInt64 63)).toInt64 := ⟨_, rfl⟩
        refine lv_lushr (v := w_5) hx hb dX6_allBehind_16 ew_5.symm ?_
        refine lv_lconst (v := 1) hx hb dX6_allBehind_17 (by decide) ?_
        refine lv_land hx hb dX6_allBehind_18 ?_
        refine lv_topl (fun w_6 ew_6 => ?_)
        refine lv_lconst (v := 0) hx hb dX6_allBehind_19 (by decide) ?_
        refine W.lcmp hx hb dX6_allBehind_20 ?_
        refine lv_topi (fun v_7 ev_7 => ?_)
        replace hs := hs.trans ((if_neg (Int.not_lt.mpr c_4)).trans (spl_e ew_5 (spl_e ew_6 (spl_e ev_7 rfl))))
        have q_8 : (v_7.toInt = -1 ∧ w_6.toInt < 0) ∨ (v_7.toInt = 0 ∧ w_6.toInt = 0) ∨ (v_7.toInt = 1 ∧ 0 < w_6.toInt) := by rw [ev_7]; have k1 : (0 : Int64).toInt = 0 := (by decide); have z := bn_lcmpI (w_6 : Int64) (0 : Int64); omega
        refine lv_if_eq (tgt := 38) hx hb dX6_allBehind_21 (by decide) (fun c => ?_) (fun c => ?_)
        · skip
          have c_9 : v_7.toInt = 0 := (by first | exact (cm_eq1 ti_0 c) | (have z := Int32.toInt_inj.mpr c; have k1 : (0 : Int32).toInt = 0 := ti_0; omega))
          exact blk_38 y4_6 y6_6 _ _ _ (hs.trans ((if_pos c_9).trans rfl)) (by omega) ⟨by omega, by omega⟩ hP hS (lv_sub hl [0, 1, 2, 3, 4] rfl)
        · skip
          have c_10 : v_7.toInt ≠ 0 := (by first | exact (cm_ne1 ti_0 c) | (have z := bn_ne c; have k1 : (0 : Int32).toInt = 0 := ti_0; omega))
          refine lv_lload hx hb dX6_allBehind_24 (lv_at hl 3 rfl) ?_
          refine lv_lconst (v := 1) hx hb dX6_allBehind_26 (by decide) ?_
          refine lv_aload_n hx hb dX6_allBehind_27 rfl (lv_at hl 0 rfl) ?_
          refine lv_iload_n hx hb dX6_allBehind_28 rfl (lv_at hl 2 rfl) ?_
          refine lv_iload hx hb dX6_allBehind_29 (lv_at hl 4 rfl) ?_
          refine sg_calli (va_runV (As := [.int x1, .int y6_6]) (rest := [.long 1, .long y4_6]) ⟨hx, hb, hml, hown, hts⟩ (kX6_behindShift l D ca za h hh f L Q hI x1 y6_6 b1 ⟨by omega, by omega⟩ H.size) (sl_c6_behindShift_2_0_0_47_6 hts ⟨Nat.le_of_ble_eq_true rfl, Nat.le_of_ble_eq_true rfl⟩) (sl_vX_27 hA hK hP hS hZ) rfl rfl hl.1 rfl (lv_room (Nat.le_of_ble_eq_true rfl)) dX6_allBehind_31 ⟨Nat.le_refl _, Nat.le_refl _⟩) hA hS (fun r_14 f_11 L_12 Q_13 H locs hq hP hS => ?_)
          obtain ⟨⟨ef9, eL9, eQ9⟩, hq, u_15⟩ := hq
          rw [ef9, eL9, eQ9] at hP; clear ef9 eL9 eQ9
          obtain ⟨w_16, ew_16⟩ : ∃ z : Int64, z = ((1 : Int64) <<< (Int32.toInt64 r_14 &&& 63)) := ⟨_, rfl⟩
          refine lv_lshl (v := w_16) hx hb dX6_allBehind_34 ew_16.symm ?_
          refine lv_lor hx hb dX6_allBehind_35 ?_
          refine lv_topl (fun w_17 ew_17 => ?_)
          refine lv_lstore (lv' := [(4, .long w_17), (0, .ref (h 27)), (1, .long x0), (3, .int x1), (6, .int y6_6)]) hx hb dX6_allBehind_36 hl (by decide) rfl (fun ls hl => ?_)
          exact blk_38 w_17 y6_6 _ _ _ (hs.trans ((if_neg c_10).trans (spl_e u_15 (spl_e ew_16 (spl_e ew_17 rfl))))) (by omega) ⟨by omega, by omega⟩ hP hS (lv_sub hl [1, 2, 3, 0, 4] rfl)
  refine lv_lconst (v := 0) hx hb dX6_allBehind_0 (by decide) ?_
  refine lv_lstore (lv' := [(4, .long 0), (0, .ref (h 27)), (1, .long x0), (3, .int x1)]) hx hb dX6_allBehind_1 hl (by decide) rfl (fun ls hl => ?_)
  refine lv_iconst (v := 0) hx hb dX6_allBehind_3 ic_0 ?_
  refine lv_istore (lv' := [(6, .int 0), (4, .long 0), (0, .ref (h 27)), (1, .long x0), (3, .int x1)]) hx hb dX6_allBehind_4 hl (by decide) rfl (fun ls hl => ?_)
  exact loop_6 62 0 0 _ _ _ hs (by have kc1 : (0 : Int32).toInt = 0 := ti_0; omega) (by decide) hP hS (lv_sub hl [2, 3, 4, 1, 0] rfl)

set_option maxHeartbeats 4000000 in
set_option maxRecDepth 100000 in
theorem kX6_asSeen (l : Launch) (D : va_G) (ca : Nat → ClassId) (za h : Nat → Nat) (hh : sgH 52 h) (f : sg_F) (L : sg_L) (Q : sg_Q) (hI : sgI loX hiX f) (x0 : Int32) (t : Nat) (ht_t : t < 6) (hq27 : Q 27 1 = some (h (40 + 2 * t))) (b0 : 0 ≤ x0.toInt ∧ x0.toInt ≤ 11) (sz : Nat) : Met l yX6_asSeen gwX6_asSeen { frames := 0, cells := 0, slots := 0, locals := 0 } (sgP D vwCl (tyX ca) 52 h (eX ca h) zcX za f L Q sz [.ref (h 27), .int x0]) (sgQl D vwCl 52 h (eX ca h) sz (fun r f1 L1 Q1 => ((f1 = f ∧ L1 = L ∧ Q1 = Q) ∧ True ∧ (r) = sX6_asSeen x0 t f L))) 0 0 (sgA 52 h sz) := by
  refine sg_ofWl (cc := cX6_asSeen) (maxL := 4) RX6 (by decide) rfl rfl (Nat.le_of_ble_eq_true rfl) ?_
  intro p e s m below meth cd Qz ls hx hb hml hown hts hK hZ hP hS hl hret
  have hA := sgY.self (n := 52) (h := h) (sz := s.heap.size)
  have hl : lv_has ls 4 [(0, .ref (h 27)), (1, .int x0)] := hl
  obtain ⟨H, hH⟩ : ∃ z : Heap, z = s.heap := ⟨_, rfl⟩
  obtain ⟨locs, hlo⟩ : ∃ z : List Loc, z = [] := ⟨_, rfl⟩
  have hP : va_P D vwCl (sgw 52 h (eX ca h) f L Q) H := by rw [hH]; exact hP
  have hS : va_S (sgA 52 h s.heap.size) s.heap H locs := by rw [hH, hlo]; exact hS
  suffices hgo : W p l e ({ frames := 0, cells := 0, slots := 0, locals := 0 }) s m ([.ref (h 27), .int x0] : List Value).toArray below meth cd H locs 0 0 Qz (F0 m 0 ls []) by rw [hH, hlo] at hgo; exact hgo
  clear hH hlo
  obtain ⟨sp, hsp⟩ : ∃ z : Int64, z = sX6_asSeen x0 t f L := ⟨_, rfl⟩
  have hs : sp = sX6_asSeen x0 t f L := hsp
  refine lv_aload_n hx hb dX6_asSeen_0 rfl (lv_at hl 0 rfl) ?_
  refine sg_get (ci := 6) (v := .ref (h (40 + 2 * t))) (C := RX6) (T := TX6) (N := 3) hx hb hts (fun w h => List.mem_cons_of_mem _ (gx_6 w h)) hown hK hP 27 (by decide) rfl rfl 1 (by decide) (hts _ (List.mem_cons_of_mem _ mw_163)) (fun _ h9 => h9) (congrArg (fun z => some (va_rf z)) hq27) dX6_asSeen_1 ?_
  refine sg_get (ci := 7) (v := .ref (h (41 + 2 * t))) (C := RX7) (T := TX7) (N := 4) hx hb hts (fun w h => List.mem_cons_of_mem _ (gx_7 w h)) hown hK hP (40 + 2 * t) (by have := ht_t; omega) (eX_sh ca h ht_t _ _ _) rfl 0 (by decide) (hts _ (List.mem_cons_of_mem _ mw_263)) (fun _ h9 => h9) rfl dX6_asSeen_4 ?_
  refine lv_iload_n hx hb dX6_asSeen_7 rfl (lv_at hl 1 rfl) ?_
  refine sg_lald hx hb hK hP (41 + 2 * t) (by have := ht_t; omega) 1 (eX_el ca h ht_t _ _ _) rfl (i := x0) (vp_in_iff.mpr ⟨by omega, by omega⟩) dX6_asSeen_8 ?_
  obtain ⟨w_1, ew_1⟩ : ∃ z : Int64, z = L (41 + 2 * t) (Int32.toNatClampNeg x0) := ⟨_, rfl⟩
  rw [← ew_1]
  refine lv_lstore_n (lv' := [(2, .long w_1), (0, .ref (h 27)), (1, .int x0)]) hx hb dX6_asSeen_9 rfl hl (by decide) rfl (fun ls hl => ?_)
  refine lv_lload_n hx hb dX6_asSeen_10 rfl (lv_at hl 0 rfl) ?_
  refine lv_ldc2 (v := (-1)) hx hb hown (hts _ (List.mem_cons_of_mem _ mw_264)) dX6_asSeen_11 ?_
  refine W.lcmp hx hb dX6_asSeen_14 ?_
  refine lv_topi (fun v_2 ev_2 => ?_)
  replace hs := hs.trans (spl_e ew_1 (spl_e ev_2 rfl))
  have q_3 : (v_2.toInt = -1 ∧ w_1.toInt < (-1)) ∨ (v_2.toInt = 0 ∧ w_1.toInt = (-1)) ∨ (v_2.toInt = 1 ∧ (-1) < w_1.toInt) := by rw [ev_2]; have k1 : ((-1) : Int64).toInt = (-1) := (by decide); have z := bn_lcmpI (w_1 : Int64) ((-1) : Int64); omega
  refine lv_if_ne (tgt := 22) hx hb dX6_asSeen_15 (by decide) (fun c => ?_) (fun c => ?_)
  · skip
    have c_4 : v_2.toInt ≠ 0 := (by first | exact (cm_ne1 ti_0 c) | (have z := bn_ne c; have k1 : (0 : Int32).toInt = 0 := ti_0; omega))
    refine lv_lload_n hx hb dX6_asSeen_22 rfl (lv_at hl 0 rfl) ?_
    refine lv_lconst (v := 0) hx hb dX6_asSeen_23 (by decide) ?_
    refine W.lcmp hx hb dX6_asSeen_24 ?_
    refine lv_topi (fun v_6 ev_6 => ?_)
    replace hs := hs.trans ((if_neg c_4).trans (spl_e ev_6 rfl))
    have q_7 : (v_6.toInt = -1 ∧ w_1.toInt < 0) ∨ (v_6.toInt = 0 ∧ w_1.toInt = 0) ∨ (v_6.toInt = 1 ∧ 0 < w_1.toInt) := by rw [ev_6]; have k1 : (0 : Int64).toInt = 0 := (by decide); have z := bn_lcmpI (w_1 : Int64) (0 : Int64); omega
    refine lv_if_lt (tgt := 43) hx hb dX6_asSeen_25 (by decide) (fun c => ?_) (fun c => ?_)
    · skip
      have c_8 : v_6.toInt < 0 := (by first | exact (cm_lt1 ti_0 c) | (have z := bn_lt c; have k1 : (0 : Int32).toInt = 0 := ti_0; omega))
      refine lv_lconst (v := 0) hx hb dX6_asSeen_43 (by decide) ?_
      exact hret _ _ _ _ (0) f L Q dX6_asSeen_44 hP hS ⟨⟨rfl, rfl, rfl⟩, trivial, (Eq.trans (Eq.symm (hs.trans ((if_pos c_8).trans rfl))) hsp)⟩
    · skip
      have c_9 : 0 ≤ v_6.toInt := (by first | exact (cm_nlt1 ti_0 c) | (have z := bn_nlt c; have k1 : (0 : Int32).toInt = 0 := ti_0; omega))
      refine lv_lload_n hx hb dX6_asSeen_28 rfl (lv_at hl 0 rfl) ?_
      refine lv_ldc2 (v := 60) hx hb hown (hts _ (List.mem_cons_of_mem _ mw_265)) dX6_asSeen_29 ?_
      refine W.lcmp hx hb dX6_asSeen_32 ?_
      refine lv_topi (fun v_10 ev_10 => ?_)
      replace hs := hs.trans ((if_neg (Int.not_lt.mpr c_9)).trans (spl_e ev_10 rfl))
      have q_11 : (v_10.toInt = -1 ∧ w_1.toInt < 60) ∨ (v_10.toInt = 0 ∧ w_1.toInt = 60) ∨ (v_10.toInt = 1 ∧ 60 < w_1.toInt) := by rw [ev_10]; have k1 : (60 : Int64).toInt = 60 := (by decide); have z := bn_lcmpI (w_1 : Int64) (60 : Int64); omega
      refine lv_if_gt (tgt := 43) hx hb dX6_asSeen_33 (by decide) (fun c => ?_) (fun c => ?_)
      · skip
        have c_12 : 0 < v_10.toInt := (by first | exact (cm_lt0 ti_0 c) | (have z := bn_lt c; have k1 : (0 : Int32).toInt = 0 := ti_0; omega))
        refine lv_lconst (v := 0) hx hb dX6_asSeen_43 (by decide) ?_
        exact hret _ _ _ _ (0) f L Q dX6_asSeen_44 hP hS ⟨⟨rfl, rfl, rfl⟩, trivial, (Eq.trans (Eq.symm (hs.trans ((if_pos c_12).trans rfl))) hsp)⟩
      · skip
        have c_13 : v_10.toInt ≤ 0 := (by first | exact (cm_nlt0 ti_0 c) | (have z := bn_nlt c; have k1 : (0 : Int32).toInt = 0 := ti_0; omega))
        refine lv_lconst (v := 1) hx hb dX6_asSeen_36 (by decide) ?_
        refine lv_lload_n hx hb dX6_asSeen_37 rfl (lv_at hl 0 rfl) ?_
        obtain ⟨v_14, ev_14⟩ : ∃ z : Int32, z = Int64.toInt32 w_1 := ⟨_, rfl⟩
        refine lv_l2i (v := v_14) hx hb dX6_asSeen_38 ev_14.symm ?_
        obtain ⟨w_15, ew_15⟩ : ∃ z : Int64, z = ((1 : Int64) <<< (Int32.toInt64 v_14 &&& 63)) := ⟨_, rfl⟩
        refine lv_lshl (v := w_15) hx hb dX6_asSeen_39 ew_15.symm ?_
        refine lv_goto (tgt := 44) hx hb dX6_asSeen_40 (by decide) ?_
        exact hret _ _ _ _ (w_15) f L Q dX6_asSeen_44 hP hS ⟨⟨rfl, rfl, rfl⟩, trivial, (Eq.trans (Eq.symm (hs.trans ((if_neg (Int.not_lt.mpr c_13)).trans (spl_e ev_14 (spl_e ew_15 rfl))))) hsp)⟩
  · skip
    have c_5 : v_2.toInt = 0 := (by first | exact (cm_eq1 ti_0 c) | (have z := Int32.toInt_inj.mpr c; have k1 : (0 : Int32).toInt = 0 := ti_0; omega))
    refine lv_ldc2 (v := 2305843009213693951) hx hb hown (hts _ (List.mem_cons_of_mem _ mw_238)) dX6_asSeen_18 ?_
    exact hret _ _ _ _ (2305843009213693951) f L Q dX6_asSeen_21 hP hS ⟨⟨rfl, rfl, rfl⟩, trivial, (Eq.trans (Eq.symm (hs.trans ((if_pos c_5).trans rfl))) hsp)⟩

set_option maxHeartbeats 4000000 in
set_option maxRecDepth 100000 in
theorem kX6_reachedAhead (l : Launch) (D : va_G) (ca : Nat → ClassId) (za h : Nat → Nat) (hh : sgH 52 h) (f : sg_F) (L : sg_L) (Q : sg_Q) (hI : sgI loX hiX f) (x0 : Int32) (t : Nat) (ht_t : t < 6) (hq27 : Q 27 1 = some (h (40 + 2 * t))) (b0 : 0 ≤ x0.toInt ∧ x0.toInt ≤ 11) (sz : Nat) : Met l yX6_reachedAhead gwX6_reachedAhead { frames := 4, cells := 0, slots := 0, locals := 95 } (sgP D vwCl (tyX ca) 52 h (eX ca h) zcX za f L Q sz [.ref (h 27), .int x0]) (sgQl D vwCl 52 h (eX ca h) sz (fun r f1 L1 Q1 => ((f1 = f ∧ L1 = L ∧ Q1 = Q) ∧ True ∧ (r) = sX6_reachedAhead x0 t f L))) 0 0 (sgA 52 h sz) := by
  refine sg_ofWl (cc := cX6_reachedAhead) (maxL := 8) RX6 (by decide) rfl rfl (Nat.le_of_ble_eq_true rfl) ?_
  intro p e s m below meth cd Qz ls hx hb hml hown hts hK hZ hP hS hl hret
  have hA := sgY.self (n := 52) (h := h) (sz := s.heap.size)
  have hl : lv_has ls 8 [(0, .ref (h 27)), (1, .int x0)] := hl
  obtain ⟨H, hH⟩ : ∃ z : Heap, z = s.heap := ⟨_, rfl⟩
  obtain ⟨locs, hlo⟩ : ∃ z : List Loc, z = [] := ⟨_, rfl⟩
  have hP : va_P D vwCl (sgw 52 h (eX ca h) f L Q) H := by rw [hH]; exact hP
  have hS : va_S (sgA 52 h s.heap.size) s.heap H locs := by rw [hH, hlo]; exact hS
  suffices hgo : W p l e ({ frames := 4, cells := 0, slots := 0, locals := 95 }) s m ([.ref (h 27), .int x0] : List Value).toArray below meth cd H locs 0 0 Qz (F0 m 0 ls []) by rw [hH, hlo] at hgo; exact hgo
  clear hH hlo
  obtain ⟨sp, hsp⟩ : ∃ z : Int64, z = sX6_reachedAhead x0 t f L := ⟨_, rfl⟩
  have hs : sp = sX6_reachedAhead x0 t f L := hsp
  have loop_18 : ∀ (n_18 : Nat) (y2_18 : Int64) (y4_18 : Int32) (H : Heap) (locs : List Loc) (ls : Array Slot), sp = sX6_reachedAhead_l18 x0 t n_18 y2_18 y4_18 f L → 11 - y4_18.toInt < (n_18 : Int) → 0 ≤ y4_18.toInt ∧ y4_18.toInt ≤ 11 → va_P D vwCl (sgw 52 h (eX ca h) f L Q) H → va_S (sgA 52 h s.heap.size) s.heap H locs → lv_has ls 8 [(0, .ref (h 27)), (1, .int x0), (2, .long y2_18), (4, .int y4_18)] → W p l e ({ frames := 4, cells := 0, slots := 0, locals := 95 }) s m ([.ref (h 27), .int x0] : List Value).toArray below meth cd H locs 0 0 Qz (F0 m 18 ls []) := by
    intro n_18
    induction n_18 with
    | zero => intro y2_18 y4_18 H locs ls hs hm_18 hy0_18 hP hS hl; exact absurd hm_18 (by omega)
    | succ n_18 ih_18 =>
      have loop_30 : ∀ (n_30 : Nat) (y2_30 : Int64) (y4_30 : Int32) (y5_30 : Int64) (y7_30 : Int32) (H : Heap) (locs : List Loc) (ls : Array Slot), sp = sX6_reachedAhead_l30 (sX6_reachedAhead_l18 x0 t n_18) x0 t n_30 y2_30 y4_30 y5_30 y7_30 f L → 8 - y7_30.toInt < (n_30 : Int) → 11 - y4_30.toInt < ((n_18 + 1 : Nat) : Int) → 1 ≤ x0.toInt ∧ x0.toInt ≤ 11 → 0 ≤ y4_30.toInt ∧ y4_30.toInt ≤ 10 → (-1) ≤ y7_30.toInt ∧ y7_30.toInt ≤ 8 → va_P D vwCl (sgw 52 h (eX ca h) f L Q) H → va_S (sgA 52 h s.heap.size) s.heap H locs → lv_has ls 8 [(0, .ref (h 27)), (1, .int x0), (2, .long y2_30), (4, .int y4_30), (5, .long y5_30), (7, .int y7_30)] → W p l e ({ frames := 4, cells := 0, slots := 0, locals := 95 }) s m ([.ref (h 27), .int x0] : List Value).toArray below meth cd H locs 0 0 Qz (F0 m 30 ls []) := by
        intro n_30
        induction n_30 with
        | zero => intro y2_30 y4_30 y5_30 y7_30 H locs ls hs hm_30 hm_18 hy0_30 hy1_30 hy2_30 hP hS hl; exact absurd hm_30 (by omega)
        | succ n_30 ih_30 =>
          intro y2_30 y4_30 y5_30 y7_30 H locs ls hs hm_30 hm_18 hy0_30 hy1_30 hy2_30 hP hS hl
          have hs : sp = sX6_reachedAhead_h30 (sX6_reachedAhead_l18 x0 t n_18) x0 t (sX6_reachedAhead_l30 (sX6_reachedAhead_l18 x0 t n_18) x0 t n_30) y2_30 y4_30 y5_30 y7_30 f L := hs
          refine lv_iload hx hb dX6_reachedAhead_30 (lv_at hl 5 rfl) ?_
          refine lv_aload_n hx hb dX6_reachedAhead_32 rfl (lv_at hl 0 rfl) ?_
          refine sl_gX_27_0_6 hx hb hts hown hK hP dX6_reachedAhead_33 ?_
          refine sl_gX_1_3_6 (v := (f 1 3)) hx hb hts hown hK hP rfl dX6_reachedAhead_36 ?_
          refine lv_topi (fun v_1 ev_1 => ?_)
          replace hs := hs.trans (spl_e ev_1 rfl)
          have q_2 : 0 ≤ v_1.toInt ∧ v_1.toInt ≤ 8 := by rw [ev_1]; exact hI 1 3
          refine lv_icmp_ge (tgt := 60) hx hb dX6_reachedAhead_39 (by decide) (fun c => ?_) (fun c => ?_)
          · skip
            have c_3 : v_1.toInt ≤ y7_30.toInt := (by first | exact (bn_le c) | (have z := bn_le c; omega))
            refine lv_lload hx hb dX6_reachedAhead_60 (lv_at hl 4 rfl) ?_
            refine lv_aload_n hx hb dX6_reachedAhead_62 rfl (lv_at hl 0 rfl) ?_
            refine lv_iload hx hb dX6_reachedAhead_63 (lv_at hl 3 rfl) ?_
            refine sg_calll (va_runV (As := [.int y4_30]) (rest := [.long y5_30]) ⟨hx, hb, hml, hown, hts⟩ (kX6_asSeen l D ca za h hh f L Q hI y4_30 t ht_t hq27 ⟨by omega, by omega⟩ H.size) (sl_c6_asSeen_0_0_0_0_6 hts ⟨Nat.le_of_ble_eq_true rfl, Nat.le_of_ble_eq_true rfl⟩) (sl_vX_27 hA hK hP hS hZ) rfl rfl hl.1 rfl (lv_room (Nat.le_of_ble_eq_true rfl)) dX6_reachedAhead_65 ⟨Nat.le_refl _, Nat.le_refl _⟩) hA hS (fun r_8 f_5 L_6 Q_7 H locs hq hP hS => ?_)
            obtain ⟨⟨ef9, eL9, eQ9⟩, hq, u_9⟩ := hq
            rw [ef9, eL9, eQ9] at hP; clear ef9 eL9 eQ9
            clear hq
            refine lv_land hx hb dX6_reachedAhead_68 ?_
            refine lv_topl (fun w_10 ew_10 => ?_)
            refine lv_lstore_n (lv' := [(2, .long w_10), (0, .ref (h 27)), (1, .int x0), (4, .int y4_30), (5, .long y5_30), (7, .int y7_30)]) hx hb dX6_reachedAhead_69 rfl hl (by decide) rfl (fun ls hl => ?_)
            obtain ⟨v_11, ev_11⟩ : ∃ z : Int32, z = y4_30 + 1 := ⟨_, rfl⟩
            have q_12 : v_11.toInt = y4_30.toInt + 1 := by rw [ev_11]; exact (bn_addc y4_30 1 (by decide) (by omega) (by omega))
            refine lv_iinc (v := v_11) (lv' := [(4, .int v_11), (2, .long w_10), (0, .ref (h 27)), (1, .int x0), (5, .long y5_30), (7, .int y7_30)]) hx hb dX6_reachedAhead_70 hl (k := 3) rfl (by rw [ev_11]; rfl) (by decide) rfl (fun ls hl => ?_)
            refine lv_goto (tgt := 18) hx hb dX6_reachedAhead_73 (by decide) ?_
            exact ih_18 w_10 v_11 _ _ _ (hs.trans ((if_neg (Int.not_lt.mpr c_3)).trans (spl_e u_9 (spl_e ew_10 (spl_e ev_11 rfl))))) (by omega) ⟨by omega, by omega⟩ hP hS (lv_sub hl [2, 3, 1, 0] rfl)
          · skip
            have c_4 : y7_30.toInt < v_1.toInt := (by first | exact (bn_nle c) | (have z := bn_nle c; omega))
            refine lv_lload hx hb dX6_reachedAhead_42 (lv_at hl 4 rfl) ?_
            refine lv_aload_n hx hb dX6_reachedAhead_44 rfl (lv_at hl 0 rfl) ?_
            refine lv_lload_n hx hb dX6_reachedAhead_45 rfl (lv_at hl 2 rfl) ?_
            refine lv_iload hx hb dX6_reachedAhead_46 (lv_at hl 5 rfl) ?_
            refine sg_calll (va_runV (As := [.long y2_30, .int y7_30]) (rest := [.long y5_30]) ⟨hx, hb, hml, hown, hts⟩ (kX6_allBehind l D ca za h hh f L Q hI y2_30 y7_30 ⟨by omega, by omega⟩ H.size) (sl_c6_allBehind_3_0_0_69_6 hts ⟨Nat.le_of_ble_eq_true rfl, Nat.le_of_ble_eq_true rfl⟩) (sl_vX_27 hA hK hP hS hZ) rfl rfl hl.1 rfl (lv_room (Nat.le_of_ble_eq_true rfl)) dX6_reachedAhead_48 ⟨Nat.le_refl _, Nat.le_refl _⟩) hA hS (fun r_16 f_13 L_14 Q_15 H locs hq hP hS => ?_)
            obtain ⟨⟨ef9, eL9, eQ9⟩, hq, u_17⟩ := hq
            rw [ef9, eL9, eQ9] at hP; clear ef9 eL9 eQ9
            clear hq
            refine lv_lor hx hb dX6_reachedAhead_51 ?_
            refine lv_topl (fun w_18 ew_18 => ?_)
            refine lv_lstore (lv' := [(5, .long w_18), (0, .ref (h 27)), (1, .int x0), (2, .long y2_30), (4, .int y4_30), (7, .int y7_30)]) hx hb dX6_reachedAhead_52 hl (by decide) rfl (fun ls hl => ?_)
            obtain ⟨v_19, ev_19⟩ : ∃ z : Int32, z = y7_30 + 1 := ⟨_, rfl⟩
            have q_20 : v_19.toInt = y7_30.toInt + 1 := by rw [ev_19]; exact (bn_addc y7_30 1 (by decide) (by omega) (by omega))
            refine lv_iinc (v := v_19) (lv' := [(7, .int v_19), (5, .long w_18), (0, .ref (h 27)), (1, .int x0), (2, .long y2_30), (4, .int y4_30)]) hx hb dX6_reachedAhead_54 hl (k := 5) rfl (by rw [ev_19]; rfl) (by decide) rfl (fun ls hl => ?_)
            refine lv_goto (tgt := 30) hx hb dX6_reachedAhead_57 (by decide) ?_
            exact ih_30 y2_30 y4_30 w_18 v_19 _ _ _ (hs.trans ((if_pos c_4).trans (spl_e u_17 (spl_e ew_18 (spl_e ev_19 rfl))))) (by omega) hm_18 hy0_30 hy1_30 ⟨by omega, by omega⟩ hP hS (lv_sub hl [2, 3, 4, 5, 1, 0] rfl)
      intro y2_18 y4_18 H locs ls hs hm_18 hy0_18 hP hS hl
      have hs : sp = sX6_reachedAhead_h18 x0 t (sX6_reachedAhead_l18 x0 t n_18) y2_18 y4_18 f L := hs
      refine lv_iload hx hb dX6_reachedAhead_18 (lv_at hl 3 rfl) ?_
      refine lv_iload_n hx hb dX6_reachedAhead_20 rfl (lv_at hl 1 rfl) ?_
      refine lv_icmp_ge (tgt := 76) hx hb dX6_reachedAhead_21 (by decide) (fun c => ?_) (fun c => ?_)
      · skip
        have c_21 : x0.toInt ≤ y4_18.toInt := (by first | exact (bn_le c) | (have z := bn_le c; omega))
        refine lv_lload_n hx hb dX6_reachedAhead_76 rfl (lv_at hl 2 rfl) ?_
        exact hret _ _ _ _ (y2_18) f L Q dX6_reachedAhead_77 hP hS ⟨⟨rfl, rfl, rfl⟩, trivial, (Eq.trans (Eq.symm (hs.trans (((if_neg (Int.not_lt.mpr c_21)).trans rfl)))) hsp)⟩
      · skip
        have c_22 : y4_18.toInt < x0.toInt := (by first | exact (bn_nle c) | (have z := bn_nle c; omega))
        refine lv_lconst (v := 0) hx hb dX6_reachedAhead_24 (by decide) ?_
        refine lv_lstore (lv' := [(5, .long 0), (0, .ref (h 27)), (1, .int x0), (2, .long y2_18), (4, .int y4_18)]) hx hb dX6_reachedAhead_25 hl (by decide) rfl (fun ls hl => ?_)
        refine lv_iconst (v := (-1)) hx hb dX6_reachedAhead_27 ic_m1 ?_
        refine lv_istore (lv' := [(7, .int (-1)), (5, .long 0), (0, .ref (h 27)), (1, .int x0), (2, .long y2_18), (4, .int y4_18)]) hx hb dX6_reachedAhead_28 hl (by decide) rfl (fun ls hl => ?_)
        exact loop_30 10 y2_18 y4_18 0 (-1) _ _ _ (hs.trans (((if_pos c_22).trans rfl))) (by have kc3 : ((-1) : Int32).toInt = (-1) := ti_m1; omega) (by have kc3 : ((-1) : Int32).toInt = (-1) := ti_m1; omega) ⟨by omega, by omega⟩ ⟨by omega, by omega⟩ (by decide) hP hS (lv_sub hl [2, 3, 4, 5, 1, 0] rfl)
  refine lv_lconst (v := 1) hx hb dX6_reachedAhead_0 (by decide) ?_
  refine lv_aload_n hx hb dX6_reachedAhead_1 rfl (lv_at hl 0 rfl) ?_
  refine sl_gX_27_0_6 hx hb hts hown hK hP dX6_reachedAhead_2 ?_
  refine sl_gX_1_1_6 hx hb hts hown hK hP dX6_reachedAhead_5 ?_
  refine lv_aload_n hx hb dX6_reachedAhead_8 rfl (lv_at hl 0 rfl) ?_
  refine sl_gX_27_2_6 (v := (f 27 2)) hx hb hts hown hK hP rfl dX6_reachedAhead_9 ?_
  refine lv_topi (fun v_23 ev_23 => ?_)
  have q_24 : 0 ≤ v_23.toInt ∧ v_23.toInt ≤ 2 := by rw [ev_23]; exact hI 27 2
  refine sg_iald hx hb hK hP 3 (by decide) 0 rfl rfl (i := v_23) (vp_in_iff.mpr ⟨by omega, by omega⟩) dX6_reachedAhead_12 ?_
  refine lv_topi (fun v_25 ev_25 => ?_)
  have q_26 : 0 ≤ v_25.toInt ∧ v_25.toInt ≤ 60 := by rw [ev_25]; exact hI 3 _
  obtain ⟨w_27, ew_27⟩ : ∃ z : Int64, z = ((1 : Int64) <<< (Int32.toInt64 v_25 &&& 63)) := ⟨_, rfl⟩
  refine lv_lshl (v := w_27) hx hb dX6_reachedAhead_13 ew_27.symm ?_
  refine lv_lstore_n (lv' := [(2, .long w_27), (0, .ref (h 27)), (1, .int x0)]) hx hb dX6_reachedAhead_14 rfl hl (by decide) rfl (fun ls hl => ?_)
  refine lv_iconst (v := 0) hx hb dX6_reachedAhead_15 ic_0 ?_
  refine lv_istore (lv' := [(4, .int 0), (2, .long w_27), (0, .ref (h 27)), (1, .int x0)]) hx hb dX6_reachedAhead_16 hl (by decide) rfl (fun ls hl => ?_)
  exact loop_18 12 w_27 0 _ _ _ (hs.trans ((spl_e ev_23 (spl_e ev_25 (spl_e ew_27 rfl))))) (by have kc1 : (0 : Int32).toInt = 0 := ti_0; omega) (by decide) hP hS (lv_sub hl [2, 3, 1, 0] rfl)

set_option maxHeartbeats 4000000 in
set_option maxRecDepth 100000 in
theorem kX6_allAhead (l : Launch) (D : va_G) (ca : Nat → ClassId) (za h : Nat → Nat) (hh : sgH 52 h) (f : sg_F) (L : sg_L) (Q : sg_Q) (hI : sgI loX hiX f) (x0 : Int64) (sz : Nat) : Met l yX6_allAhead gwX6_allAhead { frames := 3, cells := 0, slots := 0, locals := 69 } (sgP D vwCl (tyX ca) 52 h (eX ca h) zcX za f L Q sz [.ref (h 27), .long x0]) (sgQl D vwCl 52 h (eX ca h) sz (fun r f1 L1 Q1 => ((f1 = f ∧ L1 = L ∧ Q1 = Q) ∧ True ∧ (r) = sX6_allAhead x0 f L))) 0 0 (sgA 52 h sz) := by
  refine sg_ofWl (cc := cX6_allAhead) (maxL := 7) RX6 (by decide) rfl rfl (Nat.le_of_ble_eq_true rfl) ?_
  intro p e s m below meth cd Qz ls hx hb hml hown hts hK hZ hP hS hl hret
  have hA := sgY.self (n := 52) (h := h) (sz := s.heap.size)
  have hl : lv_has ls 7 [(0, .ref (h 27)), (1, .long x0)] := hl
  obtain ⟨H, hH⟩ : ∃ z : Heap, z = s.heap := ⟨_, rfl⟩
  obtain ⟨locs, hlo⟩ : ∃ z : List Loc, z = [] := ⟨_, rfl⟩
  have hP : va_P D vwCl (sgw 52 h (eX ca h) f L Q) H := by rw [hH]; exact hP
  have hS : va_S (sgA 52 h s.heap.size) s.heap H locs := by rw [hH, hlo]; exact hS
  suffices hgo : W p l e ({ frames := 3, cells := 0, slots := 0, locals := 69 }) s m ([.ref (h 27), .long x0] : List Value).toArray below meth cd H locs 0 0 Qz (F0 m 0 ls []) by rw [hH, hlo] at hgo; exact hgo
  clear hH hlo
  obtain ⟨sp, hsp⟩ : ∃ z : Int64, z = sX6_allAhead x0 f L := ⟨_, rfl⟩
  have hs : sp = sX6_allAhead x0 f L := hsp
  have loop_5 : ∀ (n_5 : Nat) (y3_5 : Int64) (y5_5 : Int32) (H : Heap) (locs : List Loc) (ls : Array Slot), sp = sX6_allAhead_l5 x0 n_5 y3_5 y5_5 f L → 61 - y5_5.toInt < (n_5 : Int) → 0 ≤ y5_5.toInt ∧ y5_5.toInt ≤ 61 → va_P D vwCl (sgw 52 h (eX ca h) f L Q) H → va_S (sgA 52 h s.heap.size) s.heap H locs → lv_has ls 7 [(0, .ref (h 27)), (1, .long x0), (3, .long y3_5), (5, .int y5_5)] → W p l e ({ frames := 3, cells := 0, slots := 0, locals := 69 }) s m ([.ref (h 27), .long x0] : List Value).toArray below meth cd H locs 0 0 Qz (F0 m 5 ls []) := by
    intro n_5
    induction n_5 with
    | zero => intro y3_5 y5_5 H locs ls hs hm_5 hy0_5 hP hS hl; exact absurd hm_5 (by omega)
    | succ n_5 ih_5 =>
      have loop_15 : ∀ (n_15 : Nat) (y3_15 : Int64) (y5_15 : Int32) (y6_15 : Int32) (H : Heap) (locs : List Loc) (ls : Array Slot), sp = sX6_allAhead_l15 (sX6_allAhead_l5 x0 n_5) x0 n_15 y3_15 y5_15 y6_15 f L → 8 - y6_15.toInt < (n_15 : Int) → 61 - y5_15.toInt < ((n_5 + 1 : Nat) : Int) → 0 ≤ y5_15.toInt ∧ y5_15.toInt ≤ 60 → (-1) ≤ y6_15.toInt ∧ y6_15.toInt ≤ 8 → va_P D vwCl (sgw 52 h (eX ca h) f L Q) H → va_S (sgA 52 h s.heap.size) s.heap H locs → lv_has ls 7 [(0, .ref (h 27)), (1, .long x0), (3, .long y3_15), (5, .int y5_15), (6, .int y6_15)] → W p l e ({ frames := 3, cells := 0, slots := 0, locals := 69 }) s m ([.ref (h 27), .long x0] : List Value).toArray below meth cd H locs 0 0 Qz (F0 m 15 ls []) := by
        intro n_15
        induction n_15 with
        | zero => intro y3_15 y5_15 y6_15 H locs ls hs hm_15 hm_5 hy0_15 hy1_15 hP hS hl; exact absurd hm_15 (by omega)
        | succ n_15 ih_15 =>
          intro y3_15 y5_15 y6_15 H locs ls hs hm_15 hm_5 hy0_15 hy1_15 hP hS hl
          have hs : sp = sX6_allAhead_h15 (sX6_allAhead_l5 x0 n_5) x0 (sX6_allAhead_l15 (sX6_allAhead_l5 x0 n_5) x0 n_15) y3_15 y5_15 y6_15 f L := hs
          refine lv_iload hx hb dX6_allAhead_15 (lv_at hl 4 rfl) ?_
          refine lv_aload_n hx hb dX6_allAhead_17 rfl (lv_at hl 0 rfl) ?_
          refine sl_gX_27_0_6 hx hb hts hown hK hP dX6_allAhead_18 ?_
          refine sl_gX_1_3_6 (v := (f 1 3)) hx hb hts hown hK hP rfl dX6_allAhead_21 ?_
          refine lv_topi (fun v_1 ev_1 => ?_)
          replace hs := hs.trans (spl_e ev_1 rfl)
          have q_2 : 0 ≤ v_1.toInt ∧ v_1.toInt ≤ 8 := by rw [ev_1]; exact hI 1 3
          refine lv_icmp_ge (tgt := 51) hx hb dX6_allAhead_24 (by decide) (fun c => ?_) (fun c => ?_)
          · skip
            have c_3 : v_1.toInt ≤ y6_15.toInt := (by first | exact (bn_le c) | (have z := bn_le c; omega))
            obtain ⟨v_5, ev_5⟩ : ∃ z : Int32, z = y5_15 + 1 := ⟨_, rfl⟩
            have q_6 : v_5.toInt = y5_15.toInt + 1 := by rw [ev_5]; exact (bn_addc y5_15 1 (by decide) (by omega) (by omega))
            refine lv_iinc (v := v_5) (lv' := [(5, .int v_5), (0, .ref (h 27)), (1, .long x0), (3, .long y3_15), (6, .int y6_15)]) hx hb dX6_allAhead_51 hl (k := 3) rfl (by rw [ev_5]; rfl) (by decide) rfl (fun ls hl => ?_)
            refine lv_goto (tgt := 5) hx hb dX6_allAhead_54 (by decide) ?_
            exact ih_5 y3_15 v_5 _ _ _ (hs.trans ((if_neg (Int.not_lt.mpr c_3)).trans (spl_e ev_5 rfl))) (by omega) ⟨by omega, by omega⟩ hP hS (lv_sub hl [1, 2, 3, 0] rfl)
          · skip
            have c_4 : y6_15.toInt < v_1.toInt := (by first | exact (bn_nle c) | (have z := bn_nle c; omega))
            refine lv_lload_n hx hb dX6_allAhead_27 rfl (lv_at hl 2 rfl) ?_
            refine lv_lload_n hx hb dX6_allAhead_28 rfl (lv_at hl 1 rfl) ?_
            refine lv_aload_n hx hb dX6_allAhead_29 rfl (lv_at hl 0 rfl) ?_
            refine lv_iload hx hb dX6_allAhead_30 (lv_at hl 4 rfl) ?_
            refine lv_iload hx hb dX6_allAhead_32 (lv_at hl 3 rfl) ?_
            refine sg_calli (va_runV (As := [.int y6_15, .int y5_15]) (rest := [.long x0, .long y3_15]) ⟨hx, hb, hml, hown, hts⟩ (kX6_behindShift l D ca za h hh f L Q hI y6_15 y5_15 ⟨by omega, by omega⟩ hy0_15 H.size) (sl_c6_behindShift_2_0_0_47_6 hts ⟨Nat.le_of_ble_eq_true rfl, Nat.le_of_ble_eq_true rfl⟩) (sl_vX_27 hA hK hP hS hZ) rfl rfl hl.1 rfl (lv_room (Nat.le_of_ble_eq_true rfl)) dX6_allAhead_34 ⟨Nat.le_refl _, Nat.le_refl _⟩) hA hS (fun r_10 f_7 L_8 Q_9 H locs hq hP hS => ?_)
            obtain ⟨⟨ef9, eL9, eQ9⟩, hq, u_11⟩ := hq
            rw [ef9, eL9, eQ9] at hP; clear ef9 eL9 eQ9
            obtain ⟨w_12, ew_12⟩ : ∃ z : Int64, z = (Int64.toUInt64 (x0 : Int64) >>> (Int64.toUInt64 (Int32.toInt64 r_10) &&& Int64.toUInt64 63)).toInt64 := ⟨_, rfl⟩
            refine lv_lushr (v := w_12) hx hb dX6_allAhead_37 ew_12.symm ?_
            refine lv_lconst (v := 1) hx hb dX6_allAhead_38 (by decide) ?_
            refine lv_land hx hb dX6_allAhead_39 ?_
            refine lv_topl (fun w_13 ew_13 => ?_)
            refine lv_iload hx hb dX6_allAhead_40 (lv_at hl 3 rfl) ?_
            obtain ⟨w_14, ew_14⟩ : ∃ z : Int64, z = ((w_13 : Int64) <<< (Int32.toInt64 y5_15 &&& 63)) := ⟨_, rfl⟩
            refine lv_lshl (v := w_14) hx hb dX6_allAhead_42 ew_14.symm ?_
            refine lv_lor hx hb dX6_allAhead_43 ?_
            refine lv_topl (fun w_15 ew_15 => ?_)
            refine lv_lstore_n (lv' := [(3, .long w_15), (0, .ref (h 27)), (1, .long x0), (5, .int y5_15), (6, .int y6_15)]) hx hb dX6_allAhead_44 rfl hl (by decide) rfl (fun ls hl => ?_)
            obtain ⟨v_16, ev_16⟩ : ∃ z : Int32, z = y6_15 + 1 := ⟨_, rfl⟩
            have q_17 : v_16.toInt = y6_15.toInt + 1 := by rw [ev_16]; exact (bn_addc y6_15 1 (by decide) (by omega) (by omega))
            refine lv_iinc (v := v_16) (lv' := [(6, .int v_16), (3, .long w_15), (0, .ref (h 27)), (1, .long x0), (5, .int y5_15)]) hx hb dX6_allAhead_45 hl (k := 4) rfl (by rw [ev_16]; rfl) (by decide) rfl (fun ls hl => ?_)
            refine lv_goto (tgt := 15) hx hb dX6_allAhead_48 (by decide) ?_
            exact ih_15 w_15 y5_15 v_16 _ _ _ (hs.trans ((if_pos c_4).trans (spl_e u_11 (spl_e ew_12 (spl_e ew_13 (spl_e ew_14 (spl_e ew_15 (spl_e ev_16 rfl)))))))) (by omega) hm_5 hy0_15 ⟨by omega, by omega⟩ hP hS (lv_sub hl [2, 3, 1, 4, 0] rfl)
      intro y3_5 y5_5 H locs ls hs hm_5 hy0_5 hP hS hl
      have hs : sp = sX6_allAhead_h5 x0 (sX6_allAhead_l5 x0 n_5) y3_5 y5_5 f L := hs
      refine lv_iload hx hb dX6_allAhead_5 (lv_at hl 3 rfl) ?_
      refine lv_bipush (v := 60) hx hb dX6_allAhead_7 bp_60 ?_
      refine lv_icmp_gt (tgt := 57) hx hb dX6_allAhead_9 (by decide) (fun c => ?_) (fun c => ?_)
      · skip
        have c_18 : 60 < y5_5.toInt := (by first | exact (cm_lt0 ti_60 c) | (have z := bn_lt c; have k1 : (60 : Int32).toInt = 60 := ti_60; omega))
        refine lv_lload_n hx hb dX6_allAhead_57 rfl (lv_at hl 2 rfl) ?_
        exact hret _ _ _ _ (y3_5) f L Q dX6_allAhead_58 hP hS ⟨⟨rfl, rfl, rfl⟩, trivial, (Eq.trans (Eq.symm (hs.trans (((if_pos c_18).trans rfl)))) hsp)⟩
      · skip
        have c_19 : y5_5.toInt ≤ 60 := (by first | exact (cm_nlt0 ti_60 c) | (have z := bn_nlt c; have k1 : (60 : Int32).toInt = 60 := ti_60; omega))
        refine lv_iconst (v := (-1)) hx hb dX6_allAhead_12 ic_m1 ?_
        refine lv_istore (lv' := [(6, .int (-1)), (0, .ref (h 27)), (1, .long x0), (3, .long y3_5), (5, .int y5_5)]) hx hb dX6_allAhead_13 hl (by decide) rfl (fun ls hl => ?_)
        exact loop_15 10 y3_5 y5_5 (-1) _ _ _ (hs.trans (((if_neg (Int.not_lt.mpr c_19)).trans rfl))) (by have kc2 : ((-1) : Int32).toInt = (-1) := ti_m1; omega) (by have kc2 : ((-1) : Int32).toInt = (-1) := ti_m1; omega) ⟨by omega, by omega⟩ (by decide) hP hS (lv_sub hl [1, 2, 3, 4, 0] rfl)
  refine lv_lconst (v := 0) hx hb dX6_allAhead_0 (by decide) ?_
  refine lv_lstore_n (lv' := [(3, .long 0), (0, .ref (h 27)), (1, .long x0)]) hx hb dX6_allAhead_1 rfl hl (by decide) rfl (fun ls hl => ?_)
  refine lv_iconst (v := 0) hx hb dX6_allAhead_2 ic_0 ?_
  refine lv_istore (lv' := [(5, .int 0), (3, .long 0), (0, .ref (h 27)), (1, .long x0)]) hx hb dX6_allAhead_3 hl (by decide) rfl (fun ls hl => ?_)
  exact loop_5 62 0 0 _ _ _ hs (by have kc1 : (0 : Int32).toInt = 0 := ti_0; omega) (by decide) hP hS (lv_sub hl [2, 3, 1, 0] rfl)

set_option maxHeartbeats 4000000 in
set_option maxRecDepth 100000 in
theorem kX6_fittingBehind (l : Launch) (D : va_G) (ca : Nat → ClassId) (za h : Nat → Nat) (hh : sgH 52 h) (f : sg_F) (L : sg_L) (Q : sg_Q) (hI : sgI loX hiX f) (x0 : Int32) (t : Nat) (ht_t : t < 6) (hq27 : Q 27 1 = some (h (40 + 2 * t))) (b0 : 0 ≤ x0.toInt ∧ x0.toInt ≤ 11) (sz : Nat) : Met l yX6_fittingBehind gwX6_fittingBehind { frames := 4, cells := 0, slots := 0, locals := 95 } (sgP D vwCl (tyX ca) 52 h (eX ca h) zcX za f L Q sz [.ref (h 27), .int x0]) (sgQl D vwCl 52 h (eX ca h) sz (fun r f1 L1 Q1 => ((f1 = f ∧ L1 = L ∧ Q1 = Q) ∧ True ∧ (r) = sX6_fittingBehind x0 t f L))) 0 0 (sgA 52 h sz) := by
  refine sg_ofWl (cc := cX6_fittingBehind) (maxL := 5) RX6 (by decide) rfl rfl (Nat.le_of_ble_eq_true rfl) ?_
  intro p e s m below meth cd Qz ls hx hb hml hown hts hK hZ hP hS hl hret
  have hA := sgY.self (n := 52) (h := h) (sz := s.heap.size)
  have hl : lv_has ls 5 [(0, .ref (h 27)), (1, .int x0)] := hl
  obtain ⟨H, hH⟩ : ∃ z : Heap, z = s.heap := ⟨_, rfl⟩
  obtain ⟨locs, hlo⟩ : ∃ z : List Loc, z = [] := ⟨_, rfl⟩
  have hP : va_P D vwCl (sgw 52 h (eX ca h) f L Q) H := by rw [hH]; exact hP
  have hS : va_S (sgA 52 h s.heap.size) s.heap H locs := by rw [hH, hlo]; exact hS
  suffices hgo : W p l e ({ frames := 4, cells := 0, slots := 0, locals := 95 }) s m ([.ref (h 27), .int x0] : List Value).toArray below meth cd H locs 0 0 Qz (F0 m 0 ls []) by rw [hH, hlo] at hgo; exact hgo
  clear hH hlo
  obtain ⟨sp, hsp⟩ : ∃ z : Int64, z = sX6_fittingBehind x0 t f L := ⟨_, rfl⟩
  have hs : sp = sX6_fittingBehind x0 t f L := hsp
  have loop_20 : ∀ (n_20 : Nat) (y2_20 : Int64) (y4_20 : Int32) (H : Heap) (locs : List Loc) (ls : Array Slot), sp = sX6_fittingBehind_l20 x0 t n_20 y2_20 y4_20 f L → y4_20.toInt - (-1) < (n_20 : Int) → (-1) ≤ y4_20.toInt ∧ y4_20.toInt ≤ 11 → va_P D vwCl (sgw 52 h (eX ca h) f L Q) H → va_S (sgA 52 h s.heap.size) s.heap H locs → lv_has ls 5 [(0, .ref (h 27)), (1, .int x0), (2, .long y2_20), (4, .int y4_20)] → W p l e ({ frames := 4, cells := 0, slots := 0, locals := 95 }) s m ([.ref (h 27), .int x0] : List Value).toArray below meth cd H locs 0 0 Qz (F0 m 20 ls []) := by
    intro n_20
    induction n_20 with
    | zero => intro y2_20 y4_20 H locs ls hs hm_20 hy0_20 hP hS hl; exact absurd hm_20 (by omega)
    | succ n_20 ih_20 =>
      intro y2_20 y4_20 H locs ls hs hm_20 hy0_20 hP hS hl
      have hs : sp = sX6_fittingBehind_h20 x0 t (sX6_fittingBehind_l20 x0 t n_20) y2_20 y4_20 f L := hs
      refine lv_iload hx hb dX6_fittingBehind_20 (lv_at hl 3 rfl) ?_
      refine lv_iload_n hx hb dX6_fittingBehind_22 rfl (lv_at hl 1 rfl) ?_
      refine lv_icmp_le (tgt := 45) hx hb dX6_fittingBehind_23 (by decide) (fun c => ?_) (fun c => ?_)
      · skip
        have c_1 : y4_20.toInt ≤ x0.toInt := (by first | exact (bn_le c) | (have z := bn_le c; omega))
        refine lv_lload_n hx hb dX6_fittingBehind_45 rfl (lv_at hl 2 rfl) ?_
        refine lv_aload_n hx hb dX6_fittingBehind_46 rfl (lv_at hl 0 rfl) ?_
        refine lv_iload_n hx hb dX6_fittingBehind_47 rfl (lv_at hl 1 rfl) ?_
        refine sg_calll (va_runV (As := [.int x0]) (rest := [.long y2_20]) ⟨hx, hb, hml, hown, hts⟩ (kX6_asSeen l D ca za h hh f L Q hI x0 t ht_t hq27 b0 H.size) (sl_c6_asSeen_0_0_0_0_6 hts ⟨Nat.le_of_ble_eq_true rfl, Nat.le_of_ble_eq_true rfl⟩) (sl_vX_27 hA hK hP hS hZ) rfl rfl hl.1 rfl (lv_room (Nat.le_of_ble_eq_true rfl)) dX6_fittingBehind_48 ⟨Nat.le_refl _, Nat.le_refl _⟩) hA hS (fun r_6 f_3 L_4 Q_5 H locs hq hP hS => ?_)
        obtain ⟨⟨ef9, eL9, eQ9⟩, hq, u_7⟩ := hq
        rw [ef9, eL9, eQ9] at hP; clear ef9 eL9 eQ9
        clear hq
        refine lv_land hx hb dX6_fittingBehind_51 ?_
        refine lv_topl (fun w_8 ew_8 => ?_)
        exact hret _ _ _ _ (w_8) f L Q dX6_fittingBehind_52 hP hS ⟨⟨rfl, rfl, rfl⟩, trivial, (Eq.trans (Eq.symm (hs.trans (((if_neg (Int.not_lt.mpr c_1)).trans (spl_e u_7 (spl_e ew_8 rfl)))))) hsp)⟩
      · skip
        have c_2 : x0.toInt < y4_20.toInt := (by first | exact (bn_nle c) | (have z := bn_nle c; omega))
        refine lv_aload_n hx hb dX6_fittingBehind_26 rfl (lv_at hl 0 rfl) ?_
        refine lv_lload_n hx hb dX6_fittingBehind_27 rfl (lv_at hl 2 rfl) ?_
        refine lv_aload_n hx hb dX6_fittingBehind_28 rfl (lv_at hl 0 rfl) ?_
        refine lv_iload hx hb dX6_fittingBehind_29 (lv_at hl 3 rfl) ?_
        refine sg_calll (va_runV (As := [.int y4_20]) (rest := [.long y2_20, .ref (h 27)]) ⟨hx, hb, hml, hown, hts⟩ (kX6_asSeen l D ca za h hh f L Q hI y4_20 t ht_t hq27 ⟨by omega, by omega⟩ H.size) (sl_c6_asSeen_0_0_0_0_6 hts ⟨Nat.le_of_ble_eq_true rfl, Nat.le_of_ble_eq_true rfl⟩) (sl_vX_27 hA hK hP hS hZ) rfl rfl hl.1 rfl (lv_room (Nat.le_of_ble_eq_true rfl)) dX6_fittingBehind_31 ⟨Nat.le_refl _, Nat.le_refl _⟩) hA hS (fun r_12 f_9 L_10 Q_11 H locs hq hP hS => ?_)
        obtain ⟨⟨ef9, eL9, eQ9⟩, hq, u_13⟩ := hq
        rw [ef9, eL9, eQ9] at hP; clear ef9 eL9 eQ9
        clear hq
        refine lv_land hx hb dX6_fittingBehind_34 ?_
        refine lv_topl (fun w_14 ew_14 => ?_)
        refine sg_calll (va_runV (As := [.long w_14]) (rest := []) ⟨hx, hb, hml, hown, hts⟩ (kX6_allAhead l D ca za h hh f L Q hI w_14 H.size) (sl_c6_allAhead_3_0_0_69_6 hts ⟨Nat.le_of_ble_eq_true rfl, Nat.le_of_ble_eq_true rfl⟩) (sl_vX_27 hA hK hP hS hZ) rfl rfl hl.1 rfl (lv_room (Nat.le_of_ble_eq_true rfl)) dX6_fittingBehind_35 ⟨Nat.le_refl _, Nat.le_refl _⟩) hA hS (fun r_18 f_15 L_16 Q_17 H locs hq hP hS => ?_)
        obtain ⟨⟨ef9, eL9, eQ9⟩, hq, u_19⟩ := hq
        rw [ef9, eL9, eQ9] at hP; clear ef9 eL9 eQ9
        clear hq
        refine lv_lstore_n (lv' := [(2, .long r_18), (0, .ref (h 27)), (1, .int x0), (4, .int y4_20)]) hx hb dX6_fittingBehind_38 rfl hl (by decide) rfl (fun ls hl => ?_)
        obtain ⟨v_20, ev_20⟩ : ∃ z : Int32, z = y4_20 + (-1) := ⟨_, rfl⟩
        have q_21 : v_20.toInt = y4_20.toInt + (-1) := by rw [ev_20]; exact (bn_addc y4_20 (-1) (by decide) (by omega) (by omega))
        refine lv_iinc (v := v_20) (lv' := [(4, .int v_20), (2, .long r_18), (0, .ref (h 27)), (1, .int x0)]) hx hb dX6_fittingBehind_39 hl (k := 3) rfl (by rw [ev_20]; rfl) (by decide) rfl (fun ls hl => ?_)
        refine lv_goto (tgt := 20) hx hb dX6_fittingBehind_42 (by decide) ?_
        exact ih_20 r_18 v_20 _ _ _ (hs.trans (((if_pos c_2).trans (spl_e u_13 (spl_e ew_14 (spl_e u_19 (spl_e ev_20 rfl))))))) (by omega) ⟨by omega, by omega⟩ hP hS (lv_sub hl [2, 3, 1, 0] rfl)
  refine lv_ldc2 (v := 2305843009213693951) hx hb hown (hts _ (List.mem_cons_of_mem _ mw_238)) dX6_fittingBehind_0 ?_
  refine lv_lstore_n (lv' := [(2, .long 2305843009213693951), (0, .ref (h 27)), (1, .int x0)]) hx hb dX6_fittingBehind_3 rfl hl (by decide) rfl (fun ls hl => ?_)
  refine lv_bipush (v := 12) hx hb dX6_fittingBehind_4 bp_12 ?_
  refine lv_aload_n hx hb dX6_fittingBehind_6 rfl (lv_at hl 1 rfl) ?_
  refine sg_get (ci := 6) (v := .ref (h (40 + 2 * t))) (C := RX6) (T := TX6) (N := 3) hx hb hts (fun w h => List.mem_cons_of_mem _ (gx_6 w h)) hown hK hP 27 (by decide) rfl rfl 1 (by decide) (hts _ (List.mem_cons_of_mem _ mw_163)) (fun _ h9 => h9) (congrArg (fun z => some (va_rf z)) hq27) dX6_fittingBehind_7 ?_
  refine sg_get (ci := 7) (v := .int (f (40 + 2 * t) 2)) (C := RX7) (T := TX7) (N := 4) hx hb hts (fun w h => List.mem_cons_of_mem _ (gx_7 w h)) hown hK hP (40 + 2 * t) (by have := ht_t; omega) (eX_sh ca h ht_t _ _ _) rfl 2 (by decide) (hts _ (List.mem_cons_of_mem _ mw_239)) (fun _ h9 => h9) rfl dX6_fittingBehind_10 ?_
  refine lv_topi (fun v_22 ev_22 => ?_)
  have q_23 : 0 ≤ v_22.toInt ∧ v_22.toInt ≤ 60 := by rw [ev_22]; exact shb_2 hI ht_t
  refine va_mmin hx hb (hml.trans hl.1.symm) hown (hts _ (List.mem_cons_of_mem _ mw_240)) (hts _ (List.mem_cons_of_mem _ mw_10)) (hts _ (List.mem_cons_of_mem _ mw_11)) (hts _ (List.mem_cons_of_mem _ mw_12)) (Nat.le_of_ble_eq_true rfl) (Nat.le_of_ble_eq_true rfl) (Nat.le_refl _) (Nat.le_refl _) dX6_fittingBehind_13 ?_
  refine lv_topi (fun v_24 ev_24 => ?_)
  have q_25 : (v_22.toInt < 12 ∧ v_24.toInt = v_22.toInt) ∨ (12 ≤ v_22.toInt ∧ v_24.toInt = 12) := by have z := bn_minI v_22 (12 : Int32); rw [← ev_24] at z; have k0 : (12 : Int32).toInt = 12 := ti_12; omega
  refine lv_iconst (v := 1) hx hb dX6_fittingBehind_16 ic_1 ?_
  refine lv_isub hx hb dX6_fittingBehind_17 ?_
  refine lv_topi (fun v_26 ev_26 => ?_)
  have q_27 : v_26.toInt = v_24.toInt - 1 := by rw [ev_26]; first | exact cm_sub ti_1 (by omega) (by omega) | (have k1 : (1 : Int32).toInt = 1 := ti_1; exact (bn_subI (by omega) (by omega)).trans (by omega))
  refine lv_istore (lv' := [(4, .int v_26), (2, .long 2305843009213693951), (0, .ref (h 27)), (1, .int x0)]) hx hb dX6_fittingBehind_18 hl (by decide) rfl (fun ls hl => ?_)
  exact loop_20 13 2305843009213693951 v_26 _ _ _ (hs.trans ((spl_e ev_22 (spl_e ev_24 (spl_e ev_26 rfl))))) (by omega) ⟨by omega, by omega⟩ hP hS (lv_sub hl [2, 3, 1, 0] rfl)

abbrev WkX6_mayHaveSat : List (Nat × Nat × Option Nat) := [(27, 27, some 2)]
set_option maxHeartbeats 4000000 in
set_option maxRecDepth 100000 in
theorem kX6_mayHaveSat (l : Launch) (D : va_G) (ca : Nat → ClassId) (za h : Nat → Nat) (hh : sgH 52 h) (f : sg_F) (L : sg_L) (Q : sg_Q) (hI : sgI loX hiX f) (t : Nat) (ht_t : t < 6) (x1 : Int32) (x2 : Int32) (b1 : 0 ≤ x1.toInt ∧ x1.toInt ≤ 2) (b2 : 0 ≤ x2.toInt ∧ x2.toInt ≤ 11) (sz : Nat) : Met l yX6_mayHaveSat gwX6_mayHaveSat { frames := 5, cells := 0, slots := 0, locals := 122 } (sgP D vwCl (tyX ca) 52 h (eX ca h) zcX za f L Q sz [.ref (h 27), .ref (h (40 + 2 * t)), .int x1, .int x2]) (sgQi D vwCl 52 h (eX ca h) sz (fun r f1 L1 Q1 => ((sgI loX hiX f1 ∧ sgK WkX6_mayHaveSat f f1 ∧ L1 = L ∧ True) ∧ True ∧ (r, f1) = sX6_mayHaveSat t x1 x2 f L))) 0 0 (sgA 52 h sz) := by
  refine sg_ofWi (cc := cX6_mayHaveSat) (maxL := 10) RX6 (by decide) rfl rfl (Nat.le_of_ble_eq_true rfl) ?_
  intro p e s m below meth cd Qz ls hx hb hml hown hts hK hZ hP hS hl hret
  have hA := sgY.self (n := 52) (h := h) (sz := s.heap.size)
  have hl : lv_has ls 10 [(0, .ref (h 27)), (1, .ref (h (40 + 2 * t))), (2, .int x1), (3, .int x2)] := hl
  obtain ⟨H, hH⟩ : ∃ z : Heap, z = s.heap := ⟨_, rfl⟩
  obtain ⟨locs, hlo⟩ : ∃ z : List Loc, z = [] := ⟨_, rfl⟩
  have hP : va_P D vwCl (sgw 52 h (eX ca h) f L Q) H := by rw [hH]; exact hP
  have hS : va_S (sgA 52 h s.heap.size) s.heap H locs := by rw [hH, hlo]; exact hS
  suffices hgo : W p l e ({ frames := 5, cells := 0, slots := 0, locals := 122 }) s m ([.ref (h 27), .ref (h (40 + 2 * t)), .int x1, .int x2] : List Value).toArray below meth cd H locs 0 0 Qz (F0 m 0 ls []) by rw [hH, hlo] at hgo; exact hgo
  clear hH hlo
  obtain ⟨sp, hsp⟩ : ∃ z : Int32 × sg_F, z = sX6_mayHaveSat t x1 x2 f L := ⟨_, rfl⟩
  have hs : sp = sX6_mayHaveSat t x1 x2 f L := hsp
  have hF : sgK WkX6_mayHaveSat f f := sgK.rf
  have loop_30 : ∀ (n_30 : Nat) (y4_30 : Int64) (y6_30 : Int64) (y8_30 : Int32) (y9_30 : Int32) (fp_30 : sg_F) (Qp_30 : sg_Q) (H : Heap) (locs : List Loc) (ls : Array Slot), sp = sX6_mayHaveSat_l30 t x1 x2 n_30 y4_30 y6_30 y8_30 y9_30 fp_30 L → 8 - y9_30.toInt < (n_30 : Int) → (-1) ≤ y9_30.toInt ∧ y9_30.toInt ≤ 8 → sgI loX hiX fp_30 → sgK WkX6_mayHaveSat f fp_30 → Qp_30 27 1 = some (h (40 + 2 * t)) → va_P D vwCl (sgw 52 h (eX ca h) fp_30 L Qp_30) H → va_S (sgA 52 h s.heap.size) s.heap H locs → lv_has ls 10 [(0, .ref (h 27)), (4, .long y4_30), (6, .long y6_30), (8, .int y8_30), (9, .int y9_30)] → W p l e ({ frames := 5, cells := 0, slots := 0, locals := 122 }) s m ([.ref (h 27), .ref (h (40 + 2 * t)), .int x1, .int x2] : List Value).toArray below meth cd H locs 0 0 Qz (F0 m 30 ls []) := by
    intro n_30
    induction n_30 with
    | zero => intro y4_30 y6_30 y8_30 y9_30 fp_30 Qp_30 H locs ls hs hm_30 hy0_30 hI hF hq27 hP hS hl; exact absurd hm_30 (by omega)
    | succ n_30 ih_30 =>
      have blk_79 : ∀ (y4_79 : Int64) (y6_79 : Int64) (y8_79 : Int32) (y9_79 : Int32) (fp_79 : sg_F) (Qp_79 : sg_Q) (H : Heap) (locs : List Loc) (ls : Array Slot), sp = sX6_mayHaveSat_b79 (sX6_mayHaveSat_l30 t x1 x2 n_30) t x1 x2 y4_79 y6_79 y8_79 y9_79 fp_79 L → 8 - y9_79.toInt < ((n_30 + 1 : Nat) : Int) → (-1) ≤ y9_79.toInt ∧ y9_79.toInt ≤ 7 → sgI loX hiX fp_79 → sgK WkX6_mayHaveSat f fp_79 → Qp_79 27 1 = some (h (40 + 2 * t)) → va_P D vwCl (sgw 52 h (eX ca h) fp_79 L Qp_79) H → va_S (sgA 52 h s.heap.size) s.heap H locs → lv_has ls 10 [(0, .ref (h 27)), (4, .long y4_79), (6, .long y6_79), (8, .int y8_79), (9, .int y9_79)] → W p l e ({ frames := 5, cells := 0, slots := 0, locals := 122 }) s m ([.ref (h 27), .ref (h (40 + 2 * t)), .int x1, .int x2] : List Value).toArray below meth cd H locs 0 0 Qz (F0 m 79 ls []) := by
        intro y4_79 y6_79 y8_79 y9_79 fp_79 Qp_79 H locs ls hs hm_30 hy0_79 hI hF hq27 hP hS hl
        obtain ⟨v_1, ev_1⟩ : ∃ z : Int32, z = y9_79 + 1 := ⟨_, rfl⟩
        have q_2 : v_1.toInt = y9_79.toInt + 1 := by rw [ev_1]; exact (bn_addc y9_79 1 (by decide) (by omega) (by omega))
        refine lv_iinc (v := v_1) (lv' := [(9, .int v_1), (0, .ref (h 27)), (4, .long y4_79), (6, .long y6_79), (8, .int y8_79)]) hx hb dX6_mayHaveSat_79 hl (k := 4) rfl (by rw [ev_1]; rfl) (by decide) rfl (fun ls hl => ?_)
        refine lv_goto (tgt := 30) hx hb dX6_mayHaveSat_82 (by decide) ?_
        exact ih_30 y4_79 y6_79 y8_79 v_1 fp_79 Qp_79 _ _ _ (hs.trans ((spl_e ev_1 rfl))) (by omega) ⟨by omega, by omega⟩ hI hF hq27 hP hS (lv_sub hl [1, 2, 3, 4, 0] rfl)
      intro y4_30 y6_30 y8_30 y9_30 fp_30 Qp_30 H locs ls hs hm_30 hy0_30 hI hF hq27 hP hS hl
      have hs : sp = sX6_mayHaveSat_h30 t x1 x2 (sX6_mayHaveSat_l30 t x1 x2 n_30) y4_30 y6_30 y8_30 y9_30 fp_30 L := hs
      refine lv_iload hx hb dX6_mayHaveSat_30 (lv_at hl 4 rfl) ?_
      refine lv_aload_n hx hb dX6_mayHaveSat_32 rfl (lv_at hl 0 rfl) ?_
      refine sl_gX_27_0_6 hx hb hts hown hK hP dX6_mayHaveSat_33 ?_
      refine sl_gX_1_3_6 (v := (fp_30 1 3)) hx hb hts hown hK hP rfl dX6_mayHaveSat_36 ?_
      refine lv_topi (fun v_3 ev_3 => ?_)
      replace hs := hs.trans (spl_e ev_3 rfl)
      have q_4 : 0 ≤ v_3.toInt ∧ v_3.toInt ≤ 8 := by rw [ev_3]; exact hI 1 3
      refine lv_icmp_ge (tgt := 85) hx hb dX6_mayHaveSat_39 (by decide) (fun c => ?_) (fun c => ?_)
      · skip
        have c_5 : v_3.toInt ≤ y9_30.toInt := (by first | exact (bn_le c) | (have z := bn_le c; omega))
        refine lv_iload hx hb dX6_mayHaveSat_85 (lv_at hl 3 rfl) ?_
        exact hret _ _ _ _ (y8_30) fp_30 L Qp_30 dX6_mayHaveSat_87 hP hS ⟨⟨hI, hF, rfl, trivial⟩, trivial, (Eq.trans (Eq.symm (hs.trans ((if_neg (Int.not_lt.mpr c_5)).trans rfl))) hsp)⟩
      · skip
        have c_6 : y9_30.toInt < v_3.toInt := (by first | exact (bn_nle c) | (have z := bn_nle c; omega))
        refine lv_aload_n hx hb dX6_mayHaveSat_42 rfl (lv_at hl 0 rfl) ?_
        refine lv_lload hx hb dX6_mayHaveSat_43 (lv_at hl 1 rfl) ?_
        refine lv_iload hx hb dX6_mayHaveSat_45 (lv_at hl 4 rfl) ?_
        refine sg_calll (va_runV (As := [.long y4_30, .int y9_30]) (rest := []) ⟨hx, hb, hml, hown, hts⟩ (kX6_allBehind l D ca za h hh fp_30 L Qp_30 hI y4_30 y9_30 ⟨by omega, by omega⟩ H.size) (sl_c6_allBehind_3_0_0_69_6 hts ⟨Nat.le_of_ble_eq_true rfl, Nat.le_of_ble_eq_true rfl⟩) (sl_vX_27 hA hK hP hS hZ) rfl rfl hl.1 rfl (lv_room (Nat.le_of_ble_eq_true rfl)) dX6_mayHaveSat_47 ⟨Nat.le_refl _, Nat.le_refl _⟩) hA hS (fun r_10 f_7 L_8 Q_9 H locs hq hP hS => ?_)
        obtain ⟨⟨ef9, eL9, eQ9⟩, hq, u_11⟩ := hq
        rw [ef9, eL9, eQ9] at hP; clear ef9 eL9 eQ9
        clear hq
        refine lv_lload hx hb dX6_mayHaveSat_50 (lv_at hl 2 rfl) ?_
        refine lv_land hx hb dX6_mayHaveSat_52 ?_
        refine lv_topl (fun w_12 ew_12 => ?_)
        refine lv_lconst (v := 0) hx hb dX6_mayHaveSat_53 (by decide) ?_
        refine W.lcmp hx hb dX6_mayHaveSat_54 ?_
        refine lv_topi (fun v_13 ev_13 => ?_)
        replace hs := hs.trans ((if_pos c_6).trans (spl_e u_11 (spl_e ew_12 (spl_e ev_13 rfl))))
        have q_14 : (v_13.toInt = -1 ∧ w_12.toInt < 0) ∨ (v_13.toInt = 0 ∧ w_12.toInt = 0) ∨ (v_13.toInt = 1 ∧ 0 < w_12.toInt) := by rw [ev_13]; have k1 : (0 : Int64).toInt = 0 := (by decide); have z := bn_lcmpI (w_12 : Int64) (0 : Int64); omega
        refine lv_if_eq (tgt := 79) hx hb dX6_mayHaveSat_55 (by decide) (fun c => ?_) (fun c => ?_)
        · skip
          have c_15 : v_13.toInt = 0 := (by first | exact (cm_eq1 ti_0 c) | (have z := Int32.toInt_inj.mpr c; have k1 : (0 : Int32).toInt = 0 := ti_0; omega))
          exact blk_79 y4_30 y6_30 y8_30 y9_30 fp_30 Qp_30 _ _ _ (hs.trans ((if_pos c_15).trans rfl)) (by omega) ⟨by omega, by omega⟩ hI hF hq27 hP hS (lv_sub hl [0, 1, 2, 3, 4] rfl)
        · skip
          have c_16 : v_13.toInt ≠ 0 := (by first | exact (cm_ne1 ti_0 c) | (have z := bn_ne c; have k1 : (0 : Int32).toInt = 0 := ti_0; omega))
          replace hs := hs.trans ((if_neg c_16).trans rfl)
          refine lv_iload hx hb dX6_mayHaveSat_58 (lv_at hl 3 rfl) ?_
          refine lv_iload hx hb dX6_mayHaveSat_60 (lv_at hl 4 rfl) ?_
          refine lv_iconst (v := (-1)) hx hb dX6_mayHaveSat_62 ic_m1 ?_
          refine lv_icmp_ne (tgt := 72) hx hb dX6_mayHaveSat_63 (by decide) (fun c => ?_) (fun c => ?_)
          · skip
            have c_17 : y9_30.toInt ≠ (-1) := (by first | exact (cm_ne1 ti_m1 c) | (have z := bn_ne c; have k1 : ((-1) : Int32).toInt = (-1) := ti_m1; omega))
            refine lv_iconst (v := 1) hx hb dX6_mayHaveSat_72 ic_1 ?_
            refine lv_iload hx hb dX6_mayHaveSat_73 (lv_at hl 4 rfl) ?_
            refine lv_ishl hx hb dX6_mayHaveSat_75 ?_
            refine lv_topi (fun v_19 ev_19 => ?_)
            have q_20 : 1 ≤ v_19.toInt ∧ v_19.toInt ≤ 128 := by rw [ev_19]; have z := bn_shl1 (y := y9_30) (by omega) (by omega); omega
            refine lv_ior hx hb dX6_mayHaveSat_76 ?_
            refine lv_topi (fun v_21 ev_21 => ?_)
            refine lv_istore (lv' := [(8, .int v_21), (0, .ref (h 27)), (4, .long y4_30), (6, .long y6_30), (9, .int y9_30)]) hx hb dX6_mayHaveSat_77 hl (by decide) rfl (fun ls hl => ?_)
            exact blk_79 y4_30 y6_30 v_21 y9_30 fp_30 Qp_30 _ _ _ (hs.trans ((if_neg c_17).trans (spl_e ev_19 (spl_e ev_21 rfl)))) (by omega) ⟨by omega, by omega⟩ hI hF hq27 hP hS (lv_sub hl [1, 2, 3, 0, 4] rfl)
          · skip
            have c_18 : y9_30.toInt = (-1) := (by first | exact (cm_eq1 ti_m1 c) | (have z := Int32.toInt_inj.mpr c; have k1 : ((-1) : Int32).toInt = (-1) := ti_m1; omega))
            refine lv_sipush (v := 256) hx hb dX6_mayHaveSat_66 (by decide) ?_
            refine lv_goto (tgt := 76) hx hb dX6_mayHaveSat_69 (by decide) ?_
            refine lv_ior hx hb dX6_mayHaveSat_76 ?_
            refine lv_topi (fun v_22 ev_22 => ?_)
            refine lv_istore (lv' := [(8, .int v_22), (0, .ref (h 27)), (4, .long y4_30), (6, .long y6_30), (9, .int y9_30)]) hx hb dX6_mayHaveSat_77 hl (by decide) rfl (fun ls hl => ?_)
            exact blk_79 y4_30 y6_30 v_22 y9_30 fp_30 Qp_30 _ _ _ (hs.trans ((if_pos c_18).trans (spl_e ev_22 rfl))) (by omega) ⟨by omega, by omega⟩ hI hF hq27 hP hS (lv_sub hl [1, 2, 3, 0, 4] rfl)
  refine lv_aload_n hx hb dX6_mayHaveSat_0 rfl (lv_at hl 0 rfl) ?_
  refine lv_aload_n hx hb dX6_mayHaveSat_1 rfl (lv_at hl 1 rfl) ?_
  refine sg_putq (ci := 6) (q := h (40 + 2 * t)) (ty := .object "SetAgain$Shelf") (C := RX6) (T := TX6) (N := 3) hx hb hts (fun w h => List.mem_cons_of_mem _ (gx_6 w h)) tyX6 tyX6_ok nmX6 hown hh hA hK hP hS 27 (by decide) rfl rfl 1 (by decide) (hts _ (List.mem_cons_of_mem _ mw_163)) (fun _ h9 => h9) (r1 := sgu (Q 27) 1 (some (h (40 + 2 * t)))) rfl rfl (by decide +kernel) rfl rfl (Nat.le_of_ble_eq_true rfl) dX6_mayHaveSat_2 (fun Q_23 H locs eQ_23 hP hS => ?_)
  have hq27 : Q_23 27 1 = some (h (40 + 2 * t)) := by rw [eQ_23]; rfl
  refine lv_aload_n hx hb dX6_mayHaveSat_5 rfl (lv_at hl 0 rfl) ?_
  refine lv_iload_n hx hb dX6_mayHaveSat_6 rfl (lv_at hl 2 rfl) ?_
  refine sl_pX_27_2_6 (x := x1) hx hb hts hown hh hA hK hP hS dX6_mayHaveSat_7 (fun f_24 H locs ef_24 hP hS => ?_)
  have hI : sgI loX hiX f_24 := by rw [ef_24]; exact sgI.put hI 27 2 (show 0 ≤ (x1 : Int32).toInt ∧ (x1 : Int32).toInt ≤ 2 from b1)
  have hF : sgK WkX6_mayHaveSat f f_24 := sgK.put hF ef_24 (by rfl)
  refine lv_aload_n hx hb dX6_mayHaveSat_10 rfl (lv_at hl 0 rfl) ?_
  refine lv_iload_n hx hb dX6_mayHaveSat_11 rfl (lv_at hl 3 rfl) ?_
  refine sg_calll (va_runV (As := [.int x2]) (rest := []) ⟨hx, hb, hml, hown, hts⟩ (kX6_reachedAhead l D ca za h hh f_24 L Q_23 hI x2 t ht_t hq27 b2 H.size) (sl_c6_reachedAhead_4_0_0_95_6 hts ⟨Nat.le_of_ble_eq_true rfl, Nat.le_of_ble_eq_true rfl⟩) (sl_vX_27 hA hK hP hS hZ) rfl rfl hl.1 rfl (lv_room (Nat.le_of_ble_eq_true rfl)) dX6_mayHaveSat_12 ⟨Nat.le_refl _, Nat.le_refl _⟩) hA hS (fun r_28 f_25 L_26 Q_27 H locs hq hP hS => ?_)
  obtain ⟨⟨ef9, eL9, eQ9⟩, hq, u_29⟩ := hq
  rw [ef9, eL9, eQ9] at hP; clear ef9 eL9 eQ9
  clear hq
  refine lv_lstore (lv' := [(4, .long r_28), (0, .ref (h 27)), (1, .ref (h (40 + 2 * t))), (2, .int x1), (3, .int x2)]) hx hb dX6_mayHaveSat_15 hl (by decide) rfl (fun ls hl => ?_)
  refine lv_aload_n hx hb dX6_mayHaveSat_17 rfl (lv_at hl 1 rfl) ?_
  refine lv_iload_n hx hb dX6_mayHaveSat_18 rfl (lv_at hl 4 rfl) ?_
  refine sg_calll (va_runV (As := [.int x2]) (rest := []) ⟨hx, hb, hml, hown, hts⟩ (kX6_fittingBehind l D ca za h hh f_24 L Q_23 hI x2 t ht_t hq27 b2 H.size) (sl_c6_fittingBehind_4_0_0_95_6 hts ⟨Nat.le_of_ble_eq_true rfl, Nat.le_of_ble_eq_true rfl⟩) (sl_vX_27 hA hK hP hS hZ) rfl rfl hl.1 rfl (lv_room (Nat.le_of_ble_eq_true rfl)) dX6_mayHaveSat_19 ⟨Nat.le_refl _, Nat.le_refl _⟩) hA hS (fun r_33 f_30 L_31 Q_32 H locs hq hP hS => ?_)
  obtain ⟨⟨ef9, eL9, eQ9⟩, hq, u_34⟩ := hq
  rw [ef9, eL9, eQ9] at hP; clear ef9 eL9 eQ9
  clear hq
  refine lv_lstore (lv' := [(6, .long r_33), (4, .long r_28), (0, .ref (h 27)), (1, .ref (h (40 + 2 * t))), (2, .int x1), (3, .int x2)]) hx hb dX6_mayHaveSat_22 hl (by decide) rfl (fun ls hl => ?_)
  refine lv_iconst (v := 0) hx hb dX6_mayHaveSat_24 ic_0 ?_
  refine lv_istore (lv' := [(8, .int 0), (6, .long r_33), (4, .long r_28), (0, .ref (h 27)), (1, .ref (h (40 + 2 * t))), (2, .int x1), (3, .int x2)]) hx hb dX6_mayHaveSat_25 hl (by decide) rfl (fun ls hl => ?_)
  refine lv_iconst (v := (-1)) hx hb dX6_mayHaveSat_27 ic_m1 ?_
  refine lv_istore (lv' := [(9, .int (-1)), (8, .int 0), (6, .long r_33), (4, .long r_28), (0, .ref (h 27)), (1, .ref (h (40 + 2 * t))), (2, .int x1), (3, .int x2)]) hx hb dX6_mayHaveSat_28 hl (by decide) rfl (fun ls hl => ?_)
  exact loop_30 10 r_28 r_33 0 (-1) f_24 Q_23 _ _ _ (hs.trans ((spl_e ef_24 (spl_e u_29 (spl_e u_34 rfl))))) (by have kc2 : (0 : Int32).toInt = 0 := ti_0; have kc3 : ((-1) : Int32).toInt = (-1) := ti_m1; omega) (by decide) hI hF hq27 hP hS (lv_sub hl [4, 3, 2, 1, 0] rfl)

abbrev WkX11_who : List (Nat × Nat × Option Nat) := [(27, 27, some 2)]
set_option maxHeartbeats 4000000 in
set_option maxRecDepth 100000 in
theorem kX11_who (l : Launch) (D : va_G) (ca : Nat → ClassId) (za h : Nat → Nat) (hh : sgH 52 h) (f : sg_F) (L : sg_L) (Q : sg_Q) (hI : sgI loX hiX f) (x0 : Int32) (x1 : Int32) (x2 : Int32) (sz : Nat) : Met l yX11_who gwX11_who { frames := 6, cells := 0, slots := 0, locals := 151 } (sgP D vwCl (tyX ca) 52 h (eX ca h) zcX za f L Q sz [.ref (h 0), .int x0, .int x1, .int x2]) (sgQi D vwCl 52 h (eX ca h) sz (fun r f1 L1 Q1 => ((sgI loX hiX f1 ∧ sgK WkX11_who f f1 ∧ L1 = L ∧ True) ∧ True ∧ (r, f1) = sX11_who x0 x1 x2 f L))) 0 0 (sgA 52 h sz) := by
  refine sg_ofWi (cc := cX11_who) (maxL := 5) RX11 (by decide) rfl rfl (Nat.le_of_ble_eq_true rfl) ?_
  intro p e s m below meth cd Qz ls hx hb hml hown hts hK hZ hP hS hl hret
  have hA := sgY.self (n := 52) (h := h) (sz := s.heap.size)
  have hl : lv_has ls 5 [(0, .ref (h 0)), (1, .int x0), (2, .int x1), (3, .int x2)] := hl
  obtain ⟨H, hH⟩ : ∃ z : Heap, z = s.heap := ⟨_, rfl⟩
  obtain ⟨locs, hlo⟩ : ∃ z : List Loc, z = [] := ⟨_, rfl⟩
  have hP : va_P D vwCl (sgw 52 h (eX ca h) f L Q) H := by rw [hH]; exact hP
  have hS : va_S (sgA 52 h s.heap.size) s.heap H locs := by rw [hH, hlo]; exact hS
  suffices hgo : W p l e ({ frames := 6, cells := 0, slots := 0, locals := 151 }) s m ([.ref (h 0), .int x0, .int x1, .int x2] : List Value).toArray below meth cd H locs 0 0 Qz (F0 m 0 ls []) by rw [hH, hlo] at hgo; exact hgo
  clear hH hlo
  obtain ⟨sp, hsp⟩ : ∃ z : Int32 × sg_F, z = sX11_who x0 x1 x2 f L := ⟨_, rfl⟩
  have hs : sp = sX11_who x0 x1 x2 f L := hsp
  have hF : sgK WkX11_who f f := sgK.rf
  refine lv_iload_n hx hb dX11_who_0 rfl (lv_at hl 1 rfl) ?_
  refine sg_calli (va_runS (As := [.int x0]) (rest := []) ⟨hx, hb, hml, hown, hts⟩ (kX11_isShelf l D ca za h hh f L Q hI x0 H.size) (va_cwS 1 hts (gw_S (fun _ h => List.mem_cons_of_mem _ h) mw_35 mw_36 mw_37 mw_34) rfl rfl rfl hd_yX11_isShelf.2 ⟨Nat.le_of_ble_eq_true rfl, Nat.le_of_ble_eq_true rfl⟩) (sg_preS hA hK hP hS hZ) rfl rfl hl.1 rfl (lv_room (Nat.le_of_ble_eq_true rfl)) dX11_who_1 ⟨Nat.le_refl _, Nat.le_refl _⟩) hA hS (fun r_4 f_1 L_2 Q_3 H locs hq hP hS => ?_)
  obtain ⟨⟨ef9, eL9, eQ9⟩, hq, u_5⟩ := hq
  replace hs := hs.trans (spl_e u_5 rfl)
  rw [ef9, eL9, eQ9] at hP; clear ef9 eL9 eQ9
  rcases hq with ⟨rfl, hq⟩ | ⟨rfl, hq⟩
  · skip
    have hc_6 := hq
    refine lv_if_eq (tgt := 24) hx hb dX11_who_4 (by decide) (fun c => absurd c (by decide)) (fun c => ?_)
    refine lv_iload_n hx hb dX11_who_7 rfl (lv_at hl 2 rfl) ?_
    refine sg_calli (va_runS (As := [.int x1]) (rest := []) ⟨hx, hb, hml, hown, hts⟩ (kX11_isPart l D ca za h hh f L Q hI x1 H.size) (va_cwS 1 hts (gw_S (fun _ h => List.mem_cons_of_mem _ h) mw_58 mw_59 mw_37 mw_57) rfl rfl rfl hd_yX11_isPart.2 ⟨Nat.le_of_ble_eq_true rfl, Nat.le_of_ble_eq_true rfl⟩) (sg_preS hA hK hP hS hZ) rfl rfl hl.1 rfl (lv_room (Nat.le_of_ble_eq_true rfl)) dX11_who_8 ⟨Nat.le_refl _, Nat.le_refl _⟩) hA hS (fun r_10 f_7 L_8 Q_9 H locs hq hP hS => ?_)
    obtain ⟨⟨ef9, eL9, eQ9⟩, hq, u_11⟩ := hq
    replace hs := hs.trans ((if_pos rfl).trans (spl_e u_11 rfl))
    rw [ef9, eL9, eQ9] at hP; clear ef9 eL9 eQ9
    rcases hq with ⟨rfl, hq⟩ | ⟨rfl, hq⟩
    · skip
      have hc_12 := hq
      refine lv_if_eq (tgt := 24) hx hb dX11_who_11 (by decide) (fun c => absurd c (by decide)) (fun c => ?_)
      refine lv_iload_n hx hb dX11_who_14 rfl (lv_at hl 3 rfl) ?_
      refine lv_if_lt (tgt := 24) hx hb dX11_who_15 (by decide) (fun c => ?_) (fun c => ?_)
      · skip
        have c_13 : x2.toInt < 0 := (by first | exact (cm_lt1 ti_0 c) | (have z := bn_lt c; have k1 : (0 : Int32).toInt = 0 := ti_0; omega))
        refine lv_iconst (v := (-1)) hx hb dX11_who_24 ic_m1 ?_
        have k99 : ((-1) : Int32).toInt = (-1) := ti_m1
        exact hret _ _ _ _ (-1) f L Q dX11_who_25 hP hS ⟨⟨hI, hF, rfl, trivial⟩, trivial, (Eq.trans (Eq.symm (hs.trans ((if_pos rfl).trans ((if_pos c_13).trans rfl)))) hsp)⟩
      · skip
        have c_14 : 0 ≤ x2.toInt := (by first | exact (cm_nlt1 ti_0 c) | (have z := bn_nlt c; have k1 : (0 : Int32).toInt = 0 := ti_0; omega))
        replace hs := hs.trans ((if_pos rfl).trans ((if_neg (Int.not_lt.mpr c_14)).trans rfl))
        refine lv_iload_n hx hb dX11_who_18 rfl (lv_at hl 3 rfl) ?_
        refine lv_bipush (v := 12) hx hb dX11_who_19 bp_12 ?_
        refine lv_icmp_lt (tgt := 26) hx hb dX11_who_21 (by decide) (fun c => ?_) (fun c => ?_)
        · skip
          have c_15 : x2.toInt < 12 := (by first | exact (cm_lt1 ti_12 c) | (have z := bn_lt c; have k1 : (12 : Int32).toInt = 12 := ti_12; omega))
          refine lv_aload_n hx hb dX11_who_26 rfl (lv_at hl 0 rfl) ?_
          refine lv_iload_n hx hb dX11_who_27 rfl (lv_at hl 1 rfl) ?_
          refine sg_calli (va_runV (As := [.int x0]) (rest := []) ⟨hx, hb, hml, hown, hts⟩ (kX11_refusalOf l D ca za h hh f L Q hI x0 ⟨by omega, by omega⟩ H.size) (sl_c11_refusalOf_0_0_0_0_11 hts ⟨Nat.le_of_ble_eq_true rfl, Nat.le_of_ble_eq_true rfl⟩) (sl_vX_0 hA hK hP hS hZ) rfl rfl hl.1 rfl (lv_room (Nat.le_of_ble_eq_true rfl)) dX11_who_28 ⟨Nat.le_refl _, Nat.le_refl _⟩) hA hS (fun r_20 f_17 L_18 Q_19 H locs hq hP hS => ?_)
          obtain ⟨⟨ef9, eL9, eQ9⟩, hq, u_21⟩ := hq
          replace hs := hs.trans ((if_pos c_15).trans (spl_e u_21 rfl))
          rw [ef9, eL9, eQ9] at hP; clear ef9 eL9 eQ9
          refine lv_istore (lv' := [(4, .int r_20), (0, .ref (h 0)), (1, .int x0), (2, .int x1), (3, .int x2)]) hx hb dX11_who_31 hl (by decide) rfl (fun ls hl => ?_)
          refine lv_iload hx hb dX11_who_33 (lv_at hl 0 rfl) ?_
          refine lv_if_eq (tgt := 41) hx hb dX11_who_35 (by decide) (fun c => ?_) (fun c => ?_)
          · skip
            have c_22 : r_20.toInt = 0 := (by first | exact (cm_eq1 ti_0 c) | (have z := Int32.toInt_inj.mpr c; have k1 : (0 : Int32).toInt = 0 := ti_0; omega))
            refine lv_iload_n hx hb dX11_who_41 rfl (lv_at hl 4 rfl) ?_
            refine lv_aload_n hx hb dX11_who_42 rfl (lv_at hl 1 rfl) ?_
            refine sl_gX_0_9_11 hx hb hts hown hK hP dX11_who_43 ?_
            refine lv_iload_n hx hb dX11_who_46 rfl (lv_at hl 2 rfl) ?_
            obtain ⟨t_24, et_24⟩ : ∃ z : Nat, z = x0.toNatClampNeg := ⟨_, rfl⟩
            have ht_t_24 : t_24 < 6 := by rw [et_24]; exact bn_kI (by omega) (by omega)
            refine sg_aald hx hb hK hP 39 (by decide) 3 rfl rfl (i := x0) (a := (h (40 + 2 * t_24))) (vp_in_iff.mpr ⟨by omega, by omega⟩) (show (if x0.toNatClampNeg < 6 then some (h (40 + 2 * x0.toNatClampNeg)) else none) = some (h (40 + 2 * t_24)) from by rw [← et_24, if_pos ht_t_24]) dX11_who_47 ?_
            refine sg_get (ci := 7) (v := .int (f (40 + 2 * t_24) 2)) (C := RX7) (T := TX7) (N := 4) hx hb hts (fun w h => List.mem_cons_of_mem _ (gx_7 w h)) hown hK hP (40 + 2 * t_24) (by have := ht_t_24; omega) (eX_sh ca h ht_t_24 _ _ _) rfl 2 (by decide) (hts _ (List.mem_cons_of_mem _ mw_142)) (fun _ h9 => h9) rfl dX11_who_48 ?_
            refine lv_topi (fun v_25 ev_25 => ?_)
            replace hs := hs.trans ((if_pos c_22).trans (spl_e et_24 (spl_e ev_25 rfl)))
            have q_26 : 0 ≤ v_25.toInt ∧ v_25.toInt ≤ 60 := by rw [ev_25]; exact shb_2 hI ht_t_24
            refine lv_icmp_ge (tgt := 72) hx hb dX11_who_51 (by decide) (fun c => ?_) (fun c => ?_)
            · skip
              have c_27 : v_25.toInt ≤ x2.toInt := (by first | exact (bn_le c) | (have z := bn_le c; omega))
              refine lv_iconst (v := (-1)) hx hb dX11_who_72 ic_m1 ?_
              have k99 : ((-1) : Int32).toInt = (-1) := ti_m1
              exact hret _ _ _ _ (-1) f L Q dX11_who_73 hP hS ⟨⟨hI, hF, rfl, trivial⟩, trivial, (Eq.trans (Eq.symm (hs.trans ((if_neg (Int.not_lt.mpr c_27)).trans rfl))) hsp)⟩
            · skip
              have c_28 : x2.toInt < v_25.toInt := (by first | exact (bn_nle c) | (have z := bn_nle c; omega))
              refine lv_aload_n hx hb dX11_who_54 rfl (lv_at hl 1 rfl) ?_
              refine sl_gX_0_5_11 hx hb hts hown hK hP dX11_who_55 ?_
              refine lv_aload_n hx hb dX11_who_58 rfl (lv_at hl 1 rfl) ?_
              refine sl_gX_0_9_11 hx hb hts hown hK hP dX11_who_59 ?_
              refine lv_iload_n hx hb dX11_who_62 rfl (lv_at hl 2 rfl) ?_
              refine sg_aald hx hb hK hP 39 (by decide) 3 rfl rfl (i := x0) (a := (h (40 + 2 * t_24))) (vp_in_iff.mpr ⟨by omega, by omega⟩) (show (if x0.toNatClampNeg < 6 then some (h (40 + 2 * x0.toNatClampNeg)) else none) = some (h (40 + 2 * t_24)) from by rw [← et_24, if_pos ht_t_24]) dX11_who_63 ?_
              refine lv_iload_n hx hb dX11_who_64 rfl (lv_at hl 3 rfl) ?_
              refine lv_iload_n hx hb dX11_who_65 rfl (lv_at hl 4 rfl) ?_
              refine sg_calli (va_runV (As := [.ref (h (40 + 2 * t_24)), .int x1, .int x2]) (rest := []) ⟨hx, hb, hml, hown, hts⟩ (kX6_mayHaveSat l D ca za h hh f L Q hI t_24 ht_t_24 x1 x2 ⟨by omega, by omega⟩ ⟨by omega, by omega⟩ H.size) (sl_c6_mayHaveSat_5_0_0_122_11 hts ⟨Nat.le_of_ble_eq_true rfl, Nat.le_of_ble_eq_true rfl⟩) (sl_vX_27 hA hK hP hS hZ) rfl rfl hl.1 rfl (lv_room (Nat.le_of_ble_eq_true rfl)) dX11_who_66 ⟨Nat.le_refl _, Nat.le_refl _⟩) hA hS (fun r_32 f_29 L_30 Q_31 H locs hq hP hS => ?_)
              obtain ⟨⟨hI, hk_f_29, eL9, eQ9⟩, hq, u_33⟩ := hq
              rw [eL9] at hP; clear eL9
              clear eQ9
              have hF : sgK WkX11_who f f_29 := sgK.tr hF hk_f_29 (by decide +kernel)
              refine lv_goto (tgt := 73) hx hb dX11_who_69 (by decide) ?_
              exact hret _ _ _ _ (r_32) f_29 L Q_31 dX11_who_73 hP hS ⟨⟨hI, hF, rfl, trivial⟩, trivial, (Eq.trans (Eq.symm (hs.trans ((if_pos c_28).trans (spl2_e u_33 rfl)))) hsp)⟩
          · skip
            have c_23 : r_20.toInt ≠ 0 := (by first | exact (cm_ne1 ti_0 c) | (have z := bn_ne c; have k1 : (0 : Int32).toInt = 0 := ti_0; omega))
            refine lv_iload hx hb dX11_who_38 (lv_at hl 0 rfl) ?_
            exact hret _ _ _ _ (r_20) f L Q dX11_who_40 hP hS ⟨⟨hI, hF, rfl, trivial⟩, trivial, (Eq.trans (Eq.symm (hs.trans ((if_neg c_23).trans rfl))) hsp)⟩
        · skip
          have c_16 : 12 ≤ x2.toInt := (by first | exact (cm_nlt1 ti_12 c) | (have z := bn_nlt c; have k1 : (12 : Int32).toInt = 12 := ti_12; omega))
          refine lv_iconst (v := (-1)) hx hb dX11_who_24 ic_m1 ?_
          have k99 : ((-1) : Int32).toInt = (-1) := ti_m1
          exact hret _ _ _ _ (-1) f L Q dX11_who_25 hP hS ⟨⟨hI, hF, rfl, trivial⟩, trivial, (Eq.trans (Eq.symm (hs.trans ((if_neg (Int.not_lt.mpr c_16)).trans rfl))) hsp)⟩
    · skip
      have hc_12 := hq
      refine lv_if_eq (tgt := 24) hx hb dX11_who_11 (by decide) (fun c => ?_) (fun c => absurd c (by decide))
      refine lv_iconst (v := (-1)) hx hb dX11_who_24 ic_m1 ?_
      have k99 : ((-1) : Int32).toInt = (-1) := ti_m1
      exact hret _ _ _ _ (-1) f L Q dX11_who_25 hP hS ⟨⟨hI, hF, rfl, trivial⟩, trivial, (Eq.trans (Eq.symm (hs.trans ((if_neg (by decide)).trans rfl))) hsp)⟩
  · skip
    have hc_6 := hq
    refine lv_if_eq (tgt := 24) hx hb dX11_who_4 (by decide) (fun c => ?_) (fun c => absurd c (by decide))
    refine lv_iconst (v := (-1)) hx hb dX11_who_24 ic_m1 ?_
    have k99 : ((-1) : Int32).toInt = (-1) := ti_m1
    exact hret _ _ _ _ (-1) f L Q dX11_who_25 hP hS ⟨⟨hI, hF, rfl, trivial⟩, trivial, (Eq.trans (Eq.symm (hs.trans ((if_neg (by decide)).trans rfl))) hsp)⟩

abbrev WkX11_firstUnlike : List (Nat × Nat × Option Nat) := [(8, 8, none), (9, 9, none), (13, 13, some 5), (13, 13, some 6), (14, 14, none), (15, 15, none), (16, 16, none)]
set_option maxHeartbeats 4000000 in
set_option maxRecDepth 100000 in
theorem kX11_firstUnlike (l : Launch) (D : va_G) (ca : Nat → ClassId) (za h : Nat → Nat) (hh : sgH 52 h) (f : sg_F) (L : sg_L) (Q : sg_Q) (hI : sgI loX hiX f) (t : Nat) (ht_t : t < 6) (x1 : Int32) (b1 : 0 ≤ x1.toInt ∧ x1.toInt ≤ 2) (sz : Nat) : Met l yX11_firstUnlike gwX11_firstUnlike { frames := 6, cells := 0, slots := 0, locals := 148 } (sgP D vwCl (tyX ca) 52 h (eX ca h) zcX za f L Q sz [.ref (h 0), .ref (h (40 + 2 * t)), .int x1]) (sgQi D vwCl 52 h (eX ca h) sz (fun r f1 L1 Q1 => ((sgI loX hiX f1 ∧ sgK WkX11_firstUnlike f f1 ∧ L1 = L ∧ Q1 = Q) ∧ ((-2) ≤ r.toInt ∧ r.toInt ≤ 20) ∧ (r, f1) = sX11_firstUnlike t x1 f L))) 0 0 (sgA 52 h sz) := by
  refine sg_ofWi (cc := cX11_firstUnlike) (maxL := 5) RX11 (by decide) rfl rfl (Nat.le_of_ble_eq_true rfl) ?_
  intro p e s m below meth cd Qz ls hx hb hml hown hts hK hZ hP hS hl hret
  have hA := sgY.self (n := 52) (h := h) (sz := s.heap.size)
  have hl : lv_has ls 5 [(0, .ref (h 0)), (1, .ref (h (40 + 2 * t))), (2, .int x1)] := hl
  obtain ⟨H, hH⟩ : ∃ z : Heap, z = s.heap := ⟨_, rfl⟩
  obtain ⟨locs, hlo⟩ : ∃ z : List Loc, z = [] := ⟨_, rfl⟩
  have hP : va_P D vwCl (sgw 52 h (eX ca h) f L Q) H := by rw [hH]; exact hP
  have hS : va_S (sgA 52 h s.heap.size) s.heap H locs := by rw [hH, hlo]; exact hS
  suffices hgo : W p l e ({ frames := 6, cells := 0, slots := 0, locals := 148 }) s m ([.ref (h 0), .ref (h (40 + 2 * t)), .int x1] : List Value).toArray below meth cd H locs 0 0 Qz (F0 m 0 ls []) by rw [hH, hlo] at hgo; exact hgo
  clear hH hlo
  obtain ⟨sp, hsp⟩ : ∃ z : Int32 × sg_F, z = sX11_firstUnlike t x1 f L := ⟨_, rfl⟩
  have hs : sp = sX11_firstUnlike t x1 f L := hsp
  have hF : sgK WkX11_firstUnlike f f := sgK.rf
  have loop_25 : ∀ (n_25 : Nat) (y3_25 : Int32) (y4_25 : Int32) (fp_25 : sg_F) (H : Heap) (locs : List Loc) (ls : Array Slot), sp = sX11_firstUnlike_l25 t x1 n_25 y3_25 y4_25 fp_25 L → 21 - y4_25.toInt < (n_25 : Int) → 0 ≤ y3_25.toInt ∧ y3_25.toInt ≤ 21 → 0 ≤ y4_25.toInt ∧ y4_25.toInt ≤ 21 → sgI loX hiX fp_25 → sgK WkX11_firstUnlike f fp_25 → va_P D vwCl (sgw 52 h (eX ca h) fp_25 L Q) H → va_S (sgA 52 h s.heap.size) s.heap H locs → lv_has ls 5 [(0, .ref (h 0)), (1, .ref (h (40 + 2 * t))), (2, .int x1), (3, .int y3_25), (4, .int y4_25)] → W p l e ({ frames := 6, cells := 0, slots := 0, locals := 148 }) s m ([.ref (h 0), .ref (h (40 + 2 * t)), .int x1] : List Value).toArray below meth cd H locs 0 0 Qz (F0 m 25 ls []) := by
    intro n_25
    induction n_25 with
    | zero => intro y3_25 y4_25 fp_25 H locs ls hs hm_25 hy0_25 hy1_25 hI hF hP hS hl; exact absurd hm_25 (by omega)
    | succ n_25 ih_25 =>
      have blk_86 : ∀ (y3_86 : Int32) (y4_86 : Int32) (fp_86 : sg_F) (H : Heap) (locs : List Loc) (ls : Array Slot), sp = sX11_firstUnlike_b86 (sX11_firstUnlike_l25 t x1 n_25) t x1 y3_86 y4_86 fp_86 L → 21 - y4_86.toInt < ((n_25 + 1 : Nat) : Int) → 1 ≤ y3_86.toInt ∧ y3_86.toInt ≤ 21 → 0 ≤ y4_86.toInt ∧ y4_86.toInt ≤ 20 → sgI loX hiX fp_86 → sgK WkX11_firstUnlike f fp_86 → va_P D vwCl (sgw 52 h (eX ca h) fp_86 L Q) H → va_S (sgA 52 h s.heap.size) s.heap H locs → lv_has ls 5 [(0, .ref (h 0)), (1, .ref (h (40 + 2 * t))), (2, .int x1), (3, .int y3_86), (4, .int y4_86)] → W p l e ({ frames := 6, cells := 0, slots := 0, locals := 148 }) s m ([.ref (h 0), .ref (h (40 + 2 * t)), .int x1] : List Value).toArray below meth cd H locs 0 0 Qz (F0 m 86 ls []) := by
        intro y3_86 y4_86 fp_86 H locs ls hs hm_25 hy0_86 hy1_86 hI hF hP hS hl
        obtain ⟨v_1, ev_1⟩ : ∃ z : Int32, z = y4_86 + 1 := ⟨_, rfl⟩
        have q_2 : v_1.toInt = y4_86.toInt + 1 := by rw [ev_1]; exact (bn_addc y4_86 1 (by decide) (by omega) (by omega))
        refine lv_iinc (v := v_1) (lv' := [(4, .int v_1), (0, .ref (h 0)), (1, .ref (h (40 + 2 * t))), (2, .int x1), (3, .int y3_86)]) hx hb dX11_firstUnlike_86 hl (k := 4) rfl (by rw [ev_1]; rfl) (by decide) rfl (fun ls hl => ?_)
        refine lv_goto (tgt := 25) hx hb dX11_firstUnlike_89 (by decide) ?_
        exact ih_25 y3_86 v_1 fp_86 _ _ _ (hs.trans ((spl_e ev_1 rfl))) (by omega) ⟨by omega, by omega⟩ ⟨by omega, by omega⟩ hI hF hP hS (lv_sub hl [1, 2, 3, 4, 0] rfl)
      intro y3_25 y4_25 fp_25 H locs ls hs hm_25 hy0_25 hy1_25 hI hF hP hS hl
      have hs : sp = sX11_firstUnlike_h25 t x1 (sX11_firstUnlike_l25 t x1 n_25) y3_25 y4_25 fp_25 L := hs
      refine lv_iload hx hb dX11_firstUnlike_25 (lv_at hl 4 rfl) ?_
      refine lv_iload_n hx hb dX11_firstUnlike_27 rfl (lv_at hl 3 rfl) ?_
      refine lv_icmp_ge (tgt := 92) hx hb dX11_firstUnlike_28 (by decide) (fun c => ?_) (fun c => ?_)
      · skip
        have c_3 : y3_25.toInt ≤ y4_25.toInt := (by first | exact (bn_le c) | (have z := bn_le c; omega))
        refine lv_bipush (v := (-2)) hx hb dX11_firstUnlike_92 bp_m2 ?_
        have k99 : ((-2) : Int32).toInt = (-2) := ti_m2
        exact hret _ _ _ _ (-2) fp_25 L Q dX11_firstUnlike_94 hP hS ⟨⟨hI, hF, rfl, rfl⟩, (by decide), (Eq.trans (Eq.symm (hs.trans (((if_neg (Int.not_lt.mpr c_3)).trans rfl)))) hsp)⟩
      · skip
        have c_4 : y4_25.toInt < y3_25.toInt := (by first | exact (bn_nle c) | (have z := bn_nle c; omega))
        refine lv_aload_n hx hb dX11_firstUnlike_31 rfl (lv_at hl 0 rfl) ?_
        refine sl_gX_0_2_11 hx hb hts hown hK hP dX11_firstUnlike_32 ?_
        refine lv_aload_n hx hb dX11_firstUnlike_35 rfl (lv_at hl 0 rfl) ?_
        refine sl_gX_0_1_11 hx hb hts hown hK hP dX11_firstUnlike_36 ?_
        refine sl_gX_10_0_11 hx hb hts hown hK hP dX11_firstUnlike_39 ?_
        refine lv_iload hx hb dX11_firstUnlike_42 (lv_at hl 4 rfl) ?_
        refine sg_iald hx hb hK hP 11 (by decide) 0 rfl rfl (i := y4_25) (vp_in_iff.mpr ⟨by omega, by omega⟩) dX11_firstUnlike_44 ?_
        refine lv_topi (fun v_5 ev_5 => ?_)
        have q_6 : (-1) ≤ v_5.toInt ∧ v_5.toInt ≤ 7 := by rw [ev_5]; exact hI 11 _
        refine sg_callv (va_runV (As := [.int v_5]) (rest := []) ⟨hx, hb, hml, hown, hts⟩ (kX4_pass l D ca za h hh fp_25 L Q hI v_5 q_6 H.size) (sl_c4_pass_5_0_0_127_11 hts ⟨Nat.le_of_ble_eq_true rfl, Nat.le_of_ble_eq_true rfl⟩) (sl_vX_13 hA hK hP hS hZ) rfl rfl hl.1 rfl (lv_room (Nat.le_of_ble_eq_true rfl)) dX11_firstUnlike_45 ⟨Nat.le_refl _, Nat.le_refl _⟩) hA hS (fun f_7 L_8 Q_9 H locs hq hP hS => ?_)
        obtain ⟨⟨hI, hk_f_7, eL9, eQ9⟩, u_10⟩ := hq
        rw [eL9, eQ9] at hP; clear eL9 eQ9
        have hF : sgK WkX11_firstUnlike f f_7 := sgK.tr hF hk_f_7 (by decide +kernel)
        refine lv_aload_n hx hb dX11_firstUnlike_48 rfl (lv_at hl 1 rfl) ?_
        refine sg_get (ci := 7) (v := .ref (h (41 + 2 * t))) (C := RX7) (T := TX7) (N := 4) hx hb hts (fun w h => List.mem_cons_of_mem _ (gx_7 w h)) hown hK hP (40 + 2 * t) (by have := ht_t; omega) (eX_sh ca h ht_t _ _ _) rfl 0 (by decide) (hts _ (List.mem_cons_of_mem _ mw_115)) (fun _ h9 => h9) rfl dX11_firstUnlike_49 ?_
        refine lv_iload hx hb dX11_firstUnlike_52 (lv_at hl 4 rfl) ?_
        refine sg_lald hx hb hK hP (41 + 2 * t) (by have := ht_t; omega) 1 (eX_el ca h ht_t _ _ _) rfl (i := y4_25) (vp_in_iff.mpr ⟨by omega, by omega⟩) dX11_firstUnlike_54 ?_
        obtain ⟨w_11, ew_11⟩ : ∃ z : Int64, z = L (41 + 2 * t) (Int32.toNatClampNeg y4_25) := ⟨_, rfl⟩
        rw [← ew_11]
        refine lv_ldc2 (v := (-1)) hx hb hown (hts _ (List.mem_cons_of_mem _ mw_436)) dX11_firstUnlike_55 ?_
        refine W.lcmp hx hb dX11_firstUnlike_58 ?_
        refine lv_topi (fun v_12 ev_12 => ?_)
        replace hs := hs.trans ((if_pos c_4).trans (spl_e ev_5 (spl_e u_10 (spl_e ew_11 (spl_e ev_12 rfl)))))
        have q_13 : (v_12.toInt = -1 ∧ w_11.toInt < (-1)) ∨ (v_12.toInt = 0 ∧ w_11.toInt = (-1)) ∨ (v_12.toInt = 1 ∧ (-1) < w_11.toInt) := by rw [ev_12]; have k1 : ((-1) : Int64).toInt = (-1) := (by decide); have z := bn_lcmpI (w_11 : Int64) ((-1) : Int64); omega
        refine lv_if_eq (tgt := 86) hx hb dX11_firstUnlike_59 (by decide) (fun c => ?_) (fun c => ?_)
        · skip
          have c_14 : v_12.toInt = 0 := (by first | exact (cm_eq1 ti_0 c) | (have z := Int32.toInt_inj.mpr c; have k1 : (0 : Int32).toInt = 0 := ti_0; omega))
          exact blk_86 y3_25 y4_25 f_7 _ _ _ (hs.trans ((if_pos c_14).trans rfl)) (by omega) ⟨by omega, by omega⟩ ⟨by omega, by omega⟩ hI hF hP hS (lv_sub hl [0, 1, 2, 3, 4] rfl)
        · skip
          have c_15 : v_12.toInt ≠ 0 := (by first | exact (cm_ne1 ti_0 c) | (have z := bn_ne c; have k1 : (0 : Int32).toInt = 0 := ti_0; omega))
          refine lv_aload_n hx hb dX11_firstUnlike_62 rfl (lv_at hl 1 rfl) ?_
          refine sg_get (ci := 7) (v := .ref (h (41 + 2 * t))) (C := RX7) (T := TX7) (N := 4) hx hb hts (fun w h => List.mem_cons_of_mem _ (gx_7 w h)) hown hK hP (40 + 2 * t) (by have := ht_t; omega) (eX_sh ca h ht_t _ _ _) rfl 0 (by decide) (hts _ (List.mem_cons_of_mem _ mw_115)) (fun _ h9 => h9) rfl dX11_firstUnlike_63 ?_
          refine lv_iload hx hb dX11_firstUnlike_66 (lv_at hl 4 rfl) ?_
          refine sg_lald hx hb hK hP (41 + 2 * t) (by have := ht_t; omega) 1 (eX_el ca h ht_t _ _ _) rfl (i := y4_25) (vp_in_iff.mpr ⟨by omega, by omega⟩) dX11_firstUnlike_68 ?_
          rw [← ew_11]
          refine lv_aload_n hx hb dX11_firstUnlike_69 rfl (lv_at hl 0 rfl) ?_
          refine sl_gX_0_2_11 hx hb hts hown hK hP dX11_firstUnlike_70 ?_
          refine sl_gX_13_2_11 hx hb hts hown hK hP dX11_firstUnlike_73 ?_
          refine lv_iload_n hx hb dX11_firstUnlike_76 rfl (lv_at hl 2 rfl) ?_
          refine sg_iald hx hb hK hP 14 (by decide) 0 rfl rfl (i := x1) (vp_in_iff.mpr ⟨by omega, by omega⟩) dX11_firstUnlike_77 ?_
          refine lv_topi (fun v_16 ev_16 => ?_)
          have q_17 : 0 ≤ v_16.toInt ∧ v_16.toInt ≤ 60 := by rw [ev_16]; exact hI 14 _
          obtain ⟨w_18, ew_18⟩ : ∃ z : Int64, z = Int32.toInt64 v_16 := ⟨_, rfl⟩
          have q_19 : w_18.toInt = v_16.toInt := by rw [ew_18]; exact Int32.toInt_toInt64 _
          refine lv_i2l (v := w_18) hx hb dX11_firstUnlike_78 ew_18.symm ?_
          refine W.lcmp hx hb dX11_firstUnlike_79 ?_
          refine lv_topi (fun v_20 ev_20 => ?_)
          replace hs := hs.trans ((if_neg c_15).trans (spl_e ev_16 (spl_e ew_18 (spl_e ev_20 rfl))))
          have q_21 : (v_20.toInt = -1 ∧ w_11.toInt < w_18.toInt) ∨ (v_20.toInt = 0 ∧ w_11.toInt = w_18.toInt) ∨ (v_20.toInt = 1 ∧ w_18.toInt < w_11.toInt) := by rw [ev_20]; exact bn_lcmpI (w_11 : Int64) (w_18 : Int64)
          refine lv_if_eq (tgt := 86) hx hb dX11_firstUnlike_80 (by decide) (fun c => ?_) (fun c => ?_)
          · skip
            have c_22 : v_20.toInt = 0 := (by first | exact (cm_eq1 ti_0 c) | (have z := Int32.toInt_inj.mpr c; have k1 : (0 : Int32).toInt = 0 := ti_0; omega))
            exact blk_86 y3_25 y4_25 f_7 _ _ _ (hs.trans ((if_pos c_22).trans rfl)) (by omega) ⟨by omega, by omega⟩ ⟨by omega, by omega⟩ hI hF hP hS (lv_sub hl [0, 1, 2, 3, 4] rfl)
          · skip
            have c_23 : v_20.toInt ≠ 0 := (by first | exact (cm_ne1 ti_0 c) | (have z := bn_ne c; have k1 : (0 : Int32).toInt = 0 := ti_0; omega))
            refine lv_iload hx hb dX11_firstUnlike_83 (lv_at hl 4 rfl) ?_
            exact hret _ _ _ _ (y4_25) f_7 L Q dX11_firstUnlike_85 hP hS ⟨⟨hI, hF, rfl, rfl⟩, ⟨by omega, by omega⟩, (Eq.trans (Eq.symm (hs.trans ((if_neg c_23).trans rfl))) hsp)⟩
  refine lv_aload_n hx hb dX11_firstUnlike_0 rfl (lv_at hl 0 rfl) ?_
  refine sl_gX_0_1_11 hx hb hts hown hK hP dX11_firstUnlike_1 ?_
  refine sl_gX_10_2_11 (v := (f 10 2)) hx hb hts hown hK hP rfl dX11_firstUnlike_4 ?_
  refine lv_topi (fun v_24 ev_24 => ?_)
  have q_25 : 0 ≤ v_24.toInt ∧ v_24.toInt ≤ 21 := by rw [ev_24]; exact hI 10 2
  refine lv_aload_n hx hb dX11_firstUnlike_7 rfl (lv_at hl 1 rfl) ?_
  refine sg_get (ci := 7) (v := .int (f (40 + 2 * t) 2)) (C := RX7) (T := TX7) (N := 4) hx hb hts (fun w h => List.mem_cons_of_mem _ (gx_7 w h)) hown hK hP (40 + 2 * t) (by have := ht_t; omega) (eX_sh ca h ht_t _ _ _) rfl 2 (by decide) (hts _ (List.mem_cons_of_mem _ mw_142)) (fun _ h9 => h9) rfl dX11_firstUnlike_8 ?_
  refine lv_topi (fun v_26 ev_26 => ?_)
  have q_27 : 0 ≤ v_26.toInt ∧ v_26.toInt ≤ 60 := by rw [ev_26]; exact shb_2 hI ht_t
  refine va_mmin hx hb (hml.trans hl.1.symm) hown (hts _ (List.mem_cons_of_mem _ mw_9)) (hts _ (List.mem_cons_of_mem _ mw_10)) (hts _ (List.mem_cons_of_mem _ mw_11)) (hts _ (List.mem_cons_of_mem _ mw_12)) (Nat.le_of_ble_eq_true rfl) (Nat.le_of_ble_eq_true rfl) (Nat.le_refl _) (Nat.le_refl _) dX11_firstUnlike_11 ?_
  refine lv_topi (fun v_28 ev_28 => ?_)
  have q_29 : (v_26.toInt < v_24.toInt ∧ v_28.toInt = v_26.toInt) ∨ (v_24.toInt ≤ v_26.toInt ∧ v_28.toInt = v_24.toInt) := by have z := bn_minI v_26 v_24; rw [← ev_28] at z; omega
  refine lv_istore_n (lv' := [(3, .int v_28), (0, .ref (h 0)), (1, .ref (h (40 + 2 * t))), (2, .int x1)]) hx hb dX11_firstUnlike_14 rfl hl (by decide) rfl (fun ls hl => ?_)
  refine lv_aload_n hx hb dX11_firstUnlike_15 rfl (lv_at hl 1 rfl) ?_
  refine sl_gX_0_2_11 hx hb hts hown hK hP dX11_firstUnlike_16 ?_
  refine sg_callv (va_runV (As := []) (rest := []) ⟨hx, hb, hml, hown, hts⟩ (kX4_begin l D ca za h hh f L Q hI H.size) (sl_c4_begin_1_0_0_21_11 hts ⟨Nat.le_of_ble_eq_true rfl, Nat.le_of_ble_eq_true rfl⟩) (sl_vX_13 hA hK hP hS hZ) rfl rfl hl.1 rfl (lv_room (Nat.le_of_ble_eq_true rfl)) dX11_firstUnlike_19 ⟨Nat.le_refl _, Nat.le_refl _⟩) hA hS (fun f_30 L_31 Q_32 H locs hq hP hS => ?_)
  obtain ⟨⟨hI, hk_f_30, eL9, eQ9⟩, u_33⟩ := hq
  rw [eL9, eQ9] at hP; clear eL9 eQ9
  have hF : sgK WkX11_firstUnlike f f_30 := sgK.tr hF hk_f_30 (by decide +kernel)
  refine lv_iconst (v := 0) hx hb dX11_firstUnlike_22 ic_0 ?_
  refine lv_istore (lv' := [(4, .int 0), (3, .int v_28), (0, .ref (h 0)), (1, .ref (h (40 + 2 * t))), (2, .int x1)]) hx hb dX11_firstUnlike_23 hl (by decide) rfl (fun ls hl => ?_)
  exact loop_25 22 v_28 0 f_30 _ _ _ (hs.trans ((spl_e ev_24 (spl_e ev_26 (spl_e ev_28 (spl_e u_33 rfl)))))) (by have kc1 : (0 : Int32).toInt = 0 := ti_0; omega) ⟨by omega, by omega⟩ (by decide) hI hF hP hS (lv_sub hl [2, 3, 4, 1, 0] rfl)

abbrev WkX11_judge : List (Nat × Nat × Option Nat) := [(8, 8, none), (9, 9, none), (10, 10, some 2), (10, 10, some 3), (11, 11, none), (12, 12, none), (13, 13, some 5), (13, 13, some 6), (14, 14, none), (15, 15, none), (16, 16, none)]
set_option maxHeartbeats 4000000 in
set_option maxRecDepth 100000 in
theorem kX11_judge (l : Launch) (D : va_G) (ca : Nat → ClassId) (za h : Nat → Nat) (hh : sgH 52 h) (f : sg_F) (L : sg_L) (Q : sg_Q) (hI : sgI loX hiX f) (x0 : Int32) (x1 : Int32) (sz : Nat) : Met l yX11_judge gwX11_judge { frames := 7, cells := 0, slots := 0, locals := 172 } (sgP D vwCl (tyX ca) 52 h (eX ca h) zcX za f L Q sz [.ref (h 0), .int x0, .int x1]) (sgQi D vwCl 52 h (eX ca h) sz (fun r f1 L1 Q1 => ((sgI loX hiX f1 ∧ sgK WkX11_judge f f1 ∧ L1 = L ∧ Q1 = Q) ∧ ((-12) ≤ r.toInt ∧ r.toInt ≤ 20) ∧ (r, f1) = sX11_judge x0 x1 f L))) 0 0 (sgA 52 h sz) := by
  refine sg_ofWi (cc := cX11_judge) (maxL := 7) RX11 (by decide) rfl rfl (Nat.le_of_ble_eq_true rfl) ?_
  intro p e s m below meth cd Qz ls hx hb hml hown hts hK hZ hP hS hl hret
  have hA := sgY.self (n := 52) (h := h) (sz := s.heap.size)
  have hl : lv_has ls 7 [(0, .ref (h 0)), (1, .int x0), (2, .int x1)] := hl
  obtain ⟨H, hH⟩ : ∃ z : Heap, z = s.heap := ⟨_, rfl⟩
  obtain ⟨locs, hlo⟩ : ∃ z : List Loc, z = [] := ⟨_, rfl⟩
  have hP : va_P D vwCl (sgw 52 h (eX ca h) f L Q) H := by rw [hH]; exact hP
  have hS : va_S (sgA 52 h s.heap.size) s.heap H locs := by rw [hH, hlo]; exact hS
  suffices hgo : W p l e ({ frames := 7, cells := 0, slots := 0, locals := 172 }) s m ([.ref (h 0), .int x0, .int x1] : List Value).toArray below meth cd H locs 0 0 Qz (F0 m 0 ls []) by rw [hH, hlo] at hgo; exact hgo
  clear hH hlo
  obtain ⟨sp, hsp⟩ : ∃ z : Int32 × sg_F, z = sX11_judge x0 x1 f L := ⟨_, rfl⟩
  have hs : sp = sX11_judge x0 x1 f L := hsp
  have hF : sgK WkX11_judge f f := sgK.rf
  refine lv_iload_n hx hb dX11_judge_0 rfl (lv_at hl 1 rfl) ?_
  refine lv_bipush (v := 10) hx hb dX11_judge_1 bp_10 ?_
  refine lv_idiv hx hb dX11_judge_3 (by decide) ?_
  refine lv_topi (fun v_1 ev_1 => ?_)
  have q_2 : 0 ≤ x0.toInt → v_1.toInt = x0.toInt / 10 := fun z => by rw [ev_1]; exact bn_divI z (by decide) (by decide)
  refine lv_istore_n (lv' := [(3, .int v_1), (0, .ref (h 0)), (1, .int x0), (2, .int x1)]) hx hb dX11_judge_4 rfl hl (by decide) rfl (fun ls hl => ?_)
  refine lv_iload_n hx hb dX11_judge_5 rfl (lv_at hl 2 rfl) ?_
  refine lv_bipush (v := 10) hx hb dX11_judge_6 bp_10 ?_
  refine lv_irem hx hb dX11_judge_8 (by decide) ?_
  refine lv_topi (fun v_3 ev_3 => ?_)
  replace hs := hs.trans (spl_e ev_1 (spl_e ev_3 rfl))
  have q_4 : 0 ≤ x0.toInt → v_3.toInt = x0.toInt % 10 := fun z => by rw [ev_3]; exact bn_remI z (by decide) (by decide)
  refine lv_istore (lv' := [(4, .int v_3), (3, .int v_1), (0, .ref (h 0)), (1, .int x0), (2, .int x1)]) hx hb dX11_judge_9 hl (by decide) rfl (fun ls hl => ?_)
  refine lv_iload_n hx hb dX11_judge_11 rfl (lv_at hl 3 rfl) ?_
  refine lv_if_lt (tgt := 37) hx hb dX11_judge_12 (by decide) (fun c => ?_) (fun c => ?_)
  · skip
    have c_5 : x0.toInt < 0 := (by first | exact (cm_lt1 ti_0 c) | (have z := bn_lt c; have k1 : (0 : Int32).toInt = 0 := ti_0; omega))
    refine lv_iconst (v := (-1)) hx hb dX11_judge_37 ic_m1 ?_
    have k99 : ((-1) : Int32).toInt = (-1) := ti_m1
    exact hret _ _ _ _ (-1) f L Q dX11_judge_38 hP hS ⟨⟨hI, hF, rfl, rfl⟩, (by decide), (Eq.trans (Eq.symm (hs.trans ((if_pos c_5).trans rfl))) hsp)⟩
  · skip
    have c_6 : 0 ≤ x0.toInt := (by first | exact (cm_nlt1 ti_0 c) | (have z := bn_nlt c; have k1 : (0 : Int32).toInt = 0 := ti_0; omega))
    refine lv_iload_n hx hb dX11_judge_15 rfl (lv_at hl 1 rfl) ?_
    refine sg_calli (va_runS (As := [.int v_1]) (rest := []) ⟨hx, hb, hml, hown, hts⟩ (kX11_isShelf l D ca za h hh f L Q hI v_1 H.size) (va_cwS 1 hts (gw_S (fun _ h => List.mem_cons_of_mem _ h) mw_35 mw_36 mw_37 mw_34) rfl rfl rfl hd_yX11_isShelf.2 ⟨Nat.le_of_ble_eq_true rfl, Nat.le_of_ble_eq_true rfl⟩) (sg_preS hA hK hP hS hZ) rfl rfl hl.1 rfl (lv_room (Nat.le_of_ble_eq_true rfl)) dX11_judge_16 ⟨Nat.le_refl _, Nat.le_refl _⟩) hA hS (fun r_10 f_7 L_8 Q_9 H locs hq hP hS => ?_)
    obtain ⟨⟨ef9, eL9, eQ9⟩, hq, u_11⟩ := hq
    replace hs := hs.trans ((if_neg (Int.not_lt.mpr c_6)).trans (spl_e u_11 rfl))
    rw [ef9, eL9, eQ9] at hP; clear ef9 eL9 eQ9
    rcases hq with ⟨rfl, hq⟩ | ⟨rfl, hq⟩
    · skip
      have hc_12 := hq
      refine lv_if_eq (tgt := 37) hx hb dX11_judge_19 (by decide) (fun c => absurd c (by decide)) (fun c => ?_)
      refine lv_iload hx hb dX11_judge_22 (lv_at hl 0 rfl) ?_
      refine sg_calli (va_runS (As := [.int v_3]) (rest := []) ⟨hx, hb, hml, hown, hts⟩ (kX11_isShelf l D ca za h hh f L Q hI v_3 H.size) (va_cwS 1 hts (gw_S (fun _ h => List.mem_cons_of_mem _ h) mw_35 mw_36 mw_37 mw_34) rfl rfl rfl hd_yX11_isShelf.2 ⟨Nat.le_of_ble_eq_true rfl, Nat.le_of_ble_eq_true rfl⟩) (sg_preS hA hK hP hS hZ) rfl rfl hl.1 rfl (lv_room (Nat.le_of_ble_eq_true rfl)) dX11_judge_24 ⟨Nat.le_refl _, Nat.le_refl _⟩) hA hS (fun r_16 f_13 L_14 Q_15 H locs hq hP hS => ?_)
      obtain ⟨⟨ef9, eL9, eQ9⟩, hq, u_17⟩ := hq
      replace hs := hs.trans ((if_pos rfl).trans (spl_e u_17 rfl))
      rw [ef9, eL9, eQ9] at hP; clear ef9 eL9 eQ9
      rcases hq with ⟨rfl, hq⟩ | ⟨rfl, hq⟩
      · skip
        have hc_18 := hq
        refine lv_if_eq (tgt := 37) hx hb dX11_judge_27 (by decide) (fun c => absurd c (by decide)) (fun c => ?_)
        refine lv_iload_n hx hb dX11_judge_30 rfl (lv_at hl 4 rfl) ?_
        refine sg_calli (va_runS (As := [.int x1]) (rest := []) ⟨hx, hb, hml, hown, hts⟩ (kX11_isPart l D ca za h hh f L Q hI x1 H.size) (va_cwS 1 hts (gw_S (fun _ h => List.mem_cons_of_mem _ h) mw_58 mw_59 mw_37 mw_57) rfl rfl rfl hd_yX11_isPart.2 ⟨Nat.le_of_ble_eq_true rfl, Nat.le_of_ble_eq_true rfl⟩) (sg_preS hA hK hP hS hZ) rfl rfl hl.1 rfl (lv_room (Nat.le_of_ble_eq_true rfl)) dX11_judge_31 ⟨Nat.le_refl _, Nat.le_refl _⟩) hA hS (fun r_22 f_19 L_20 Q_21 H locs hq hP hS => ?_)
        obtain ⟨⟨ef9, eL9, eQ9⟩, hq, u_23⟩ := hq
        replace hs := hs.trans ((if_pos rfl).trans (spl_e u_23 rfl))
        rw [ef9, eL9, eQ9] at hP; clear ef9 eL9 eQ9
        rcases hq with ⟨rfl, hq⟩ | ⟨rfl, hq⟩
        · skip
          have hc_24 := hq
          refine lv_if_ne (tgt := 39) hx hb dX11_judge_34 (by decide) (fun c => ?_) (fun c => absurd c (by decide))
          refine lv_aload_n hx hb dX11_judge_39 rfl (lv_at hl 2 rfl) ?_
          refine lv_iload_n hx hb dX11_judge_40 rfl (lv_at hl 1 rfl) ?_
          refine sg_calli (va_runV (As := [.int v_1]) (rest := []) ⟨hx, hb, hml, hown, hts⟩ (kX11_refusalOf l D ca za h hh f L Q hI v_1 ⟨by omega, by omega⟩ H.size) (sl_c11_refusalOf_0_0_0_0_11 hts ⟨Nat.le_of_ble_eq_true rfl, Nat.le_of_ble_eq_true rfl⟩) (sl_vX_0 hA hK hP hS hZ) rfl rfl hl.1 rfl (lv_room (Nat.le_of_ble_eq_true rfl)) dX11_judge_41 ⟨Nat.le_refl _, Nat.le_refl _⟩) hA hS (fun r_28 f_25 L_26 Q_27 H locs hq hP hS => ?_)
          obtain ⟨⟨ef9, eL9, eQ9⟩, hq, u_29⟩ := hq
          rw [ef9, eL9, eQ9] at hP; clear ef9 eL9 eQ9
          refine lv_istore (lv' := [(5, .int r_28), (4, .int v_3), (3, .int v_1), (0, .ref (h 0)), (1, .int x0), (2, .int x1)]) hx hb dX11_judge_44 hl (by decide) rfl (fun ls hl => ?_)
          refine lv_aload_n hx hb dX11_judge_46 rfl (lv_at hl 3 rfl) ?_
          refine lv_iload hx hb dX11_judge_47 (lv_at hl 1 rfl) ?_
          refine sg_calli (va_runV (As := [.int v_3]) (rest := []) ⟨hx, hb, hml, hown, hts⟩ (kX11_refusalOf l D ca za h hh f L Q hI v_3 ⟨by omega, by omega⟩ H.size) (sl_c11_refusalOf_0_0_0_0_11 hts ⟨Nat.le_of_ble_eq_true rfl, Nat.le_of_ble_eq_true rfl⟩) (sl_vX_0 hA hK hP hS hZ) rfl rfl hl.1 rfl (lv_room (Nat.le_of_ble_eq_true rfl)) dX11_judge_49 ⟨Nat.le_refl _, Nat.le_refl _⟩) hA hS (fun r_33 f_30 L_31 Q_32 H locs hq hP hS => ?_)
          obtain ⟨⟨ef9, eL9, eQ9⟩, hq, u_34⟩ := hq
          replace hs := hs.trans ((if_pos rfl).trans (spl_e u_29 (spl_e u_34 rfl)))
          rw [ef9, eL9, eQ9] at hP; clear ef9 eL9 eQ9
          refine lv_istore (lv' := [(6, .int r_33), (5, .int r_28), (4, .int v_3), (3, .int v_1), (0, .ref (h 0)), (1, .int x0), (2, .int x1)]) hx hb dX11_judge_52 hl (by decide) rfl (fun ls hl => ?_)
          refine lv_iload hx hb dX11_judge_54 (lv_at hl 1 rfl) ?_
          refine lv_bipush (v := (-11)) hx hb dX11_judge_56 bp_m11 ?_
          refine lv_icmp_eq (tgt := 68) hx hb dX11_judge_58 (by decide) (fun c => ?_) (fun c => ?_)
          · skip
            have c_35 : r_28.toInt = (-11) := (by first | exact (cm_eq1 ti_m11 c) | (have z := Int32.toInt_inj.mpr c; have k1 : ((-11) : Int32).toInt = (-11) := ti_m11; omega))
            refine lv_bipush (v := (-11)) hx hb dX11_judge_68 bp_m11 ?_
            have k99 : ((-11) : Int32).toInt = (-11) := ti_m11
            exact hret _ _ _ _ (-11) f L Q dX11_judge_70 hP hS ⟨⟨hI, hF, rfl, rfl⟩, (by decide), (Eq.trans (Eq.symm (hs.trans ((if_pos c_35).trans rfl))) hsp)⟩
          · skip
            have c_36 : r_28.toInt ≠ (-11) := (by first | exact (cm_ne1 ti_m11 c) | (have z := bn_ne c; have k1 : ((-11) : Int32).toInt = (-11) := ti_m11; omega))
            replace hs := hs.trans ((if_neg c_36).trans rfl)
            refine lv_iload hx hb dX11_judge_61 (lv_at hl 0 rfl) ?_
            refine lv_bipush (v := (-11)) hx hb dX11_judge_63 bp_m11 ?_
            refine lv_icmp_ne (tgt := 71) hx hb dX11_judge_65 (by decide) (fun c => ?_) (fun c => ?_)
            · skip
              have c_37 : r_33.toInt ≠ (-11) := (by first | exact (cm_ne1 ti_m11 c) | (have z := bn_ne c; have k1 : ((-11) : Int32).toInt = (-11) := ti_m11; omega))
              replace hs := hs.trans ((if_neg c_37).trans rfl)
              refine lv_iload hx hb dX11_judge_71 (lv_at hl 1 rfl) ?_
              refine lv_if_ne (tgt := 81) hx hb dX11_judge_73 (by decide) (fun c => ?_) (fun c => ?_)
              · skip
                have c_39 : r_28.toInt ≠ 0 := (by first | exact (cm_ne1 ti_0 c) | (have z := bn_ne c; have k1 : (0 : Int32).toInt = 0 := ti_0; omega))
                refine lv_bipush (v := (-12)) hx hb dX11_judge_81 bp_m12 ?_
                have k99 : ((-12) : Int32).toInt = (-12) := ti_m12
                exact hret _ _ _ _ (-12) f L Q dX11_judge_83 hP hS ⟨⟨hI, hF, rfl, rfl⟩, (by decide), (Eq.trans (Eq.symm (hs.trans ((if_neg c_39).trans rfl))) hsp)⟩
              · skip
                have c_40 : r_28.toInt = 0 := (by first | exact (cm_eq1 ti_0 c) | (have z := Int32.toInt_inj.mpr c; have k1 : (0 : Int32).toInt = 0 := ti_0; omega))
                replace hs := hs.trans ((if_pos c_40).trans rfl)
                refine lv_iload hx hb dX11_judge_76 (lv_at hl 0 rfl) ?_
                refine lv_if_eq (tgt := 84) hx hb dX11_judge_78 (by decide) (fun c => ?_) (fun c => ?_)
                · skip
                  have c_41 : r_33.toInt = 0 := (by first | exact (cm_eq1 ti_0 c) | (have z := Int32.toInt_inj.mpr c; have k1 : (0 : Int32).toInt = 0 := ti_0; omega))
                  refine lv_aload_n hx hb dX11_judge_84 rfl (lv_at hl 4 rfl) ?_
                  refine lv_iload_n hx hb dX11_judge_85 rfl (lv_at hl 3 rfl) ?_
                  refine sg_calli (va_runV (As := [.int v_1]) (rest := []) ⟨hx, hb, hml, hown, hts⟩ (kX11_readWeek l D ca za h hh f L Q hI v_1 ⟨by omega, by omega⟩ H.size) (sl_c11_readWeek_2_0_0_45_11 hts ⟨Nat.le_of_ble_eq_true rfl, Nat.le_of_ble_eq_true rfl⟩) (sl_vX_0 hA hK hP hS hZ) rfl rfl hl.1 rfl (lv_room (Nat.le_of_ble_eq_true rfl)) dX11_judge_86 ⟨Nat.le_refl _, Nat.le_refl _⟩) hA hS (fun r_46 f_43 L_44 Q_45 H locs hq hP hS => ?_)
                  obtain ⟨⟨hI, hk_f_43, eL9, eQ9⟩, hq, u_47⟩ := hq
                  rw [eL9, eQ9] at hP; clear eL9 eQ9
                  have hF : sgK WkX11_judge f f_43 := sgK.tr hF hk_f_43 (by decide +kernel)
                  refine lv_pop hx hb dX11_judge_89 rfl ?_
                  refine lv_aload_n hx hb dX11_judge_90 rfl (lv_at hl 4 rfl) ?_
                  refine lv_aload_n hx hb dX11_judge_91 rfl (lv_at hl 4 rfl) ?_
                  refine sl_gX_0_9_11 hx hb hts hown hK hP dX11_judge_92 ?_
                  refine lv_iload hx hb dX11_judge_95 (lv_at hl 2 rfl) ?_
                  obtain ⟨t_48, et_48⟩ : ∃ z : Nat, z = v_3.toNatClampNeg := ⟨_, rfl⟩
                  have ht_t_48 : t_48 < 6 := by rw [et_48]; exact bn_kI (by omega) (by omega)
                  refine sg_aald hx hb hK hP 39 (by decide) 3 rfl rfl (i := v_3) (a := (h (40 + 2 * t_48))) (vp_in_iff.mpr ⟨by omega, by omega⟩) (show (if v_3.toNatClampNeg < 6 then some (h (40 + 2 * v_3.toNatClampNeg)) else none) = some (h (40 + 2 * t_48)) from by rw [← et_48, if_pos ht_t_48]) dX11_judge_97 ?_
                  refine lv_iload_n hx hb dX11_judge_98 rfl (lv_at hl 6 rfl) ?_
                  refine sg_calli (va_runV (As := [.ref (h (40 + 2 * t_48)), .int x1]) (rest := []) ⟨hx, hb, hml, hown, hts⟩ (kX11_firstUnlike l D ca za h hh f_43 L Q hI t_48 ht_t_48 x1 ⟨by omega, by omega⟩ H.size) (sl_c11_firstUnlike_6_0_0_148_11 hts ⟨Nat.le_of_ble_eq_true rfl, Nat.le_of_ble_eq_true rfl⟩) (sl_vX_0 hA hK hP hS hZ) rfl rfl hl.1 rfl (lv_room (Nat.le_of_ble_eq_true rfl)) dX11_judge_99 ⟨Nat.le_refl _, Nat.le_refl _⟩) hA hS (fun r_52 f_49 L_50 Q_51 H locs hq hP hS => ?_)
                  obtain ⟨⟨hI, hk_f_49, eL9, eQ9⟩, hq, u_53⟩ := hq
                  rw [eL9, eQ9] at hP; clear eL9 eQ9
                  have hF : sgK WkX11_judge f f_49 := sgK.tr hF hk_f_49 (by decide +kernel)
                  exact hret _ _ _ _ (r_52) f_49 L Q dX11_judge_102 hP hS ⟨⟨hI, hF, rfl, rfl⟩, ⟨by omega, by omega⟩, (Eq.trans (Eq.symm (hs.trans ((if_pos c_41).trans (spl2_e u_47 (spl_e et_48 (spl2_e u_53 rfl)))))) hsp)⟩
                · skip
                  have c_42 : r_33.toInt ≠ 0 := (by first | exact (cm_ne1 ti_0 c) | (have z := bn_ne c; have k1 : (0 : Int32).toInt = 0 := ti_0; omega))
                  refine lv_bipush (v := (-12)) hx hb dX11_judge_81 bp_m12 ?_
                  have k99 : ((-12) : Int32).toInt = (-12) := ti_m12
                  exact hret _ _ _ _ (-12) f L Q dX11_judge_83 hP hS ⟨⟨hI, hF, rfl, rfl⟩, (by decide), (Eq.trans (Eq.symm (hs.trans ((if_neg c_42).trans rfl))) hsp)⟩
            · skip
              have c_38 : r_33.toInt = (-11) := (by first | exact (cm_eq1 ti_m11 c) | (have z := Int32.toInt_inj.mpr c; have k1 : ((-11) : Int32).toInt = (-11) := ti_m11; omega))
              refine lv_bipush (v := (-11)) hx hb dX11_judge_68 bp_m11 ?_
              have k99 : ((-11) : Int32).toInt = (-11) := ti_m11
              exact hret _ _ _ _ (-11) f L Q dX11_judge_70 hP hS ⟨⟨hI, hF, rfl, rfl⟩, (by decide), (Eq.trans (Eq.symm (hs.trans ((if_pos c_38).trans rfl))) hsp)⟩
        · skip
          have hc_24 := hq
          refine lv_if_ne (tgt := 39) hx hb dX11_judge_34 (by decide) (fun c => absurd c (by decide)) (fun c => ?_)
          refine lv_iconst (v := (-1)) hx hb dX11_judge_37 ic_m1 ?_
          have k99 : ((-1) : Int32).toInt = (-1) := ti_m1
          exact hret _ _ _ _ (-1) f L Q dX11_judge_38 hP hS ⟨⟨hI, hF, rfl, rfl⟩, (by decide), (Eq.trans (Eq.symm (hs.trans ((if_neg (by decide)).trans rfl))) hsp)⟩
      · skip
        have hc_18 := hq
        refine lv_if_eq (tgt := 37) hx hb dX11_judge_27 (by decide) (fun c => ?_) (fun c => absurd c (by decide))
        refine lv_iconst (v := (-1)) hx hb dX11_judge_37 ic_m1 ?_
        have k99 : ((-1) : Int32).toInt = (-1) := ti_m1
        exact hret _ _ _ _ (-1) f L Q dX11_judge_38 hP hS ⟨⟨hI, hF, rfl, rfl⟩, (by decide), (Eq.trans (Eq.symm (hs.trans ((if_neg (by decide)).trans rfl))) hsp)⟩
    · skip
      have hc_12 := hq
      refine lv_if_eq (tgt := 37) hx hb dX11_judge_19 (by decide) (fun c => ?_) (fun c => absurd c (by decide))
      refine lv_iconst (v := (-1)) hx hb dX11_judge_37 ic_m1 ?_
      have k99 : ((-1) : Int32).toInt = (-1) := ti_m1
      exact hret _ _ _ _ (-1) f L Q dX11_judge_38 hP hS ⟨⟨hI, hF, rfl, rfl⟩, (by decide), (Eq.trans (Eq.symm (hs.trans ((if_neg (by decide)).trans rfl))) hsp)⟩

abbrev WkX4_drawWeeks : List (Nat × Nat × Option Nat) := [(8, 8, none), (9, 9, none), (13, 13, some 5), (13, 13, some 6), (14, 14, none), (15, 15, none), (16, 16, none)]
set_option maxHeartbeats 4000000 in
set_option maxRecDepth 100000 in
theorem kX4_drawWeeks (l : Launch) (D : va_G) (ca : Nat → ClassId) (za h : Nat → Nat) (hh : sgH 52 h) (f : sg_F) (L : sg_L) (Q : sg_Q) (hI : sgI loX hiX f) (x0 : Int32) (x1 : Int32) (b1 : 1 ≤ x1.toInt ∧ x1.toInt ≤ 20) (sz : Nat) : Met l yX4_drawWeeks gwX4_drawWeeks { frames := 6, cells := 0, slots := 0, locals := 148 } (sgP D vwCl (tyX ca) 52 h (eX ca h) zcX za f L Q sz [.ref (h 13), .int x0, .int x1]) (sgQi D vwCl 52 h (eX ca h) sz (fun r f1 L1 Q1 => ((sgI loX hiX f1 ∧ sgK WkX4_drawWeeks f f1 ∧ L1 = L ∧ Q1 = Q) ∧ True ∧ (r, f1) = sX4_drawWeeks x0 x1 f L))) 0 0 (sgA 52 h sz) := by
  refine sg_ofWi (cc := cX4_drawWeeks) (maxL := 8) RX4 (by decide) rfl rfl (Nat.le_of_ble_eq_true rfl) ?_
  intro p e s m below meth cd Qz ls hx hb hml hown hts hK hZ hP hS hl hret
  have hA := sgY.self (n := 52) (h := h) (sz := s.heap.size)
  have hl : lv_has ls 8 [(0, .ref (h 13)), (1, .int x0), (2, .int x1)] := hl
  obtain ⟨H, hH⟩ : ∃ z : Heap, z = s.heap := ⟨_, rfl⟩
  obtain ⟨locs, hlo⟩ : ∃ z : List Loc, z = [] := ⟨_, rfl⟩
  have hP : va_P D vwCl (sgw 52 h (eX ca h) f L Q) H := by rw [hH]; exact hP
  have hS : va_S (sgA 52 h s.heap.size) s.heap H locs := by rw [hH, hlo]; exact hS
  suffices hgo : W p l e ({ frames := 6, cells := 0, slots := 0, locals := 148 }) s m ([.ref (h 13), .int x0, .int x1] : List Value).toArray below meth cd H locs 0 0 Qz (F0 m 0 ls []) by rw [hH, hlo] at hgo; exact hgo
  clear hH hlo
  obtain ⟨sp, hsp⟩ : ∃ z : Int32 × sg_F, z = sX4_drawWeeks x0 x1 f L := ⟨_, rfl⟩
  have hs : sp = sX4_drawWeeks x0 x1 f L := hsp
  have hF : sgK WkX4_drawWeeks f f := sgK.rf
  have loop_12 : ∀ (n_12 : Nat) (y3_12 : Int32) (y4_12 : Int32) (y5_12 : Int32) (fp_12 : sg_F) (H : Heap) (locs : List Loc) (ls : Array Slot), sp = sX4_drawWeeks_l12 x0 x1 n_12 y3_12 y4_12 y5_12 fp_12 L → 20 - y5_12.toInt < (n_12 : Int) → 0 ≤ y5_12.toInt ∧ y5_12.toInt ≤ 20 → sgI loX hiX fp_12 → sgK WkX4_drawWeeks f fp_12 → va_P D vwCl (sgw 52 h (eX ca h) fp_12 L Q) H → va_S (sgA 52 h s.heap.size) s.heap H locs → lv_has ls 8 [(0, .ref (h 13)), (2, .int x1), (3, .int y3_12), (4, .int y4_12), (5, .int y5_12)] → W p l e ({ frames := 6, cells := 0, slots := 0, locals := 148 }) s m ([.ref (h 13), .int x0, .int x1] : List Value).toArray below meth cd H locs 0 0 Qz (F0 m 12 ls []) := by
    intro n_12
    induction n_12 with
    | zero => intro y3_12 y4_12 y5_12 fp_12 H locs ls hs hm_12 hy0_12 hI hF hP hS hl; exact absurd hm_12 (by omega)
    | succ n_12 ih_12 =>
      have loop_25 : ∀ (n_25 : Nat) (y3_25 : Int32) (y4_25 : Int32) (y5_25 : Int32) (y6_25 : Int32) (fp_25 : sg_F) (H : Heap) (locs : List Loc) (ls : Array Slot), sp = sX4_drawWeeks_l25 (sX4_drawWeeks_l12 x0 x1 n_12) x0 x1 n_25 y3_25 y4_25 y5_25 y6_25 fp_25 L → 21 - y6_25.toInt < (n_25 : Int) → 20 - y5_25.toInt < ((n_12 + 1 : Nat) : Int) → 0 ≤ y5_25.toInt ∧ y5_25.toInt ≤ 19 → 0 ≤ y6_25.toInt ∧ y6_25.toInt ≤ 21 → sgI loX hiX fp_25 → sgK WkX4_drawWeeks f fp_25 → va_P D vwCl (sgw 52 h (eX ca h) fp_25 L Q) H → va_S (sgA 52 h s.heap.size) s.heap H locs → lv_has ls 8 [(0, .ref (h 13)), (2, .int x1), (3, .int y3_25), (4, .int y4_25), (5, .int y5_25), (6, .int y6_25)] → W p l e ({ frames := 6, cells := 0, slots := 0, locals := 148 }) s m ([.ref (h 13), .int x0, .int x1] : List Value).toArray below meth cd H locs 0 0 Qz (F0 m 25 ls []) := by
        intro n_25
        induction n_25 with
        | zero => intro y3_25 y4_25 y5_25 y6_25 fp_25 H locs ls hs hm_25 hm_12 hy0_25 hy1_25 hI hF hP hS hl; exact absurd hm_25 (by omega)
        | succ n_25 ih_25 =>
          have blk_91 : ∀ (y3_91 : Int32) (y4_91 : Int32) (y5_91 : Int32) (y6_91 : Int32) (y7_91 : Int32) (fp_91 : sg_F) (H : Heap) (locs : List Loc) (ls : Array Slot), sp = sX4_drawWeeks_b91 (sX4_drawWeeks_l12 x0 x1 n_12) (sX4_drawWeeks_l25 (sX4_drawWeeks_l12 x0 x1 n_12) x0 x1 n_25) x0 x1 y3_91 y4_91 y5_91 y6_91 y7_91 fp_91 L → 20 - y5_91.toInt < ((n_12 + 1 : Nat) : Int) → 21 - y6_91.toInt < ((n_25 + 1 : Nat) : Int) → 1 ≤ (fp_91 10 2).toInt ∧ (fp_91 10 2).toInt ≤ 21 → 0 ≤ y5_91.toInt ∧ y5_91.toInt ≤ 19 → 0 ≤ y6_91.toInt ∧ y6_91.toInt ≤ 20 → (-1) ≤ y7_91.toInt ∧ y7_91.toInt ≤ 7 → sgI loX hiX fp_91 → sgK WkX4_drawWeeks f fp_91 → va_P D vwCl (sgw 52 h (eX ca h) fp_91 L Q) H → va_S (sgA 52 h s.heap.size) s.heap H locs → lv_has ls 8 [(0, .ref (h 13)), (2, .int x1), (3, .int y3_91), (4, .int y4_91), (5, .int y5_91), (6, .int y6_91), (7, .int y7_91)] → W p l e ({ frames := 6, cells := 0, slots := 0, locals := 148 }) s m ([.ref (h 13), .int x0, .int x1] : List Value).toArray below meth cd H locs 0 0 Qz (F0 m 91 ls []) := by
            intro y3_91 y4_91 y5_91 y6_91 y7_91 fp_91 H locs ls hs hm_12 hm_25 hy0_91 hy1_91 hy2_91 hy3_91 hI hF hP hS hl
            obtain ⟨v_1, ev_1⟩ : ∃ z : Int32, z = fp_91 10 2 := ⟨_, rfl⟩
            have q_2 : 0 ≤ v_1.toInt ∧ v_1.toInt ≤ 21 := by rw [ev_1]; exact hI 10 2
            have q_3 : (fp_91 10 2).toInt = v_1.toInt := by rw [ev_1]
            refine lv_aload_n hx hb dX4_drawWeeks_91 rfl (lv_at hl 0 rfl) ?_
            refine lv_iload hx hb dX4_drawWeeks_92 (lv_at hl 6 rfl) ?_
            refine sg_callv (va_runV (As := [.int y7_91]) (rest := []) ⟨hx, hb, hml, hown, hts⟩ (kX4_pass l D ca za h hh fp_91 L Q hI y7_91 hy3_91 H.size) (sl_c4_pass_5_0_0_127_4 hts ⟨Nat.le_of_ble_eq_true rfl, Nat.le_of_ble_eq_true rfl⟩) (sl_vX_13 hA hK hP hS hZ) rfl rfl hl.1 rfl (lv_room (Nat.le_of_ble_eq_true rfl)) dX4_drawWeeks_94 ⟨Nat.le_refl _, Nat.le_refl _⟩) hA hS (fun f_4 L_5 Q_6 H locs hq hP hS => ?_)
            obtain ⟨⟨hI, hk_f_4, eL9, eQ9⟩, u_7⟩ := hq
            rw [eL9, eQ9] at hP; clear eL9 eQ9
            have hF : sgK WkX4_drawWeeks f f_4 := sgK.tr hF hk_f_4 (by decide +kernel)
            obtain ⟨v_8, ev_8⟩ : ∃ z : Int32, z = y6_91 + 1 := ⟨_, rfl⟩
            have q_9 : v_8.toInt = y6_91.toInt + 1 := by rw [ev_8]; exact (bn_addc y6_91 1 (by decide) (by omega) (by omega))
            refine lv_iinc (v := v_8) (lv' := [(6, .int v_8), (0, .ref (h 13)), (2, .int x1), (3, .int y3_91), (4, .int y4_91), (5, .int y5_91), (7, .int y7_91)]) hx hb dX4_drawWeeks_97 hl (k := 5) rfl (by rw [ev_8]; rfl) (by decide) rfl (fun ls hl => ?_)
            refine lv_goto (tgt := 25) hx hb dX4_drawWeeks_100 (by decide) ?_
            exact ih_25 y3_91 y4_91 y5_91 v_8 f_4 _ _ _ (hs.trans ((spl_e ev_1 (spl_e u_7 (spl_e ev_8 rfl))))) (by omega) hm_12 hy1_91 ⟨by omega, by omega⟩ hI hF hP hS (lv_sub hl [1, 2, 3, 4, 5, 0] rfl)
          intro y3_25 y4_25 y5_25 y6_25 fp_25 H locs ls hs hm_25 hm_12 hy0_25 hy1_25 hI hF hP hS hl
          have hs : sp = sX4_drawWeeks_h25 (sX4_drawWeeks_l12 x0 x1 n_12) x0 x1 (sX4_drawWeeks_l25 (sX4_drawWeeks_l12 x0 x1 n_12) x0 x1 n_25) y3_25 y4_25 y5_25 y6_25 fp_25 L := hs
          refine lv_iload hx hb dX4_drawWeeks_25 (lv_at hl 5 rfl) ?_
          refine lv_aload_n hx hb dX4_drawWeeks_27 rfl (lv_at hl 0 rfl) ?_
          refine sl_gX_13_1_4 hx hb hts hown hK hP dX4_drawWeeks_28 ?_
          refine sl_gX_10_2_4 (v := (fp_25 10 2)) hx hb hts hown hK hP rfl dX4_drawWeeks_31 ?_
          refine lv_topi (fun v_10 ev_10 => ?_)
          replace hs := hs.trans (spl_e ev_10 rfl)
          have q_11 : 0 ≤ v_10.toInt ∧ v_10.toInt ≤ 21 := by rw [ev_10]; exact hI 10 2
          refine lv_icmp_ge (tgt := 103) hx hb dX4_drawWeeks_34 (by decide) (fun c => ?_) (fun c => ?_)
          · skip
            have c_12 : v_10.toInt ≤ y6_25.toInt := (by first | exact (bn_le c) | (have z := bn_le c; omega))
            obtain ⟨v_14, ev_14⟩ : ∃ z : Int32, z = y5_25 + 1 := ⟨_, rfl⟩
            have q_15 : v_14.toInt = y5_25.toInt + 1 := by rw [ev_14]; exact (bn_addc y5_25 1 (by decide) (by omega) (by omega))
            refine lv_iinc (v := v_14) (lv' := [(5, .int v_14), (0, .ref (h 13)), (2, .int x1), (3, .int y3_25), (4, .int y4_25), (6, .int y6_25)]) hx hb dX4_drawWeeks_103 hl (k := 4) rfl (by rw [ev_14]; rfl) (by decide) rfl (fun ls hl => ?_)
            refine lv_goto (tgt := 12) hx hb dX4_drawWeeks_106 (by decide) ?_
            exact ih_12 y3_25 y4_25 v_14 fp_25 _ _ _ (hs.trans ((if_neg (Int.not_lt.mpr c_12)).trans (spl_e ev_14 rfl))) (by omega) ⟨by omega, by omega⟩ hI hF hP hS (lv_sub hl [1, 2, 3, 4, 0] rfl)
          · skip
            have c_13 : y6_25.toInt < v_10.toInt := (by first | exact (bn_nle c) | (have z := bn_nle c; omega))
            refine lv_aload_n hx hb dX4_drawWeeks_37 rfl (lv_at hl 0 rfl) ?_
            refine sl_gX_13_1_4 hx hb hts hown hK hP dX4_drawWeeks_38 ?_
            refine sl_gX_10_0_4 hx hb hts hown hK hP dX4_drawWeeks_41 ?_
            refine lv_iload hx hb dX4_drawWeeks_44 (lv_at hl 5 rfl) ?_
            refine sg_iald hx hb hK hP 11 (by decide) 0 rfl rfl (i := y6_25) (vp_in_iff.mpr ⟨by omega, by omega⟩) dX4_drawWeeks_46 ?_
            refine lv_topi (fun v_16 ev_16 => ?_)
            replace hs := hs.trans ((if_pos c_13).trans (spl_e ev_16 rfl))
            have q_17 : (-1) ≤ v_16.toInt ∧ v_16.toInt ≤ 7 := by rw [ev_16]; exact hI 11 _
            refine lv_istore (lv' := [(7, .int v_16), (0, .ref (h 13)), (2, .int x1), (3, .int y3_25), (4, .int y4_25), (5, .int y5_25), (6, .int y6_25)]) hx hb dX4_drawWeeks_47 hl (by decide) rfl (fun ls hl => ?_)
            refine lv_iload hx hb dX4_drawWeeks_49 (lv_at hl 0 rfl) ?_
            refine lv_iconst (v := (-1)) hx hb dX4_drawWeeks_51 ic_m1 ?_
            refine lv_icmp_eq (tgt := 91) hx hb dX4_drawWeeks_52 (by decide) (fun c => ?_) (fun c => ?_)
            · skip
              have c_18 : v_16.toInt = (-1) := (by first | exact (cm_eq1 ti_m1 c) | (have z := Int32.toInt_inj.mpr c; have k1 : ((-1) : Int32).toInt = (-1) := ti_m1; omega))
              exact blk_91 y3_25 y4_25 y5_25 y6_25 v_16 fp_25 _ _ _ (hs.trans ((if_pos c_18).trans rfl)) hm_12 (by omega) (by have zz10_2 : (fp_25 10 2).toInt = v_10.toInt := (congrArg Int32.toInt (show fp_25 10 2 = v_10 from ev_10.symm)); exact ⟨by omega, by omega⟩) hy0_25 ⟨by omega, by omega⟩ q_17 hI hF hP hS (lv_sub hl [1, 2, 3, 4, 5, 6, 0] rfl)
            · skip
              have c_19 : v_16.toInt ≠ (-1) := (by first | exact (cm_ne1 ti_m1 c) | (have z := bn_ne c; have k1 : ((-1) : Int32).toInt = (-1) := ti_m1; omega))
              refine lv_iload_n hx hb dX4_drawWeeks_55 rfl (lv_at hl 3 rfl) ?_
              refine lv_ldc (v := 1103515245) hx hb hown (hts _ (List.mem_cons_of_mem _ mw_250)) dX4_drawWeeks_56 ?_
              refine lv_imul hx hb dX4_drawWeeks_58 ?_
              refine lv_topi (fun v_20 ev_20 => ?_)
              refine lv_sipush (v := 12345) hx hb dX4_drawWeeks_59 (by decide) ?_
              refine lv_iadd hx hb dX4_drawWeeks_62 ?_
              refine lv_topi (fun v_21 ev_21 => ?_)
              refine lv_istore_n (lv' := [(3, .int v_21), (7, .int v_16), (0, .ref (h 13)), (2, .int x1), (4, .int y4_25), (5, .int y5_25), (6, .int y6_25)]) hx hb dX4_drawWeeks_63 rfl hl (by decide) rfl (fun ls hl => ?_)
              refine lv_iload_n hx hb dX4_drawWeeks_64 rfl (lv_at hl 0 rfl) ?_
              refine lv_bipush (v := 8) hx hb dX4_drawWeeks_65 bp_8 ?_
              obtain ⟨v_22, ev_22⟩ : ∃ z : Int32, z = (Int32.toUInt32 v_21 >>> (Int32.toUInt32 8 &&& Int32.toUInt32 31)).toInt32 := ⟨_, rfl⟩
              refine lv_iushr (v := v_22) hx hb dX4_drawWeeks_67 ev_22.symm ?_
              refine lv_bipush (v := 12) hx hb dX4_drawWeeks_68 bp_12 ?_
              refine lv_irem hx hb dX4_drawWeeks_70 (by decide) ?_
              refine lv_topi (fun v_23 ev_23 => ?_)
              have q_24 : 0 ≤ v_22.toInt → v_23.toInt = v_22.toInt % 12 := fun z => by rw [ev_23]; exact bn_remI z (by decide) (by decide)
              refine lv_aload_n hx hb dX4_drawWeeks_71 rfl (lv_at hl 2 rfl) ?_
              refine sl_gX_13_0_4 hx hb hts hown hK hP dX4_drawWeeks_72 ?_
              refine lv_iload hx hb dX4_drawWeeks_75 (lv_at hl 1 rfl) ?_
              refine lv_bipush (v := 7) hx hb dX4_drawWeeks_77 bp_7 ?_
              refine sg_calli (va_runV (As := [.int v_16, .int 7]) (rest := [.int v_23]) ⟨hx, hb, hml, hown, hts⟩ (kX0_numberOf l D ca za h hh fp_25 L Q hI v_16 7 ⟨by omega, by omega⟩ (by decide) H.size) (sl_c0_numberOf_0_0_0_0_4 hts ⟨Nat.le_of_ble_eq_true rfl, Nat.le_of_ble_eq_true rfl⟩) (sl_vX_1 hA hK hP hS hZ) rfl rfl hl.1 rfl (lv_room (Nat.le_of_ble_eq_true rfl)) dX4_drawWeeks_79 ⟨Nat.le_refl _, Nat.le_refl _⟩) hA hS (fun r_28 f_25 L_26 Q_27 H locs hq hP hS => ?_)
              obtain ⟨⟨ef9, eL9, eQ9⟩, hq, u_29⟩ := hq
              replace hs := hs.trans ((if_neg c_19).trans (spl_e ev_20 (spl_e ev_21 (spl_e ev_22 (spl_e ev_23 (spl_e u_29 rfl))))))
              rw [ef9, eL9, eQ9] at hP; clear ef9 eL9 eQ9
              refine lv_icmp_ge (tgt := 91) hx hb dX4_drawWeeks_82 (by decide) (fun c => ?_) (fun c => ?_)
              · skip
                have c_30 : r_28.toInt ≤ v_23.toInt := (by first | exact (bn_le c) | (have z := bn_le c; omega))
                exact blk_91 v_21 y4_25 y5_25 y6_25 v_16 fp_25 _ _ _ (hs.trans ((if_neg (Int.not_lt.mpr c_30)).trans rfl)) hm_12 (by omega) (by have zz10_2 : (fp_25 10 2).toInt = v_10.toInt := (congrArg Int32.toInt (show fp_25 10 2 = v_10 from ev_10.symm)); exact ⟨by omega, by omega⟩) hy0_25 ⟨by omega, by omega⟩ q_17 hI hF hP hS (lv_sub hl [2, 3, 0, 4, 5, 6, 1] rfl)
              · skip
                have c_31 : v_23.toInt < r_28.toInt := (by first | exact (bn_nle c) | (have z := bn_nle c; omega))
                refine lv_iconst (v := (-1)) hx hb dX4_drawWeeks_85 ic_m1 ?_
                refine lv_istore (lv' := [(7, .int (-1)), (3, .int v_21), (0, .ref (h 13)), (2, .int x1), (4, .int y4_25), (5, .int y5_25), (6, .int y6_25)]) hx hb dX4_drawWeeks_86 hl (by decide) rfl (fun ls hl => ?_)
                obtain ⟨v_32, ev_32⟩ : ∃ z : Int32, z = y4_25 + 1 := ⟨_, rfl⟩
                refine lv_iinc (v := v_32) (lv' := [(4, .int v_32), (7, .int (-1)), (3, .int v_21), (0, .ref (h 13)), (2, .int x1), (5, .int y5_25), (6, .int y6_25)]) hx hb dX4_drawWeeks_88 hl (k := 4) rfl (by rw [ev_32]; rfl) (by decide) rfl (fun ls hl => ?_)
                exact blk_91 v_21 v_32 y5_25 y6_25 (-1) fp_25 _ _ _ (hs.trans ((if_pos c_31).trans (spl_e ev_32 rfl))) (by have kc4 : ((-1) : Int32).toInt = (-1) := ti_m1; omega) (by have kc4 : ((-1) : Int32).toInt = (-1) := ti_m1; omega) (by have zz10_2 : (fp_25 10 2).toInt = v_10.toInt := (congrArg Int32.toInt (show fp_25 10 2 = v_10 from ev_10.symm)); exact ⟨by omega, by omega⟩) hy0_25 ⟨by omega, by omega⟩ (by decide) hI hF hP hS (lv_sub hl [3, 4, 2, 0, 5, 6, 1] rfl)
      intro y3_12 y4_12 y5_12 fp_12 H locs ls hs hm_12 hy0_12 hI hF hP hS hl
      have hs : sp = sX4_drawWeeks_h12 x0 x1 (sX4_drawWeeks_l12 x0 x1 n_12) y3_12 y4_12 y5_12 fp_12 L := hs
      refine lv_iload hx hb dX4_drawWeeks_12 (lv_at hl 4 rfl) ?_
      refine lv_iload_n hx hb dX4_drawWeeks_14 rfl (lv_at hl 1 rfl) ?_
      refine lv_icmp_ge (tgt := 109) hx hb dX4_drawWeeks_15 (by decide) (fun c => ?_) (fun c => ?_)
      · skip
        have c_33 : x1.toInt ≤ y5_12.toInt := (by first | exact (bn_le c) | (have z := bn_le c; omega))
        refine lv_iload hx hb dX4_drawWeeks_109 (lv_at hl 3 rfl) ?_
        exact hret _ _ _ _ (y4_12) fp_12 L Q dX4_drawWeeks_111 hP hS ⟨⟨hI, hF, rfl, rfl⟩, trivial, (Eq.trans (Eq.symm (hs.trans (((if_neg (Int.not_lt.mpr c_33)).trans rfl)))) hsp)⟩
      · skip
        have c_34 : y5_12.toInt < x1.toInt := (by first | exact (bn_nle c) | (have z := bn_nle c; omega))
        refine lv_aload_n hx hb dX4_drawWeeks_18 rfl (lv_at hl 0 rfl) ?_
        refine sg_callv (va_runV (As := []) (rest := []) ⟨hx, hb, hml, hown, hts⟩ (kX4_standAsNow l D ca za h hh fp_12 L Q hI H.size) (sl_c4_standAsNow_0_0_0_0_4 hts ⟨Nat.le_of_ble_eq_true rfl, Nat.le_of_ble_eq_true rfl⟩) (sl_vX_13 hA hK hP hS hZ) rfl rfl hl.1 rfl (lv_room (Nat.le_of_ble_eq_true rfl)) dX4_drawWeeks_19 ⟨Nat.le_refl _, Nat.le_refl _⟩) hA hS (fun f_35 L_36 Q_37 H locs hq hP hS => ?_)
        obtain ⟨⟨hI, hk_f_35, eL9, eQ9⟩, u_38⟩ := hq
        rw [eL9, eQ9] at hP; clear eL9 eQ9
        have hF : sgK WkX4_drawWeeks f f_35 := sgK.tr hF hk_f_35 (by decide +kernel)
        refine lv_iconst (v := 0) hx hb dX4_drawWeeks_22 ic_0 ?_
        refine lv_istore (lv' := [(6, .int 0), (0, .ref (h 13)), (2, .int x1), (3, .int y3_12), (4, .int y4_12), (5, .int y5_12)]) hx hb dX4_drawWeeks_23 hl (by decide) rfl (fun ls hl => ?_)
        exact loop_25 22 y3_12 y4_12 y5_12 0 f_35 _ _ _ (hs.trans (((if_pos c_34).trans (spl_e u_38 rfl)))) (by have kc3 : (0 : Int32).toInt = 0 := ti_0; omega) (by have kc3 : (0 : Int32).toInt = 0 := ti_0; omega) ⟨by omega, by omega⟩ (by decide) hI hF hP hS (lv_sub hl [1, 2, 3, 4, 5, 0] rfl)
  refine lv_iload_n hx hb dX4_drawWeeks_0 rfl (lv_at hl 1 rfl) ?_
  refine lv_istore_n (lv' := [(3, .int x0), (0, .ref (h 13)), (1, .int x0), (2, .int x1)]) hx hb dX4_drawWeeks_1 rfl hl (by decide) rfl (fun ls hl => ?_)
  refine lv_iconst (v := 0) hx hb dX4_drawWeeks_2 ic_0 ?_
  refine lv_istore (lv' := [(4, .int 0), (3, .int x0), (0, .ref (h 13)), (1, .int x0), (2, .int x1)]) hx hb dX4_drawWeeks_3 hl (by decide) rfl (fun ls hl => ?_)
  refine lv_aload_n hx hb dX4_drawWeeks_5 rfl (lv_at hl 2 rfl) ?_
  refine sg_callv (va_runV (As := []) (rest := []) ⟨hx, hb, hml, hown, hts⟩ (kX4_begin l D ca za h hh f L Q hI H.size) (sl_c4_begin_1_0_0_21_4 hts ⟨Nat.le_of_ble_eq_true rfl, Nat.le_of_ble_eq_true rfl⟩) (sl_vX_13 hA hK hP hS hZ) rfl rfl hl.1 rfl (lv_room (Nat.le_of_ble_eq_true rfl)) dX4_drawWeeks_6 ⟨Nat.le_refl _, Nat.le_refl _⟩) hA hS (fun f_39 L_40 Q_41 H locs hq hP hS => ?_)
  obtain ⟨⟨hI, hk_f_39, eL9, eQ9⟩, u_42⟩ := hq
  rw [eL9, eQ9] at hP; clear eL9 eQ9
  have hF : sgK WkX4_drawWeeks f f_39 := sgK.tr hF hk_f_39 (by decide +kernel)
  refine lv_iconst (v := 0) hx hb dX4_drawWeeks_9 ic_0 ?_
  refine lv_istore (lv' := [(5, .int 0), (4, .int 0), (3, .int x0), (0, .ref (h 13)), (1, .int x0), (2, .int x1)]) hx hb dX4_drawWeeks_10 hl (by decide) rfl (fun ls hl => ?_)
  exact loop_12 21 x0 0 0 f_39 _ _ _ (hs.trans ((spl_e u_42 rfl))) (by have kc1 : (0 : Int32).toInt = 0 := ti_0; have kc2 : (0 : Int32).toInt = 0 := ti_0; omega) (by decide) hI hF hP hS (lv_sub hl [3, 5, 2, 1, 0] rfl)

abbrev WkX11_drawn : List (Nat × Nat × Option Nat) := [(8, 8, none), (9, 9, none), (10, 10, some 2), (10, 10, some 3), (11, 11, none), (12, 12, none), (13, 13, some 5), (13, 13, some 6), (14, 14, none), (15, 15, none), (16, 16, none)]
set_option maxHeartbeats 4000000 in
set_option maxRecDepth 100000 in
theorem kX11_drawn (l : Launch) (D : va_G) (ca : Nat → ClassId) (za h : Nat → Nat) (hh : sgH 52 h) (f : sg_F) (L : sg_L) (Q : sg_Q) (hI : sgI loX hiX f) (x0 : Int32) (x1 : Int32) (x2 : Int32) (x3 : Int32) (sz : Nat) : Met l yX11_drawn gwX11_drawn { frames := 7, cells := 0, slots := 0, locals := 175 } (sgP D vwCl (tyX ca) 52 h (eX ca h) zcX za f L Q sz [.ref (h 0), .int x0, .int x1, .int x2, .int x3]) (sgQi D vwCl 52 h (eX ca h) sz (fun r f1 L1 Q1 => ((sgI loX hiX f1 ∧ sgK WkX11_drawn f f1 ∧ L1 = L ∧ Q1 = Q) ∧ True ∧ (r, f1) = sX11_drawn x0 x1 x2 x3 f L))) 0 0 (sgA 52 h sz) := by
  refine sg_ofWi (cc := cX11_drawn) (maxL := 7) RX11 (by decide) rfl rfl (Nat.le_of_ble_eq_true rfl) ?_
  intro p e s m below meth cd Qz ls hx hb hml hown hts hK hZ hP hS hl hret
  have hA := sgY.self (n := 52) (h := h) (sz := s.heap.size)
  have hl : lv_has ls 7 [(0, .ref (h 0)), (1, .int x0), (2, .int x1), (3, .int x2), (4, .int x3)] := hl
  obtain ⟨H, hH⟩ : ∃ z : Heap, z = s.heap := ⟨_, rfl⟩
  obtain ⟨locs, hlo⟩ : ∃ z : List Loc, z = [] := ⟨_, rfl⟩
  have hP : va_P D vwCl (sgw 52 h (eX ca h) f L Q) H := by rw [hH]; exact hP
  have hS : va_S (sgA 52 h s.heap.size) s.heap H locs := by rw [hH, hlo]; exact hS
  suffices hgo : W p l e ({ frames := 7, cells := 0, slots := 0, locals := 175 }) s m ([.ref (h 0), .int x0, .int x1, .int x2, .int x3] : List Value).toArray below meth cd H locs 0 0 Qz (F0 m 0 ls []) by rw [hH, hlo] at hgo; exact hgo
  clear hH hlo
  obtain ⟨sp, hsp⟩ : ∃ z : Int32 × sg_F, z = sX11_drawn x0 x1 x2 x3 f L := ⟨_, rfl⟩
  have hs : sp = sX11_drawn x0 x1 x2 x3 f L := hsp
  have hF : sgK WkX11_drawn f f := sgK.rf
  refine lv_iload_n hx hb dX11_drawn_0 rfl (lv_at hl 1 rfl) ?_
  refine sg_calli (va_runS (As := [.int x0]) (rest := []) ⟨hx, hb, hml, hown, hts⟩ (kX11_isShelf l D ca za h hh f L Q hI x0 H.size) (va_cwS 1 hts (gw_S (fun _ h => List.mem_cons_of_mem _ h) mw_35 mw_36 mw_37 mw_34) rfl rfl rfl hd_yX11_isShelf.2 ⟨Nat.le_of_ble_eq_true rfl, Nat.le_of_ble_eq_true rfl⟩) (sg_preS hA hK hP hS hZ) rfl rfl hl.1 rfl (lv_room (Nat.le_of_ble_eq_true rfl)) dX11_drawn_1 ⟨Nat.le_refl _, Nat.le_refl _⟩) hA hS (fun r_4 f_1 L_2 Q_3 H locs hq hP hS => ?_)
  obtain ⟨⟨ef9, eL9, eQ9⟩, hq, u_5⟩ := hq
  replace hs := hs.trans (spl_e u_5 rfl)
  rw [ef9, eL9, eQ9] at hP; clear ef9 eL9 eQ9
  rcases hq with ⟨rfl, hq⟩ | ⟨rfl, hq⟩
  · skip
    have hc_6 := hq
    refine lv_if_eq (tgt := 29) hx hb dX11_drawn_4 (by decide) (fun c => absurd c (by decide)) (fun c => ?_)
    refine lv_iload_n hx hb dX11_drawn_7 rfl (lv_at hl 3 rfl) ?_
    refine lv_iconst (v := 1) hx hb dX11_drawn_8 ic_1 ?_
    refine lv_icmp_lt (tgt := 29) hx hb dX11_drawn_9 (by decide) (fun c => ?_) (fun c => ?_)
    · skip
      have c_7 : x2.toInt < 1 := (by first | exact (cm_lt1 ti_1 c) | (have z := bn_lt c; have k1 : (1 : Int32).toInt = 1 := ti_1; omega))
      refine lv_iconst (v := (-1)) hx hb dX11_drawn_29 ic_m1 ?_
      have k99 : ((-1) : Int32).toInt = (-1) := ti_m1
      exact hret _ _ _ _ (-1) f L Q dX11_drawn_30 hP hS ⟨⟨hI, hF, rfl, rfl⟩, trivial, (Eq.trans (Eq.symm (hs.trans ((if_pos rfl).trans ((if_pos c_7).trans rfl)))) hsp)⟩
    · skip
      have c_8 : 1 ≤ x2.toInt := (by first | exact (cm_nlt1 ti_1 c) | (have z := bn_nlt c; have k1 : (1 : Int32).toInt = 1 := ti_1; omega))
      replace hs := hs.trans ((if_pos rfl).trans ((if_neg (Int.not_lt.mpr c_8)).trans rfl))
      refine lv_iload_n hx hb dX11_drawn_12 rfl (lv_at hl 3 rfl) ?_
      refine lv_bipush (v := 20) hx hb dX11_drawn_13 bp_20 ?_
      refine lv_icmp_gt (tgt := 29) hx hb dX11_drawn_15 (by decide) (fun c => ?_) (fun c => ?_)
      · skip
        have c_9 : 20 < x2.toInt := (by first | exact (cm_lt0 ti_20 c) | (have z := bn_lt c; have k1 : (20 : Int32).toInt = 20 := ti_20; omega))
        refine lv_iconst (v := (-1)) hx hb dX11_drawn_29 ic_m1 ?_
        have k99 : ((-1) : Int32).toInt = (-1) := ti_m1
        exact hret _ _ _ _ (-1) f L Q dX11_drawn_30 hP hS ⟨⟨hI, hF, rfl, rfl⟩, trivial, (Eq.trans (Eq.symm (hs.trans ((if_pos c_9).trans rfl))) hsp)⟩
      · skip
        have c_10 : x2.toInt ≤ 20 := (by first | exact (cm_nlt0 ti_20 c) | (have z := bn_nlt c; have k1 : (20 : Int32).toInt = 20 := ti_20; omega))
        replace hs := hs.trans ((if_neg (Int.not_lt.mpr c_10)).trans rfl)
        refine lv_iload hx hb dX11_drawn_18 (lv_at hl 4 rfl) ?_
        refine lv_if_lt (tgt := 29) hx hb dX11_drawn_20 (by decide) (fun c => ?_) (fun c => ?_)
        · skip
          have c_11 : x3.toInt < 0 := (by first | exact (cm_lt1 ti_0 c) | (have z := bn_lt c; have k1 : (0 : Int32).toInt = 0 := ti_0; omega))
          refine lv_iconst (v := (-1)) hx hb dX11_drawn_29 ic_m1 ?_
          have k99 : ((-1) : Int32).toInt = (-1) := ti_m1
          exact hret _ _ _ _ (-1) f L Q dX11_drawn_30 hP hS ⟨⟨hI, hF, rfl, rfl⟩, trivial, (Eq.trans (Eq.symm (hs.trans ((if_pos c_11).trans rfl))) hsp)⟩
        · skip
          have c_12 : 0 ≤ x3.toInt := (by first | exact (cm_nlt1 ti_0 c) | (have z := bn_nlt c; have k1 : (0 : Int32).toInt = 0 := ti_0; omega))
          replace hs := hs.trans ((if_neg (Int.not_lt.mpr c_12)).trans rfl)
          refine lv_iload hx hb dX11_drawn_23 (lv_at hl 4 rfl) ?_
          refine lv_iconst (v := 1) hx hb dX11_drawn_25 ic_1 ?_
          refine lv_icmp_le (tgt := 31) hx hb dX11_drawn_26 (by decide) (fun c => ?_) (fun c => ?_)
          · skip
            have c_13 : x3.toInt ≤ 1 := (by first | exact (cm_le1 ti_1 c) | (have z := bn_le c; have k1 : (1 : Int32).toInt = 1 := ti_1; omega))
            refine lv_aload_n hx hb dX11_drawn_31 rfl (lv_at hl 0 rfl) ?_
            refine lv_iload_n hx hb dX11_drawn_32 rfl (lv_at hl 1 rfl) ?_
            refine sg_calli (va_runV (As := [.int x0]) (rest := []) ⟨hx, hb, hml, hown, hts⟩ (kX11_readWeek l D ca za h hh f L Q hI x0 ⟨by omega, by omega⟩ H.size) (sl_c11_readWeek_2_0_0_45_11 hts ⟨Nat.le_of_ble_eq_true rfl, Nat.le_of_ble_eq_true rfl⟩) (sl_vX_0 hA hK hP hS hZ) rfl rfl hl.1 rfl (lv_room (Nat.le_of_ble_eq_true rfl)) dX11_drawn_33 ⟨Nat.le_refl _, Nat.le_refl _⟩) hA hS (fun r_18 f_15 L_16 Q_17 H locs hq hP hS => ?_)
            obtain ⟨⟨hI, hk_f_15, eL9, eQ9⟩, hq, u_19⟩ := hq
            replace hs := hs.trans ((if_neg (Int.not_lt.mpr c_13)).trans (spl2_e u_19 rfl))
            rw [eL9, eQ9] at hP; clear eL9 eQ9
            have hF : sgK WkX11_drawn f f_15 := sgK.tr hF hk_f_15 (by decide +kernel)
            refine lv_istore (lv' := [(5, .int r_18), (0, .ref (h 0)), (1, .int x0), (2, .int x1), (3, .int x2), (4, .int x3)]) hx hb dX11_drawn_36 hl (by decide) rfl (fun ls hl => ?_)
            refine lv_iload hx hb dX11_drawn_38 (lv_at hl 0 rfl) ?_
            refine lv_if_eq (tgt := 46) hx hb dX11_drawn_40 (by decide) (fun c => ?_) (fun c => ?_)
            · skip
              have c_20 : r_18.toInt = 0 := (by first | exact (cm_eq1 ti_0 c) | (have z := Int32.toInt_inj.mpr c; have k1 : (0 : Int32).toInt = 0 := ti_0; omega))
              refine lv_aload_n hx hb dX11_drawn_46 rfl (lv_at hl 1 rfl) ?_
              refine sl_gX_0_2_11 hx hb hts hown hK hP dX11_drawn_47 ?_
              refine lv_iload_n hx hb dX11_drawn_50 rfl (lv_at hl 3 rfl) ?_
              refine lv_iload_n hx hb dX11_drawn_51 rfl (lv_at hl 4 rfl) ?_
              refine sg_calli (va_runV (As := [.int x1, .int x2]) (rest := []) ⟨hx, hb, hml, hown, hts⟩ (kX4_drawWeeks l D ca za h hh f_15 L Q hI x1 x2 ⟨by omega, by omega⟩ H.size) (sl_c4_drawWeeks_6_0_0_148_11 hts ⟨Nat.le_of_ble_eq_true rfl, Nat.le_of_ble_eq_true rfl⟩) (sl_vX_13 hA hK hP hS hZ) rfl rfl hl.1 rfl (lv_room (Nat.le_of_ble_eq_true rfl)) dX11_drawn_52 ⟨Nat.le_refl _, Nat.le_refl _⟩) hA hS (fun r_25 f_22 L_23 Q_24 H locs hq hP hS => ?_)
              obtain ⟨⟨hI, hk_f_22, eL9, eQ9⟩, hq, u_26⟩ := hq
              replace hs := hs.trans ((if_pos c_20).trans (spl2_e u_26 rfl))
              rw [eL9, eQ9] at hP; clear eL9 eQ9
              have hF : sgK WkX11_drawn f f_22 := sgK.tr hF hk_f_22 (by decide +kernel)
              refine lv_istore (lv' := [(6, .int r_25), (5, .int r_18), (0, .ref (h 0)), (1, .int x0), (2, .int x1), (3, .int x2), (4, .int x3)]) hx hb dX11_drawn_55 hl (by decide) rfl (fun ls hl => ?_)
              refine lv_iload hx hb dX11_drawn_57 (lv_at hl 6 rfl) ?_
              refine lv_if_ne (tgt := 72) hx hb dX11_drawn_59 (by decide) (fun c => ?_) (fun c => ?_)
              · skip
                have c_27 : x3.toInt ≠ 0 := (by first | exact (cm_ne1 ti_0 c) | (have z := bn_ne c; have k1 : (0 : Int32).toInt = 0 := ti_0; omega))
                refine lv_iload hx hb dX11_drawn_72 (lv_at hl 0 rfl) ?_
                exact hret _ _ _ _ (r_25) f_22 L Q dX11_drawn_74 hP hS ⟨⟨hI, hF, rfl, rfl⟩, trivial, (Eq.trans (Eq.symm (hs.trans ((if_neg c_27).trans rfl))) hsp)⟩
              · skip
                have c_28 : x3.toInt = 0 := (by first | exact (cm_eq1 ti_0 c) | (have z := Int32.toInt_inj.mpr c; have k1 : (0 : Int32).toInt = 0 := ti_0; omega))
                refine lv_aload_n hx hb dX11_drawn_62 rfl (lv_at hl 2 rfl) ?_
                refine sl_gX_0_2_11 hx hb hts hown hK hP dX11_drawn_63 ?_
                refine sl_gX_13_6_11 (v := (f_22 13 6)) hx hb hts hown hK hP rfl dX11_drawn_66 ?_
                refine lv_topi (fun v_29 ev_29 => ?_)
                refine lv_goto (tgt := 74) hx hb dX11_drawn_69 (by decide) ?_
                exact hret _ _ _ _ (v_29) f_22 L Q dX11_drawn_74 hP hS ⟨⟨hI, hF, rfl, rfl⟩, trivial, (Eq.trans (Eq.symm (hs.trans ((if_pos c_28).trans (spl_e ev_29 rfl)))) hsp)⟩
            · skip
              have c_21 : r_18.toInt ≠ 0 := (by first | exact (cm_ne1 ti_0 c) | (have z := bn_ne c; have k1 : (0 : Int32).toInt = 0 := ti_0; omega))
              refine lv_iload hx hb dX11_drawn_43 (lv_at hl 0 rfl) ?_
              exact hret _ _ _ _ (r_18) f_15 L Q dX11_drawn_45 hP hS ⟨⟨hI, hF, rfl, rfl⟩, trivial, (Eq.trans (Eq.symm (hs.trans ((if_neg c_21).trans rfl))) hsp)⟩
          · skip
            have c_14 : 1 < x3.toInt := (by first | exact (cm_nle1 ti_1 c) | (have z := bn_nle c; have k1 : (1 : Int32).toInt = 1 := ti_1; omega))
            refine lv_iconst (v := (-1)) hx hb dX11_drawn_29 ic_m1 ?_
            have k99 : ((-1) : Int32).toInt = (-1) := ti_m1
            exact hret _ _ _ _ (-1) f L Q dX11_drawn_30 hP hS ⟨⟨hI, hF, rfl, rfl⟩, trivial, (Eq.trans (Eq.symm (hs.trans ((if_pos c_14).trans rfl))) hsp)⟩
  · skip
    have hc_6 := hq
    refine lv_if_eq (tgt := 29) hx hb dX11_drawn_4 (by decide) (fun c => ?_) (fun c => absurd c (by decide))
    refine lv_iconst (v := (-1)) hx hb dX11_drawn_29 ic_m1 ?_
    have k99 : ((-1) : Int32).toInt = (-1) := ti_m1
    exact hret _ _ _ _ (-1) f L Q dX11_drawn_30 hP hS ⟨⟨hI, hF, rfl, rfl⟩, trivial, (Eq.trans (Eq.symm (hs.trans ((if_neg (by decide)).trans rfl))) hsp)⟩

abbrev WkX2_comes : List (Nat × Nat × Option Nat) := [(3, 3, none), (8, 8, none), (9, 9, none), (13, 13, some 5), (13, 13, some 6), (14, 14, none), (15, 15, none), (16, 16, none), (29, 29, none)]
set_option maxHeartbeats 4000000 in
set_option maxRecDepth 100000 in
theorem kX2_comes (l : Launch) (D : va_G) (ca : Nat → ClassId) (za h : Nat → Nat) (hh : sgH 52 h) (f : sg_F) (L : sg_L) (Q : sg_Q) (hI : sgI loX hiX f) (x0 : Int32) (b0 : 0 ≤ x0.toInt ∧ x0.toInt ≤ 7) (sz : Nat) : Met l yX2_comes gwX2_comes { frames := 5, cells := 0, slots := 0, locals := 127 } (sgP D vwCl (tyX ca) 52 h (eX ca h) zcX za f L Q sz [.ref (h 28), .int x0]) (sgQi D vwCl 52 h (eX ca h) sz (fun r f1 L1 Q1 => ((sgI loX hiX f1 ∧ sgK WkX2_comes f f1 ∧ L1 = L ∧ Q1 = Q) ∧ True ∧ (r, f1) = sX2_comes x0 f L))) 0 0 (sgA 52 h sz) := by
  refine sg_ofWi (cc := cX2_comes) (maxL := 2) RX2 (by decide) rfl rfl (Nat.le_of_ble_eq_true rfl) ?_
  intro p e s m below meth cd Qz ls hx hb hml hown hts hK hZ hP hS hl hret
  have hA := sgY.self (n := 52) (h := h) (sz := s.heap.size)
  have hl : lv_has ls 2 [(0, .ref (h 28)), (1, .int x0)] := hl
  obtain ⟨H, hH⟩ : ∃ z : Heap, z = s.heap := ⟨_, rfl⟩
  obtain ⟨locs, hlo⟩ : ∃ z : List Loc, z = [] := ⟨_, rfl⟩
  have hP : va_P D vwCl (sgw 52 h (eX ca h) f L Q) H := by rw [hH]; exact hP
  have hS : va_S (sgA 52 h s.heap.size) s.heap H locs := by rw [hH, hlo]; exact hS
  suffices hgo : W p l e ({ frames := 5, cells := 0, slots := 0, locals := 127 }) s m ([.ref (h 28), .int x0] : List Value).toArray below meth cd H locs 0 0 Qz (F0 m 0 ls []) by rw [hH, hlo] at hgo; exact hgo
  clear hH hlo
  obtain ⟨sp, hsp⟩ : ∃ z : Int32 × sg_F, z = sX2_comes x0 f L := ⟨_, rfl⟩
  have hs : sp = sX2_comes x0 f L := hsp
  have hF : sgK WkX2_comes f f := sgK.rf
  have blk_80 : ∀ (fp_80 : sg_F) (H : Heap) (locs : List Loc) (ls : Array Slot), sp = sX2_comes_b80 x0 fp_80 L → sgI loX hiX fp_80 → sgK WkX2_comes f fp_80 → va_P D vwCl (sgw 52 h (eX ca h) fp_80 L Q) H → va_S (sgA 52 h s.heap.size) s.heap H locs → lv_has ls 2 [(0, .ref (h 28))] → W p l e ({ frames := 5, cells := 0, slots := 0, locals := 127 }) s m ([.ref (h 28), .int x0] : List Value).toArray below meth cd H locs 0 0 Qz (F0 m 80 ls []) := by
    intro fp_80 H locs ls hs hI hF hP hS hl
    refine lv_aload_n hx hb dX2_comes_80 rfl (lv_at hl 0 rfl) ?_
    refine sl_gX_28_2_2 hx hb hts hown hK hP dX2_comes_81 ?_
    refine lv_iconst (v := 0) hx hb dX2_comes_84 ic_0 ?_
    refine lv_dup2_11 hx hb dX2_comes_85 rfl rfl ?_
    refine sg_iald hx hb hK hP 29 (by decide) 0 rfl rfl (i := 0) (vp_in_iff.mpr (by decide)) dX2_comes_86 ?_
    refine lv_topi (fun v_1 ev_1 => ?_)
    refine lv_iconst (v := 1) hx hb dX2_comes_87 ic_1 ?_
    refine lv_iadd hx hb dX2_comes_88 ?_
    refine lv_topi (fun v_2 ev_2 => ?_)
    refine sg_iast hx hb hh hA hK hP hS 29 (by decide) 0 (fun _ => rfl) rfl (i := 0) (x := v_2) (vp_in_iff.mpr (by decide)) dX2_comes_89 (fun f_3 H locs ef_3 hP hS => ?_)
    have hI : sgI loX hiX f_3 := by rw [ef_3]; exact sgI.put hI 29 (Int32.toNatClampNeg 0) (bn_top _)
    have hF : sgK WkX2_comes f f_3 := sgK.put hF ef_3 (by rfl)
    refine lv_aload_n hx hb dX2_comes_90 rfl (lv_at hl 0 rfl) ?_
    refine sl_gX_28_2_2 hx hb hts hown hK hP dX2_comes_91 ?_
    refine lv_iconst (v := 1) hx hb dX2_comes_94 ic_1 ?_
    refine lv_dup2_11 hx hb dX2_comes_95 rfl rfl ?_
    refine sg_iald hx hb hK hP 29 (by decide) 0 rfl rfl (i := 1) (vp_in_iff.mpr (by decide)) dX2_comes_96 ?_
    refine lv_topi (fun v_4 ev_4 => ?_)
    refine lv_aload_n hx hb dX2_comes_97 rfl (lv_at hl 0 rfl) ?_
    refine sl_gX_28_1_2 hx hb hts hown hK hP dX2_comes_98 ?_
    refine sg_calli (va_runV (As := []) (rest := [.int v_4, .int 1, .ref (h 29)]) ⟨hx, hb, hml, hown, hts⟩ (kX4_allTurns l D ca za h hh f_3 L Q hI H.size) (sl_c4_allTurns_0_0_0_0_2 hts ⟨Nat.le_of_ble_eq_true rfl, Nat.le_of_ble_eq_true rfl⟩) (sl_vX_13 hA hK hP hS hZ) rfl rfl hl.1 rfl (lv_room (Nat.le_of_ble_eq_true rfl)) dX2_comes_101 ⟨Nat.le_refl _, Nat.le_refl _⟩) hA hS (fun r_8 f_5 L_6 Q_7 H locs hq hP hS => ?_)
    obtain ⟨⟨ef9, eL9, eQ9⟩, hq, u_9⟩ := hq
    rw [ef9, eL9, eQ9] at hP; clear ef9 eL9 eQ9
    refine lv_iadd hx hb dX2_comes_104 ?_
    refine lv_topi (fun v_10 ev_10 => ?_)
    refine sg_iast hx hb hh hA hK hP hS 29 (by decide) 0 (fun _ => rfl) rfl (i := 1) (x := v_10) (vp_in_iff.mpr (by decide)) dX2_comes_105 (fun f_11 H locs ef_11 hP hS => ?_)
    have hI : sgI loX hiX f_11 := by rw [ef_11]; exact sgI.put hI 29 (Int32.toNatClampNeg 1) (bn_top _)
    have hF : sgK WkX2_comes f f_11 := sgK.put hF ef_11 (by rfl)
    refine lv_aload_n hx hb dX2_comes_106 rfl (lv_at hl 0 rfl) ?_
    refine sl_gX_28_2_2 hx hb hts hown hK hP dX2_comes_107 ?_
    refine lv_iconst (v := 2) hx hb dX2_comes_110 ic_2 ?_
    refine lv_dup2_11 hx hb dX2_comes_111 rfl rfl ?_
    refine sg_iald hx hb hK hP 29 (by decide) 0 rfl rfl (i := 2) (vp_in_iff.mpr (by decide)) dX2_comes_112 ?_
    refine lv_topi (fun v_12 ev_12 => ?_)
    refine lv_aload_n hx hb dX2_comes_113 rfl (lv_at hl 0 rfl) ?_
    refine sl_gX_28_1_2 hx hb hts hown hK hP dX2_comes_114 ?_
    refine sl_gX_13_5_2 (v := (f_11 13 5)) hx hb hts hown hK hP rfl dX2_comes_117 ?_
    refine lv_topi (fun v_13 ev_13 => ?_)
    refine lv_iadd hx hb dX2_comes_120 ?_
    refine lv_topi (fun v_14 ev_14 => ?_)
    refine sg_iast hx hb hh hA hK hP hS 29 (by decide) 0 (fun _ => rfl) rfl (i := 2) (x := v_14) (vp_in_iff.mpr (by decide)) dX2_comes_121 (fun f_15 H locs ef_15 hP hS => ?_)
    have hI : sgI loX hiX f_15 := by rw [ef_15]; exact sgI.put hI 29 (Int32.toNatClampNeg 2) (bn_top _)
    have hF : sgK WkX2_comes f f_15 := sgK.put hF ef_15 (by rfl)
    refine lv_aload_n hx hb dX2_comes_122 rfl (lv_at hl 0 rfl) ?_
    refine sl_gX_28_1_2 hx hb hts hown hK hP dX2_comes_123 ?_
    refine sl_gX_13_6_2 (v := (f_15 13 6)) hx hb hts hown hK hP rfl dX2_comes_126 ?_
    refine lv_topi (fun v_16 ev_16 => ?_)
    exact hret _ _ _ _ (v_16) f_15 L Q dX2_comes_129 hP hS ⟨⟨hI, hF, rfl, rfl⟩, trivial, (Eq.trans (Eq.symm (hs.trans ((spl_e ev_1 (spl_e ev_2 (spl_e ef_3 (spl_e ev_4 (spl_e u_9 (spl_e ev_10 (spl_e ef_11 (spl_e ev_12 (spl_e ev_13 (spl_e ev_14 (spl_e ef_15 (spl_e ev_16 rfl))))))))))))))) hsp)⟩
  have blk_60 : ∀ (fp_60 : sg_F) (H : Heap) (locs : List Loc) (ls : Array Slot), sp = sX2_comes_b60 x0 fp_60 L → sgI loX hiX fp_60 → sgK WkX2_comes f fp_60 → va_P D vwCl (sgw 52 h (eX ca h) fp_60 L Q) H → va_S (sgA 52 h s.heap.size) s.heap H locs → lv_has ls 2 [(0, .ref (h 28)), (1, .int x0)] → W p l e ({ frames := 5, cells := 0, slots := 0, locals := 127 }) s m ([.ref (h 28), .int x0] : List Value).toArray below meth cd H locs 0 0 Qz (F0 m 60 ls []) := by
    intro fp_60 H locs ls hs hI hF hP hS hl
    refine lv_aload_n hx hb dX2_comes_60 rfl (lv_at hl 0 rfl) ?_
    refine sl_gX_28_2_2 hx hb hts hown hK hP dX2_comes_61 ?_
    refine lv_iconst (v := 3) hx hb dX2_comes_64 ic_3 ?_
    refine lv_aload_n hx hb dX2_comes_65 rfl (lv_at hl 0 rfl) ?_
    refine sl_gX_28_1_2 hx hb hts hown hK hP dX2_comes_66 ?_
    refine sl_gX_13_6_2 (v := (fp_60 13 6)) hx hb hts hown hK hP rfl dX2_comes_69 ?_
    refine lv_topi (fun v_17 ev_17 => ?_)
    refine sg_iast hx hb hh hA hK hP hS 29 (by decide) 0 (fun _ => rfl) rfl (i := 3) (x := v_17) (vp_in_iff.mpr (by decide)) dX2_comes_72 (fun f_18 H locs ef_18 hP hS => ?_)
    have hI : sgI loX hiX f_18 := by rw [ef_18]; exact sgI.put hI 29 (Int32.toNatClampNeg 3) (bn_top _)
    have hF : sgK WkX2_comes f f_18 := sgK.put hF ef_18 (by rfl)
    refine lv_aload_n hx hb dX2_comes_73 rfl (lv_at hl 0 rfl) ?_
    refine sl_gX_28_2_2 hx hb hts hown hK hP dX2_comes_74 ?_
    refine lv_iconst (v := 4) hx hb dX2_comes_77 ic_4 ?_
    refine lv_iload_n hx hb dX2_comes_78 rfl (lv_at hl 1 rfl) ?_
    refine sg_iast hx hb hh hA hK hP hS 29 (by decide) 0 (fun _ => rfl) rfl (i := 4) (x := x0) (vp_in_iff.mpr (by decide)) dX2_comes_79 (fun f_19 H locs ef_19 hP hS => ?_)
    have hI : sgI loX hiX f_19 := by rw [ef_19]; exact sgI.put hI 29 (Int32.toNatClampNeg 4) (bn_top _)
    have hF : sgK WkX2_comes f f_19 := sgK.put hF ef_19 (by rfl)
    exact blk_80 f_19 _ _ _ (hs.trans ((spl_e ev_17 (spl_e ef_18 (spl_e ef_19 rfl))))) hI hF hP hS (lv_sub hl [0] rfl)
  refine lv_aload_n hx hb dX2_comes_0 rfl (lv_at hl 0 rfl) ?_
  refine sl_gX_28_1_2 hx hb hts hown hK hP dX2_comes_1 ?_
  refine sg_callv (va_runV (As := []) (rest := []) ⟨hx, hb, hml, hown, hts⟩ (kX4_begin l D ca za h hh f L Q hI H.size) (sl_c4_begin_1_0_0_21_2 hts ⟨Nat.le_of_ble_eq_true rfl, Nat.le_of_ble_eq_true rfl⟩) (sl_vX_13 hA hK hP hS hZ) rfl rfl hl.1 rfl (lv_room (Nat.le_of_ble_eq_true rfl)) dX2_comes_4 ⟨Nat.le_refl _, Nat.le_refl _⟩) hA hS (fun f_20 L_21 Q_22 H locs hq hP hS => ?_)
  obtain ⟨⟨hI, hk_f_20, eL9, eQ9⟩, u_23⟩ := hq
  rw [eL9, eQ9] at hP; clear eL9 eQ9
  have hF : sgK WkX2_comes f f_20 := sgK.tr hF hk_f_20 (by decide +kernel)
  refine lv_aload_n hx hb dX2_comes_7 rfl (lv_at hl 0 rfl) ?_
  refine sl_gX_28_1_2 hx hb hts hown hK hP dX2_comes_8 ?_
  refine lv_iload_n hx hb dX2_comes_11 rfl (lv_at hl 1 rfl) ?_
  refine sg_callv (va_runV (As := [.int x0]) (rest := []) ⟨hx, hb, hml, hown, hts⟩ (kX4_comes l D ca za h hh f_20 L Q hI x0 b0 H.size) (sl_c4_comes_4_0_0_102_2 hts ⟨Nat.le_of_ble_eq_true rfl, Nat.le_of_ble_eq_true rfl⟩) (sl_vX_13 hA hK hP hS hZ) rfl rfl hl.1 rfl (lv_room (Nat.le_of_ble_eq_true rfl)) dX2_comes_12 ⟨Nat.le_refl _, Nat.le_refl _⟩) hA hS (fun f_24 L_25 Q_26 H locs hq hP hS => ?_)
  obtain ⟨⟨hI, hk_f_24, eL9, eQ9⟩, u_27⟩ := hq
  rw [eL9, eQ9] at hP; clear eL9 eQ9
  have hF : sgK WkX2_comes f f_24 := sgK.tr hF hk_f_24 (by decide +kernel)
  refine lv_aload_n hx hb dX2_comes_15 rfl (lv_at hl 0 rfl) ?_
  refine sl_gX_28_1_2 hx hb hts hown hK hP dX2_comes_16 ?_
  refine sl_gX_13_2_2 hx hb hts hown hK hP dX2_comes_19 ?_
  refine lv_iconst (v := 0) hx hb dX2_comes_22 ic_0 ?_
  refine lv_aload_n hx hb dX2_comes_23 rfl (lv_at hl 0 rfl) ?_
  refine sl_gX_28_0_2 hx hb hts hown hK hP dX2_comes_24 ?_
  refine sl_gX_1_1_2 hx hb hts hown hK hP dX2_comes_27 ?_
  refine lv_iconst (v := 0) hx hb dX2_comes_30 ic_0 ?_
  refine lv_iconst (v := 3) hx hb dX2_comes_31 ic_3 ?_
  refine sg_copyi hx hb (hml.trans hl.1.symm) hown (hts _ (List.mem_cons_of_mem _ mw_21)) (hts _ (List.mem_cons_of_mem _ mw_22)) (hts _ (List.mem_cons_of_mem _ mw_23)) (hts _ (List.mem_cons_of_mem _ mw_24)) hh hA hK hP hS 14 3 (by decide) (by decide) 0 0 rfl (fun _ => rfl) rfl rfl (sp := 0) (dp := 0) (nn := 3) (by decide) (by decide) (by decide) (by decide) (by decide) (Nat.le_of_ble_eq_true rfl) (Nat.le_of_ble_eq_true rfl) dX2_comes_32 (fun f_28 H locs ef_28 hP hS => ?_)
  have hI : sgI loX hiX f_28 := by rw [ef_28]; exact sgI.cpy hI 14 3 (fun _ _ => ⟨by show (0 : Int) ≤ 0; decide, by show (60 : Int) ≤ 60; decide⟩)
  have hF : sgK WkX2_comes f f_28 := sgK.row hF ef_28 (fun _ => by rfl)
  refine lv_aload_n hx hb dX2_comes_35 rfl (lv_at hl 0 rfl) ?_
  refine sl_gX_28_2_2 hx hb hts hown hK hP dX2_comes_36 ?_
  refine lv_iconst (v := 0) hx hb dX2_comes_39 ic_0 ?_
  refine sg_iald hx hb hK hP 29 (by decide) 0 rfl rfl (i := 0) (vp_in_iff.mpr (by decide)) dX2_comes_40 ?_
  refine lv_topi (fun v_29 ev_29 => ?_)
  replace hs := hs.trans (spl_e u_23 (spl_e u_27 (spl_e ef_28 (spl_e ev_29 rfl))))
  refine lv_if_eq (tgt := 60) hx hb dX2_comes_41 (by decide) (fun c => ?_) (fun c => ?_)
  · skip
    have c_30 : v_29.toInt = 0 := (by first | exact (cm_eq1 ti_0 c) | (have z := Int32.toInt_inj.mpr c; have k1 : (0 : Int32).toInt = 0 := ti_0; omega))
    exact blk_60 f_28 _ _ _ (hs.trans ((if_pos c_30).trans rfl)) hI hF hP hS (lv_sub hl [0, 1] rfl)
  · skip
    have c_31 : v_29.toInt ≠ 0 := (by first | exact (cm_ne1 ti_0 c) | (have z := bn_ne c; have k1 : (0 : Int32).toInt = 0 := ti_0; omega))
    refine lv_aload_n hx hb dX2_comes_44 rfl (lv_at hl 0 rfl) ?_
    refine sl_gX_28_1_2 hx hb hts hown hK hP dX2_comes_45 ?_
    refine sl_gX_13_6_2 (v := (f_28 13 6)) hx hb hts hown hK hP rfl dX2_comes_48 ?_
    refine lv_topi (fun v_32 ev_32 => ?_)
    refine lv_aload_n hx hb dX2_comes_51 rfl (lv_at hl 0 rfl) ?_
    refine sl_gX_28_2_2 hx hb hts hown hK hP dX2_comes_52 ?_
    refine lv_iconst (v := 3) hx hb dX2_comes_55 ic_3 ?_
    refine sg_iald hx hb hK hP 29 (by decide) 0 rfl rfl (i := 3) (vp_in_iff.mpr (by decide)) dX2_comes_56 ?_
    refine lv_topi (fun v_33 ev_33 => ?_)
    replace hs := hs.trans ((if_neg c_31).trans (spl_e ev_32 (spl_e ev_33 rfl)))
    refine lv_icmp_le (tgt := 80) hx hb dX2_comes_57 (by decide) (fun c => ?_) (fun c => ?_)
    · skip
      have c_34 : v_32.toInt ≤ v_33.toInt := (by first | exact (bn_le c) | (have z := bn_le c; omega))
      exact blk_80 f_28 _ _ _ (hs.trans ((if_neg (Int.not_lt.mpr c_34)).trans rfl)) hI hF hP hS (lv_sub hl [0] rfl)
    · skip
      have c_35 : v_33.toInt < v_32.toInt := (by first | exact (bn_nle c) | (have z := bn_nle c; omega))
      exact blk_60 f_28 _ _ _ (hs.trans ((if_pos c_35).trans rfl)) hI hF hP hS (lv_sub hl [0, 1] rfl)

abbrev WkX11_sit : List (Nat × Nat × Option Nat) := [(3, 3, none), (8, 8, none), (9, 9, none), (13, 13, some 5), (13, 13, some 6), (14, 14, none), (15, 15, none), (16, 16, none), (29, 29, none)]
set_option maxHeartbeats 4000000 in
set_option maxRecDepth 100000 in
theorem kX11_sit (l : Launch) (D : va_G) (ca : Nat → ClassId) (za h : Nat → Nat) (hh : sgH 52 h) (f : sg_F) (L : sg_L) (Q : sg_Q) (hI : sgI loX hiX f) (x0 : Int32) (sz : Nat) : Met l yX11_sit gwX11_sit { frames := 6, cells := 0, slots := 0, locals := 148 } (sgP D vwCl (tyX ca) 52 h (eX ca h) zcX za f L Q sz [.ref (h 0), .int x0]) (sgQi D vwCl 52 h (eX ca h) sz (fun r f1 L1 Q1 => ((sgI loX hiX f1 ∧ sgK WkX11_sit f f1 ∧ L1 = L ∧ Q1 = Q) ∧ True ∧ (r, f1) = sX11_sit x0 f L))) 0 0 (sgA 52 h sz) := by
  refine sg_ofWi (cc := cX11_sit) (maxL := 2) RX11 (by decide) rfl rfl (Nat.le_of_ble_eq_true rfl) ?_
  intro p e s m below meth cd Qz ls hx hb hml hown hts hK hZ hP hS hl hret
  have hA := sgY.self (n := 52) (h := h) (sz := s.heap.size)
  have hl : lv_has ls 2 [(0, .ref (h 0)), (1, .int x0)] := hl
  obtain ⟨H, hH⟩ : ∃ z : Heap, z = s.heap := ⟨_, rfl⟩
  obtain ⟨locs, hlo⟩ : ∃ z : List Loc, z = [] := ⟨_, rfl⟩
  have hP : va_P D vwCl (sgw 52 h (eX ca h) f L Q) H := by rw [hH]; exact hP
  have hS : va_S (sgA 52 h s.heap.size) s.heap H locs := by rw [hH, hlo]; exact hS
  suffices hgo : W p l e ({ frames := 6, cells := 0, slots := 0, locals := 148 }) s m ([.ref (h 0), .int x0] : List Value).toArray below meth cd H locs 0 0 Qz (F0 m 0 ls []) by rw [hH, hlo] at hgo; exact hgo
  clear hH hlo
  obtain ⟨sp, hsp⟩ : ∃ z : Int32 × sg_F, z = sX11_sit x0 f L := ⟨_, rfl⟩
  have hs : sp = sX11_sit x0 f L := hsp
  have hF : sgK WkX11_sit f f := sgK.rf
  refine lv_aload_n hx hb dX11_sit_0 rfl (lv_at hl 0 rfl) ?_
  refine sl_gX_0_0_11 hx hb hts hown hK hP dX11_sit_1 ?_
  refine lv_iload_n hx hb dX11_sit_4 rfl (lv_at hl 1 rfl) ?_
  obtain ⟨v_1, ev_1⟩ : ∃ z : Int32, z = f 1 3 := ⟨_, rfl⟩
  have q_2 : 0 ≤ v_1.toInt ∧ v_1.toInt ≤ 8 := by rw [ev_1]; exact hI 1 3
  have q_3 : (f 1 3).toInt = v_1.toInt := (congrArg Int32.toInt (show f 1 3 = v_1 from ev_1.symm))
  refine sg_calli (va_runV (As := [.int x0]) (rest := []) ⟨hx, hb, hml, hown, hts⟩ (kX0_has l D ca za h hh f L Q hI x0 H.size) (sl_c0_has_0_0_0_0_11 hts ⟨Nat.le_of_ble_eq_true rfl, Nat.le_of_ble_eq_true rfl⟩) (sl_vX_1 hA hK hP hS hZ) rfl rfl hl.1 rfl (lv_room (Nat.le_of_ble_eq_true rfl)) dX11_sit_5 ⟨Nat.le_refl _, Nat.le_refl _⟩) hA hS (fun r_8 f_5 L_6 Q_7 H locs hq hP hS => ?_)
  obtain ⟨⟨ef9, eL9, eQ9⟩, hq, u_9⟩ := hq
  replace hs := hs.trans (spl_e ev_1 (spl_e u_9 rfl))
  rw [ef9, eL9, eQ9] at hP; clear ef9 eL9 eQ9
  rcases hq with ⟨rfl, hq⟩ | ⟨rfl, hq⟩
  · skip
    have hc_10 := hq
    refine lv_if_eq (tgt := 22) hx hb dX11_sit_8 (by decide) (fun c => absurd c (by decide)) (fun c => ?_)
    refine lv_aload_n hx hb dX11_sit_11 rfl (lv_at hl 0 rfl) ?_
    refine sl_gX_0_6_11 hx hb hts hown hK hP dX11_sit_12 ?_
    refine lv_iload_n hx hb dX11_sit_15 rfl (lv_at hl 1 rfl) ?_
    refine sg_calli (va_runV (As := [.int x0]) (rest := []) ⟨hx, hb, hml, hown, hts⟩ (kX2_comes l D ca za h hh f L Q hI x0 ⟨by omega, by omega⟩ H.size) (sl_c2_comes_5_0_0_127_11 hts ⟨Nat.le_of_ble_eq_true rfl, Nat.le_of_ble_eq_true rfl⟩) (sl_vX_28 hA hK hP hS hZ) rfl rfl hl.1 rfl (lv_room (Nat.le_of_ble_eq_true rfl)) dX11_sit_16 ⟨Nat.le_refl _, Nat.le_refl _⟩) hA hS (fun r_14 f_11 L_12 Q_13 H locs hq hP hS => ?_)
    obtain ⟨⟨hI, hk_f_11, eL9, eQ9⟩, hq, u_15⟩ := hq
    rw [eL9, eQ9] at hP; clear eL9 eQ9
    have hF : sgK WkX11_sit f f_11 := sgK.tr hF hk_f_11 (by decide +kernel)
    refine lv_goto (tgt := 23) hx hb dX11_sit_19 (by decide) ?_
    exact hret _ _ _ _ (r_14) f_11 L Q dX11_sit_23 hP hS ⟨⟨hI, hF, rfl, rfl⟩, trivial, (Eq.trans (Eq.symm (hs.trans ((if_pos rfl).trans (spl2_e u_15 rfl)))) hsp)⟩
  · skip
    have hc_10 := hq
    refine lv_if_eq (tgt := 22) hx hb dX11_sit_8 (by decide) (fun c => ?_) (fun c => absurd c (by decide))
    refine lv_iconst (v := (-1)) hx hb dX11_sit_22 ic_m1 ?_
    have k99 : ((-1) : Int32).toInt = (-1) := ti_m1
    exact hret _ _ _ _ (-1) f L Q dX11_sit_23 hP hS ⟨⟨hI, hF, rfl, rfl⟩, trivial, (Eq.trans (Eq.symm (hs.trans ((if_neg (by decide)).trans rfl))) hsp)⟩

abbrev WkX2_turns : List (Nat × Nat × Option Nat) := [(3, 3, none), (29, 29, none)]
set_option maxHeartbeats 4000000 in
set_option maxRecDepth 100000 in
theorem kX2_turns (l : Launch) (D : va_G) (ca : Nat → ClassId) (za h : Nat → Nat) (hh : sgH 52 h) (f : sg_F) (L : sg_L) (Q : sg_Q) (hI : sgI loX hiX f) (x0 : Int32) (x1 : Int32) (b0 : 0 ≤ x0.toInt ∧ x0.toInt ≤ 2) (b1 : 0 ≤ x1.toInt ∧ x1.toInt ≤ 60) (sz : Nat) : Met l yX2_turns gwX2_turns { frames := 1, cells := 0, slots := 0, locals := 21 } (sgP D vwCl (tyX ca) 52 h (eX ca h) zcX za f L Q sz [.ref (h 28), .int x0, .int x1]) (sgQi D vwCl 52 h (eX ca h) sz (fun r f1 L1 Q1 => ((sgI loX hiX f1 ∧ sgK WkX2_turns f f1 ∧ L1 = L ∧ Q1 = Q) ∧ (0 ≤ r.toInt ∧ r.toInt ≤ 60) ∧ (r, f1) = sX2_turns x0 x1 f L))) 0 0 (sgA 52 h sz) := by
  refine sg_ofWi (cc := cX2_turns) (maxL := 4) RX2 (by decide) rfl rfl (Nat.le_of_ble_eq_true rfl) ?_
  intro p e s m below meth cd Qz ls hx hb hml hown hts hK hZ hP hS hl hret
  have hA := sgY.self (n := 52) (h := h) (sz := s.heap.size)
  have hl : lv_has ls 4 [(0, .ref (h 28)), (1, .int x0), (2, .int x1)] := hl
  obtain ⟨H, hH⟩ : ∃ z : Heap, z = s.heap := ⟨_, rfl⟩
  obtain ⟨locs, hlo⟩ : ∃ z : List Loc, z = [] := ⟨_, rfl⟩
  have hP : va_P D vwCl (sgw 52 h (eX ca h) f L Q) H := by rw [hH]; exact hP
  have hS : va_S (sgA 52 h s.heap.size) s.heap H locs := by rw [hH, hlo]; exact hS
  suffices hgo : W p l e ({ frames := 1, cells := 0, slots := 0, locals := 21 }) s m ([.ref (h 28), .int x0, .int x1] : List Value).toArray below meth cd H locs 0 0 Qz (F0 m 0 ls []) by rw [hH, hlo] at hgo; exact hgo
  clear hH hlo
  obtain ⟨sp, hsp⟩ : ∃ z : Int32 × sg_F, z = sX2_turns x0 x1 f L := ⟨_, rfl⟩
  have hs : sp = sX2_turns x0 x1 f L := hsp
  have hF : sgK WkX2_turns f f := sgK.rf
  refine lv_iload_n hx hb dX2_turns_0 rfl (lv_at hl 2 rfl) ?_
  refine lv_aload_n hx hb dX2_turns_1 rfl (lv_at hl 0 rfl) ?_
  refine sl_gX_28_0_2 hx hb hts hown hK hP dX2_turns_2 ?_
  refine sl_gX_1_1_2 hx hb hts hown hK hP dX2_turns_5 ?_
  refine lv_iload_n hx hb dX2_turns_8 rfl (lv_at hl 1 rfl) ?_
  refine sg_iald hx hb hK hP 3 (by decide) 0 rfl rfl (i := x0) (vp_in_iff.mpr ⟨by omega, by omega⟩) dX2_turns_9 ?_
  refine lv_topi (fun v_1 ev_1 => ?_)
  have q_2 : 0 ≤ v_1.toInt ∧ v_1.toInt ≤ 60 := by rw [ev_1]; exact hI 3 _
  refine lv_isub hx hb dX2_turns_10 ?_
  refine lv_topi (fun v_3 ev_3 => ?_)
  have q_4 : v_3.toInt = x1.toInt - v_1.toInt := by rw [ev_3]; first | exact bn_subI (by omega) (by omega) | exact (bn_subI (by omega) (by omega)).trans (by omega)
  refine va_mabs hx hb (hml.trans hl.1.symm) hown (hts _ (List.mem_cons_of_mem _ mw_89)) (hts _ (List.mem_cons_of_mem _ mw_90)) (hts _ (List.mem_cons_of_mem _ mw_11)) (hts _ (List.mem_cons_of_mem _ mw_91)) (Nat.le_of_ble_eq_true rfl) (Nat.le_of_ble_eq_true rfl) (Nat.le_refl _) (Nat.le_refl _) dX2_turns_11 ?_
  refine lv_topi (fun v_5 ev_5 => ?_)
  have q_6 : (0 ≤ v_3.toInt ∧ v_5.toInt = v_3.toInt) ∨ (v_3.toInt < 0 ∧ v_5.toInt = -v_3.toInt) := by rw [ev_5]; exact bn_absI (by omega)
  refine lv_istore_n (lv' := [(3, .int v_5), (0, .ref (h 28)), (1, .int x0), (2, .int x1)]) hx hb dX2_turns_14 rfl hl (by decide) rfl (fun ls hl => ?_)
  refine lv_aload_n hx hb dX2_turns_15 rfl (lv_at hl 1 rfl) ?_
  refine sl_gX_28_0_2 hx hb hts hown hK hP dX2_turns_16 ?_
  refine sl_gX_1_1_2 hx hb hts hown hK hP dX2_turns_19 ?_
  refine lv_iload_n hx hb dX2_turns_22 rfl (lv_at hl 2 rfl) ?_
  refine lv_iload_n hx hb dX2_turns_23 rfl (lv_at hl 3 rfl) ?_
  refine sg_iast hx hb hh hA hK hP hS 3 (by decide) 0 (fun _ => rfl) rfl (i := x0) (x := x1) (vp_in_iff.mpr ⟨by omega, by omega⟩) dX2_turns_24 (fun f_7 H locs ef_7 hP hS => ?_)
  have hI : sgI loX hiX f_7 := by rw [ef_7]; exact sgI.put hI 3 x0.toNatClampNeg (show 0 ≤ (x1 : Int32).toInt ∧ (x1 : Int32).toInt ≤ 60 from b1)
  have hF : sgK WkX2_turns f f_7 := sgK.put hF ef_7 (by rfl)
  refine lv_aload_n hx hb dX2_turns_25 rfl (lv_at hl 1 rfl) ?_
  refine sl_gX_28_2_2 hx hb hts hown hK hP dX2_turns_26 ?_
  refine lv_iconst (v := 1) hx hb dX2_turns_29 ic_1 ?_
  refine lv_dup2_11 hx hb dX2_turns_30 rfl rfl ?_
  refine sg_iald hx hb hK hP 29 (by decide) 0 rfl rfl (i := 1) (vp_in_iff.mpr (by decide)) dX2_turns_31 ?_
  refine lv_topi (fun v_8 ev_8 => ?_)
  refine lv_iload_n hx hb dX2_turns_32 rfl (lv_at hl 0 rfl) ?_
  refine lv_iadd hx hb dX2_turns_33 ?_
  refine lv_topi (fun v_9 ev_9 => ?_)
  refine sg_iast hx hb hh hA hK hP hS 29 (by decide) 0 (fun _ => rfl) rfl (i := 1) (x := v_9) (vp_in_iff.mpr (by decide)) dX2_turns_34 (fun f_10 H locs ef_10 hP hS => ?_)
  have hI : sgI loX hiX f_10 := by rw [ef_10]; exact sgI.put hI 29 (Int32.toNatClampNeg 1) (bn_top _)
  have hF : sgK WkX2_turns f f_10 := sgK.put hF ef_10 (by rfl)
  refine lv_iload_n hx hb dX2_turns_35 rfl (lv_at hl 0 rfl) ?_
  exact hret _ _ _ _ (v_5) f_10 L Q dX2_turns_36 hP hS ⟨⟨hI, hF, rfl, rfl⟩, ⟨by omega, by omega⟩, (Eq.trans (Eq.symm (hs.trans ((spl_e ev_1 (spl_e ev_3 (spl_e ev_5 (spl_e ef_7 (spl_e ev_8 (spl_e ev_9 (spl_e ef_10 rfl)))))))))) hsp)⟩

abbrev WkX11_set : List (Nat × Nat × Option Nat) := [(3, 3, none), (29, 29, none)]
set_option maxHeartbeats 4000000 in
set_option maxRecDepth 100000 in
theorem kX11_set (l : Launch) (D : va_G) (ca : Nat → ClassId) (za h : Nat → Nat) (hh : sgH 52 h) (f : sg_F) (L : sg_L) (Q : sg_Q) (hI : sgI loX hiX f) (x0 : Int32) (x1 : Int32) (sz : Nat) : Met l yX11_set gwX11_set { frames := 2, cells := 0, slots := 0, locals := 44 } (sgP D vwCl (tyX ca) 52 h (eX ca h) zcX za f L Q sz [.ref (h 0), .int x0, .int x1]) (sgQi D vwCl 52 h (eX ca h) sz (fun r f1 L1 Q1 => ((sgI loX hiX f1 ∧ sgK WkX11_set f f1 ∧ L1 = L ∧ Q1 = Q) ∧ ((-1) ≤ r.toInt ∧ r.toInt ≤ 60) ∧ (r, f1) = sX11_set x0 x1 f L))) 0 0 (sgA 52 h sz) := by
  refine sg_ofWi (cc := cX11_set) (maxL := 3) RX11 (by decide) rfl rfl (Nat.le_of_ble_eq_true rfl) ?_
  intro p e s m below meth cd Qz ls hx hb hml hown hts hK hZ hP hS hl hret
  have hA := sgY.self (n := 52) (h := h) (sz := s.heap.size)
  have hl : lv_has ls 3 [(0, .ref (h 0)), (1, .int x0), (2, .int x1)] := hl
  obtain ⟨H, hH⟩ : ∃ z : Heap, z = s.heap := ⟨_, rfl⟩
  obtain ⟨locs, hlo⟩ : ∃ z : List Loc, z = [] := ⟨_, rfl⟩
  have hP : va_P D vwCl (sgw 52 h (eX ca h) f L Q) H := by rw [hH]; exact hP
  have hS : va_S (sgA 52 h s.heap.size) s.heap H locs := by rw [hH, hlo]; exact hS
  suffices hgo : W p l e ({ frames := 2, cells := 0, slots := 0, locals := 44 }) s m ([.ref (h 0), .int x0, .int x1] : List Value).toArray below meth cd H locs 0 0 Qz (F0 m 0 ls []) by rw [hH, hlo] at hgo; exact hgo
  clear hH hlo
  obtain ⟨sp, hsp⟩ : ∃ z : Int32 × sg_F, z = sX11_set x0 x1 f L := ⟨_, rfl⟩
  have hs : sp = sX11_set x0 x1 f L := hsp
  have hF : sgK WkX11_set f f := sgK.rf
  refine lv_iload_n hx hb dX11_set_0 rfl (lv_at hl 1 rfl) ?_
  refine sg_calli (va_runS (As := [.int x0]) (rest := []) ⟨hx, hb, hml, hown, hts⟩ (kX11_isPart l D ca za h hh f L Q hI x0 H.size) (va_cwS 1 hts (gw_S (fun _ h => List.mem_cons_of_mem _ h) mw_58 mw_59 mw_37 mw_57) rfl rfl rfl hd_yX11_isPart.2 ⟨Nat.le_of_ble_eq_true rfl, Nat.le_of_ble_eq_true rfl⟩) (sg_preS hA hK hP hS hZ) rfl rfl hl.1 rfl (lv_room (Nat.le_of_ble_eq_true rfl)) dX11_set_1 ⟨Nat.le_refl _, Nat.le_refl _⟩) hA hS (fun r_4 f_1 L_2 Q_3 H locs hq hP hS => ?_)
  obtain ⟨⟨ef9, eL9, eQ9⟩, hq, u_5⟩ := hq
  replace hs := hs.trans (spl_e u_5 rfl)
  rw [ef9, eL9, eQ9] at hP; clear ef9 eL9 eQ9
  rcases hq with ⟨rfl, hq⟩ | ⟨rfl, hq⟩
  · skip
    have hc_6 := hq
    refine lv_if_eq (tgt := 26) hx hb dX11_set_4 (by decide) (fun c => absurd c (by decide)) (fun c => ?_)
    refine lv_iload_n hx hb dX11_set_7 rfl (lv_at hl 2 rfl) ?_
    refine sg_calli (va_runS (As := [.int x1]) (rest := []) ⟨hx, hb, hml, hown, hts⟩ (kX11_isSetting l D ca za h hh f L Q hI x1 H.size) (va_cwS 1 hts (gw_S (fun _ h => List.mem_cons_of_mem _ h) mw_61 mw_62 mw_37 mw_60) rfl rfl rfl hd_yX11_isSetting.2 ⟨Nat.le_of_ble_eq_true rfl, Nat.le_of_ble_eq_true rfl⟩) (sg_preS hA hK hP hS hZ) rfl rfl hl.1 rfl (lv_room (Nat.le_of_ble_eq_true rfl)) dX11_set_8 ⟨Nat.le_refl _, Nat.le_refl _⟩) hA hS (fun r_10 f_7 L_8 Q_9 H locs hq hP hS => ?_)
    obtain ⟨⟨ef9, eL9, eQ9⟩, hq, u_11⟩ := hq
    replace hs := hs.trans ((if_pos rfl).trans (spl_e u_11 rfl))
    rw [ef9, eL9, eQ9] at hP; clear ef9 eL9 eQ9
    rcases hq with ⟨rfl, hq⟩ | ⟨rfl, hq⟩
    · skip
      have hc_12 := hq
      refine lv_if_eq (tgt := 26) hx hb dX11_set_11 (by decide) (fun c => absurd c (by decide)) (fun c => ?_)
      refine lv_aload_n hx hb dX11_set_14 rfl (lv_at hl 0 rfl) ?_
      refine sl_gX_0_6_11 hx hb hts hown hK hP dX11_set_15 ?_
      refine lv_iload_n hx hb dX11_set_18 rfl (lv_at hl 1 rfl) ?_
      refine lv_iload_n hx hb dX11_set_19 rfl (lv_at hl 2 rfl) ?_
      refine sg_calli (va_runV (As := [.int x0, .int x1]) (rest := []) ⟨hx, hb, hml, hown, hts⟩ (kX2_turns l D ca za h hh f L Q hI x0 x1 ⟨by omega, by omega⟩ ⟨by omega, by omega⟩ H.size) (sl_c2_turns_1_0_0_21_11 hts ⟨Nat.le_of_ble_eq_true rfl, Nat.le_of_ble_eq_true rfl⟩) (sl_vX_28 hA hK hP hS hZ) rfl rfl hl.1 rfl (lv_room (Nat.le_of_ble_eq_true rfl)) dX11_set_20 ⟨Nat.le_refl _, Nat.le_refl _⟩) hA hS (fun r_16 f_13 L_14 Q_15 H locs hq hP hS => ?_)
      obtain ⟨⟨hI, hk_f_13, eL9, eQ9⟩, hq, u_17⟩ := hq
      rw [eL9, eQ9] at hP; clear eL9 eQ9
      have hF : sgK WkX11_set f f_13 := sgK.tr hF hk_f_13 (by decide +kernel)
      refine lv_goto (tgt := 27) hx hb dX11_set_23 (by decide) ?_
      exact hret _ _ _ _ (r_16) f_13 L Q dX11_set_27 hP hS ⟨⟨hI, hF, rfl, rfl⟩, ⟨by omega, by omega⟩, (Eq.trans (Eq.symm (hs.trans ((if_pos rfl).trans (spl2_e u_17 rfl)))) hsp)⟩
    · skip
      have hc_12 := hq
      refine lv_if_eq (tgt := 26) hx hb dX11_set_11 (by decide) (fun c => ?_) (fun c => absurd c (by decide))
      refine lv_iconst (v := (-1)) hx hb dX11_set_26 ic_m1 ?_
      have k99 : ((-1) : Int32).toInt = (-1) := ti_m1
      exact hret _ _ _ _ (-1) f L Q dX11_set_27 hP hS ⟨⟨hI, hF, rfl, rfl⟩, (by decide), (Eq.trans (Eq.symm (hs.trans ((if_neg (by decide)).trans rfl))) hsp)⟩
  · skip
    have hc_6 := hq
    refine lv_if_eq (tgt := 26) hx hb dX11_set_4 (by decide) (fun c => ?_) (fun c => absurd c (by decide))
    refine lv_iconst (v := (-1)) hx hb dX11_set_26 ic_m1 ?_
    have k99 : ((-1) : Int32).toInt = (-1) := ti_m1
    exact hret _ _ _ _ (-1) f L Q dX11_set_27 hP hS ⟨⟨hI, hF, rfl, rfl⟩, (by decide), (Eq.trans (Eq.symm (hs.trans ((if_neg (by decide)).trans rfl))) hsp)⟩

abbrev WkX2_allSlip : List (Nat × Nat × Option Nat) := [(3, 3, none)]
set_option maxHeartbeats 4000000 in
set_option maxRecDepth 100000 in
theorem kX2_allSlip (l : Launch) (D : va_G) (ca : Nat → ClassId) (za h : Nat → Nat) (hh : sgH 52 h) (f : sg_F) (L : sg_L) (Q : sg_Q) (hI : sgI loX hiX f) (sz : Nat) : Met l yX2_allSlip gwX2_allSlip { frames := 2, cells := 0, slots := 0, locals := 43 } (sgP D vwCl (tyX ca) 52 h (eX ca h) zcX za f L Q sz [.ref (h 28)]) (sgQi D vwCl 52 h (eX ca h) sz (fun r f1 L1 Q1 => ((sgI loX hiX f1 ∧ sgK WkX2_allSlip f f1 ∧ L1 = L ∧ Q1 = Q) ∧ True ∧ (r, f1) = sX2_allSlip f L))) 0 0 (sgA 52 h sz) := by
  refine sg_ofWi (cc := cX2_allSlip) (maxL := 4) RX2 (by decide) rfl rfl (Nat.le_of_ble_eq_true rfl) ?_
  intro p e s m below meth cd Qz ls hx hb hml hown hts hK hZ hP hS hl hret
  have hA := sgY.self (n := 52) (h := h) (sz := s.heap.size)
  have hl : lv_has ls 4 [(0, .ref (h 28))] := hl
  obtain ⟨H, hH⟩ : ∃ z : Heap, z = s.heap := ⟨_, rfl⟩
  obtain ⟨locs, hlo⟩ : ∃ z : List Loc, z = [] := ⟨_, rfl⟩
  have hP : va_P D vwCl (sgw 52 h (eX ca h) f L Q) H := by rw [hH]; exact hP
  have hS : va_S (sgA 52 h s.heap.size) s.heap H locs := by rw [hH, hlo]; exact hS
  suffices hgo : W p l e ({ frames := 2, cells := 0, slots := 0, locals := 43 }) s m ([.ref (h 28)] : List Value).toArray below meth cd H locs 0 0 Qz (F0 m 0 ls []) by rw [hH, hlo] at hgo; exact hgo
  clear hH hlo
  obtain ⟨sp, hsp⟩ : ∃ z : Int32 × sg_F, z = sX2_allSlip f L := ⟨_, rfl⟩
  have hs : sp = sX2_allSlip f L := hsp
  have hF : sgK WkX2_allSlip f f := sgK.rf
  have loop_4 : ∀ (n_4 : Nat) (y1_4 : Int32) (y2_4 : Int32) (fp_4 : sg_F) (H : Heap) (locs : List Loc) (ls : Array Slot), sp = sX2_allSlip_l4 n_4 y1_4 y2_4 fp_4 L → 3 - y2_4.toInt < (n_4 : Int) → 0 ≤ y2_4.toInt ∧ y2_4.toInt ≤ 3 → sgI loX hiX fp_4 → sgK WkX2_allSlip f fp_4 → va_P D vwCl (sgw 52 h (eX ca h) fp_4 L Q) H → va_S (sgA 52 h s.heap.size) s.heap H locs → lv_has ls 4 [(0, .ref (h 28)), (1, .int y1_4), (2, .int y2_4)] → W p l e ({ frames := 2, cells := 0, slots := 0, locals := 43 }) s m ([.ref (h 28)] : List Value).toArray below meth cd H locs 0 0 Qz (F0 m 4 ls []) := by
    intro n_4
    induction n_4 with
    | zero => intro y1_4 y2_4 fp_4 H locs ls hs hm_4 hy0_4 hI hF hP hS hl; exact absurd hm_4 (by omega)
    | succ n_4 ih_4 =>
      have blk_43 : ∀ (y1_43 : Int32) (y2_43 : Int32) (y3_43 : Int32) (fp_43 : sg_F) (H : Heap) (locs : List Loc) (ls : Array Slot), sp = sX2_allSlip_b43 (sX2_allSlip_l4 n_4) y1_43 y2_43 y3_43 fp_43 L → 3 - y2_43.toInt < ((n_4 + 1 : Nat) : Int) → 0 ≤ y2_43.toInt ∧ y2_43.toInt ≤ 2 → 0 ≤ y3_43.toInt ∧ y3_43.toInt ≤ 60 → sgI loX hiX fp_43 → sgK WkX2_allSlip f fp_43 → va_P D vwCl (sgw 52 h (eX ca h) fp_43 L Q) H → va_S (sgA 52 h s.heap.size) s.heap H locs → lv_has ls 4 [(0, .ref (h 28)), (1, .int y1_43), (2, .int y2_43), (3, .int y3_43)] → W p l e ({ frames := 2, cells := 0, slots := 0, locals := 43 }) s m ([.ref (h 28)] : List Value).toArray below meth cd H locs 0 0 Qz (F0 m 43 ls []) := by
        intro y1_43 y2_43 y3_43 fp_43 H locs ls hs hm_4 hy0_43 hy1_43 hI hF hP hS hl
        refine lv_aload_n hx hb dX2_allSlip_43 rfl (lv_at hl 0 rfl) ?_
        refine sl_gX_28_0_2 hx hb hts hown hK hP dX2_allSlip_44 ?_
        refine sl_gX_1_1_2 hx hb hts hown hK hP dX2_allSlip_47 ?_
        refine lv_iload_n hx hb dX2_allSlip_50 rfl (lv_at hl 2 rfl) ?_
        refine lv_iload_n hx hb dX2_allSlip_51 rfl (lv_at hl 3 rfl) ?_
        refine sg_iast hx hb hh hA hK hP hS 3 (by decide) 0 (fun _ => rfl) rfl (i := y2_43) (x := y3_43) (vp_in_iff.mpr ⟨by omega, by omega⟩) dX2_allSlip_52 (fun f_1 H locs ef_1 hP hS => ?_)
        have hI : sgI loX hiX f_1 := by rw [ef_1]; exact sgI.put hI 3 y2_43.toNatClampNeg (show 0 ≤ (y3_43 : Int32).toInt ∧ (y3_43 : Int32).toInt ≤ 60 from hy1_43)
        have hF : sgK WkX2_allSlip f f_1 := sgK.put hF ef_1 (by rfl)
        obtain ⟨v_2, ev_2⟩ : ∃ z : Int32, z = y2_43 + 1 := ⟨_, rfl⟩
        have q_3 : v_2.toInt = y2_43.toInt + 1 := by rw [ev_2]; exact (bn_addc y2_43 1 (by decide) (by omega) (by omega))
        refine lv_iinc (v := v_2) (lv' := [(2, .int v_2), (0, .ref (h 28)), (1, .int y1_43), (3, .int y3_43)]) hx hb dX2_allSlip_53 hl (k := 2) rfl (by rw [ev_2]; rfl) (by decide) rfl (fun ls hl => ?_)
        refine lv_goto (tgt := 4) hx hb dX2_allSlip_56 (by decide) ?_
        exact ih_4 y1_43 v_2 f_1 _ _ _ (hs.trans ((spl_e ef_1 (spl_e ev_2 rfl)))) (by omega) ⟨by omega, by omega⟩ hI hF hP hS (lv_sub hl [1, 2, 0] rfl)
      intro y1_4 y2_4 fp_4 H locs ls hs hm_4 hy0_4 hI hF hP hS hl
      have hs : sp = sX2_allSlip_h4 (sX2_allSlip_l4 n_4) y1_4 y2_4 fp_4 L := hs
      refine lv_iload_n hx hb dX2_allSlip_4 rfl (lv_at hl 2 rfl) ?_
      refine lv_iconst (v := 3) hx hb dX2_allSlip_5 ic_3 ?_
      refine lv_icmp_ge (tgt := 59) hx hb dX2_allSlip_6 (by decide) (fun c => ?_) (fun c => ?_)
      · skip
        have c_4 : 3 ≤ y2_4.toInt := (by first | exact (cm_le0 ti_3 c) | (have z := bn_le c; have k1 : (3 : Int32).toInt = 3 := ti_3; omega))
        refine lv_iload_n hx hb dX2_allSlip_59 rfl (lv_at hl 1 rfl) ?_
        exact hret _ _ _ _ (y1_4) fp_4 L Q dX2_allSlip_60 hP hS ⟨⟨hI, hF, rfl, rfl⟩, trivial, (Eq.trans (Eq.symm (hs.trans (((if_neg (Int.not_lt.mpr c_4)).trans rfl)))) hsp)⟩
      · skip
        have c_5 : y2_4.toInt < 3 := (by first | exact (cm_nle0 ti_3 c) | (have z := bn_nle c; have k1 : (3 : Int32).toInt = 3 := ti_3; omega))
        refine lv_aload_n hx hb dX2_allSlip_9 rfl (lv_at hl 0 rfl) ?_
        refine sl_gX_28_0_2 hx hb hts hown hK hP dX2_allSlip_10 ?_
        refine lv_iload_n hx hb dX2_allSlip_13 rfl (lv_at hl 2 rfl) ?_
        refine lv_aload_n hx hb dX2_allSlip_14 rfl (lv_at hl 0 rfl) ?_
        refine sl_gX_28_0_2 hx hb hts hown hK hP dX2_allSlip_15 ?_
        refine sl_gX_1_1_2 hx hb hts hown hK hP dX2_allSlip_18 ?_
        refine lv_iload_n hx hb dX2_allSlip_21 rfl (lv_at hl 2 rfl) ?_
        refine sg_iald hx hb hK hP 3 (by decide) 0 rfl rfl (i := y2_4) (vp_in_iff.mpr ⟨by omega, by omega⟩) dX2_allSlip_22 ?_
        refine lv_topi (fun v_6 ev_6 => ?_)
        have q_7 : 0 ≤ v_6.toInt ∧ v_6.toInt ≤ 60 := by rw [ev_6]; exact hI 3 _
        refine sg_calli (va_runV (As := [.int y2_4, .int v_6]) (rest := []) ⟨hx, hb, hml, hown, hts⟩ (kX0_slipped l D ca za h hh fp_4 L Q hI y2_4 v_6 ⟨by omega, by omega⟩ q_7 H.size) (sl_c0_slipped_1_0_0_21_2 hts ⟨Nat.le_of_ble_eq_true rfl, Nat.le_of_ble_eq_true rfl⟩) (sl_vX_1 hA hK hP hS hZ) rfl rfl hl.1 rfl (lv_room (Nat.le_of_ble_eq_true rfl)) dX2_allSlip_23 ⟨Nat.le_refl _, Nat.le_refl _⟩) hA hS (fun r_11 f_8 L_9 Q_10 H locs hq hP hS => ?_)
        obtain ⟨⟨ef9, eL9, eQ9⟩, hq, u_12⟩ := hq
        replace hs := hs.trans ((if_pos c_5).trans (spl_e ev_6 (spl_e u_12 rfl)))
        rw [ef9, eL9, eQ9] at hP; clear ef9 eL9 eQ9
        refine lv_istore_n (lv' := [(3, .int r_11), (0, .ref (h 28)), (1, .int y1_4), (2, .int y2_4)]) hx hb dX2_allSlip_26 rfl hl (by decide) rfl (fun ls hl => ?_)
        refine lv_iload_n hx hb dX2_allSlip_27 rfl (lv_at hl 0 rfl) ?_
        refine lv_aload_n hx hb dX2_allSlip_28 rfl (lv_at hl 1 rfl) ?_
        refine sl_gX_28_0_2 hx hb hts hown hK hP dX2_allSlip_29 ?_
        refine sl_gX_1_1_2 hx hb hts hown hK hP dX2_allSlip_32 ?_
        refine lv_iload_n hx hb dX2_allSlip_35 rfl (lv_at hl 3 rfl) ?_
        refine sg_iald hx hb hK hP 3 (by decide) 0 rfl rfl (i := y2_4) (vp_in_iff.mpr ⟨by omega, by omega⟩) dX2_allSlip_36 ?_
        rw [← ev_6]
        refine lv_icmp_eq (tgt := 43) hx hb dX2_allSlip_37 (by decide) (fun c => ?_) (fun c => ?_)
        · skip
          have c_13 : r_11.toInt = v_6.toInt := (by first | exact (Int32.toInt_inj.mpr c) | (have z := Int32.toInt_inj.mpr c; omega))
          exact blk_43 y1_4 y2_4 r_11 fp_4 _ _ _ (hs.trans ((if_pos c_13).trans rfl)) (by omega) ⟨by omega, by omega⟩ ⟨by omega, by omega⟩ hI hF hP hS (lv_sub hl [1, 2, 3, 0] rfl)
        · skip
          have c_14 : r_11.toInt ≠ v_6.toInt := (by first | exact (bn_ne c) | (have z := bn_ne c; omega))
          obtain ⟨v_15, ev_15⟩ : ∃ z : Int32, z = y1_4 + 1 := ⟨_, rfl⟩
          refine lv_iinc (v := v_15) (lv' := [(1, .int v_15), (3, .int r_11), (0, .ref (h 28)), (2, .int y2_4)]) hx hb dX2_allSlip_40 hl (k := 2) rfl (by rw [ev_15]; rfl) (by decide) rfl (fun ls hl => ?_)
          exact blk_43 v_15 y2_4 r_11 fp_4 _ _ _ (hs.trans ((if_neg c_14).trans (spl_e ev_15 rfl))) (by omega) ⟨by omega, by omega⟩ ⟨by omega, by omega⟩ hI hF hP hS (lv_sub hl [2, 0, 3, 1] rfl)
  refine lv_iconst (v := 0) hx hb dX2_allSlip_0 ic_0 ?_
  refine lv_istore_n (lv' := [(1, .int 0), (0, .ref (h 28))]) hx hb dX2_allSlip_1 rfl hl (by decide) rfl (fun ls hl => ?_)
  refine lv_iconst (v := 0) hx hb dX2_allSlip_2 ic_0 ?_
  refine lv_istore_n (lv' := [(2, .int 0), (1, .int 0), (0, .ref (h 28))]) hx hb dX2_allSlip_3 rfl hl (by decide) rfl (fun ls hl => ?_)
  exact loop_4 4 0 0 f _ _ _ hs (by have kc0 : (0 : Int32).toInt = 0 := ti_0; have kc1 : (0 : Int32).toInt = 0 := ti_0; omega) (by decide) hI hF hP hS (lv_sub hl [2, 1, 0] rfl)

abbrev WkX11_night : List (Nat × Nat × Option Nat) := [(3, 3, none)]
set_option maxHeartbeats 4000000 in
set_option maxRecDepth 100000 in
theorem kX11_night (l : Launch) (D : va_G) (ca : Nat → ClassId) (za h : Nat → Nat) (hh : sgH 52 h) (f : sg_F) (L : sg_L) (Q : sg_Q) (hI : sgI loX hiX f) (sz : Nat) : Met l yX11_night gwX11_night { frames := 3, cells := 0, slots := 0, locals := 66 } (sgP D vwCl (tyX ca) 52 h (eX ca h) zcX za f L Q sz [.ref (h 0)]) (sgQi D vwCl 52 h (eX ca h) sz (fun r f1 L1 Q1 => ((sgI loX hiX f1 ∧ sgK WkX11_night f f1 ∧ L1 = L ∧ Q1 = Q) ∧ True ∧ (r, f1) = sX11_night f L))) 0 0 (sgA 52 h sz) := by
  refine sg_ofWi (cc := cX11_night) (maxL := 1) RX11 (by decide) rfl rfl (Nat.le_of_ble_eq_true rfl) ?_
  intro p e s m below meth cd Qz ls hx hb hml hown hts hK hZ hP hS hl hret
  have hA := sgY.self (n := 52) (h := h) (sz := s.heap.size)
  have hl : lv_has ls 1 [(0, .ref (h 0))] := hl
  obtain ⟨H, hH⟩ : ∃ z : Heap, z = s.heap := ⟨_, rfl⟩
  obtain ⟨locs, hlo⟩ : ∃ z : List Loc, z = [] := ⟨_, rfl⟩
  have hP : va_P D vwCl (sgw 52 h (eX ca h) f L Q) H := by rw [hH]; exact hP
  have hS : va_S (sgA 52 h s.heap.size) s.heap H locs := by rw [hH, hlo]; exact hS
  suffices hgo : W p l e ({ frames := 3, cells := 0, slots := 0, locals := 66 }) s m ([.ref (h 0)] : List Value).toArray below meth cd H locs 0 0 Qz (F0 m 0 ls []) by rw [hH, hlo] at hgo; exact hgo
  clear hH hlo
  obtain ⟨sp, hsp⟩ : ∃ z : Int32 × sg_F, z = sX11_night f L := ⟨_, rfl⟩
  have hs : sp = sX11_night f L := hsp
  have hF : sgK WkX11_night f f := sgK.rf
  refine lv_aload_n hx hb dX11_night_0 rfl (lv_at hl 0 rfl) ?_
  refine sl_gX_0_6_11 hx hb hts hown hK hP dX11_night_1 ?_
  refine sg_calli (va_runV (As := []) (rest := []) ⟨hx, hb, hml, hown, hts⟩ (kX2_allSlip l D ca za h hh f L Q hI H.size) (sl_c2_allSlip_2_0_0_43_11 hts ⟨Nat.le_of_ble_eq_true rfl, Nat.le_of_ble_eq_true rfl⟩) (sl_vX_28 hA hK hP hS hZ) rfl rfl hl.1 rfl (lv_room (Nat.le_of_ble_eq_true rfl)) dX11_night_4 ⟨Nat.le_refl _, Nat.le_refl _⟩) hA hS (fun r_4 f_1 L_2 Q_3 H locs hq hP hS => ?_)
  obtain ⟨⟨hI, hk_f_1, eL9, eQ9⟩, hq, u_5⟩ := hq
  rw [eL9, eQ9] at hP; clear eL9 eQ9
  have hF : sgK WkX11_night f f_1 := sgK.tr hF hk_f_1 (by decide +kernel)
  exact hret _ _ _ _ (r_4) f_1 L Q dX11_night_7 hP hS ⟨⟨hI, hF, rfl, rfl⟩, trivial, (Eq.trans (Eq.symm (hs.trans ((spl2_e u_5 rfl)))) hsp)⟩

set_option maxHeartbeats 4000000 in
set_option maxRecDepth 100000 in
theorem kX11_led (l : Launch) (D : va_G) (ca : Nat → ClassId) (za h : Nat → Nat) (hh : sgH 52 h) (f : sg_F) (L : sg_L) (Q : sg_Q) (hI : sgI loX hiX f) (x0 : Int32) (sz : Nat) : Met l yX11_led gwX11_led { frames := 0, cells := 0, slots := 0, locals := 0 } (sgP D vwCl (tyX ca) 52 h (eX ca h) zcX za f L Q sz [.ref (h 0), .int x0]) (sgQi D vwCl 52 h (eX ca h) sz (fun r f1 L1 Q1 => ((f1 = f ∧ L1 = L ∧ Q1 = Q) ∧ True ∧ (r) = sX11_led x0 f L))) 0 0 (sgA 52 h sz) := by
  refine sg_ofWi (cc := cX11_led) (maxL := 2) RX11 (by decide) rfl rfl (Nat.le_of_ble_eq_true rfl) ?_
  intro p e s m below meth cd Qz ls hx hb hml hown hts hK hZ hP hS hl hret
  have hA := sgY.self (n := 52) (h := h) (sz := s.heap.size)
  have hl : lv_has ls 2 [(0, .ref (h 0)), (1, .int x0)] := hl
  obtain ⟨H, hH⟩ : ∃ z : Heap, z = s.heap := ⟨_, rfl⟩
  obtain ⟨locs, hlo⟩ : ∃ z : List Loc, z = [] := ⟨_, rfl⟩
  have hP : va_P D vwCl (sgw 52 h (eX ca h) f L Q) H := by rw [hH]; exact hP
  have hS : va_S (sgA 52 h s.heap.size) s.heap H locs := by rw [hH, hlo]; exact hS
  suffices hgo : W p l e ({ frames := 0, cells := 0, slots := 0, locals := 0 }) s m ([.ref (h 0), .int x0] : List Value).toArray below meth cd H locs 0 0 Qz (F0 m 0 ls []) by rw [hH, hlo] at hgo; exact hgo
  clear hH hlo
  obtain ⟨sp, hsp⟩ : ∃ z : Int32, z = sX11_led x0 f L := ⟨_, rfl⟩
  have hs : sp = sX11_led x0 f L := hsp
  refine lv_iload_n hx hb dX11_led_0 rfl (lv_at hl 1 rfl) ?_
  refine lv_if_lt (tgt := 9) hx hb dX11_led_1 (by decide) (fun c => ?_) (fun c => ?_)
  · skip
    have c_1 : x0.toInt < 0 := (by first | exact (cm_lt1 ti_0 c) | (have z := bn_lt c; have k1 : (0 : Int32).toInt = 0 := ti_0; omega))
    refine lv_iconst (v := (-1)) hx hb dX11_led_9 ic_m1 ?_
    refine lv_goto (tgt := 22) hx hb dX11_led_10 (by decide) ?_
    have k99 : ((-1) : Int32).toInt = (-1) := ti_m1
    exact hret _ _ _ _ (-1) f L Q dX11_led_22 hP hS ⟨⟨rfl, rfl, rfl⟩, trivial, (Eq.trans (Eq.symm (hs.trans (((if_pos c_1).trans rfl)))) hsp)⟩
  · skip
    have c_2 : 0 ≤ x0.toInt := (by first | exact (cm_nlt1 ti_0 c) | (have z := bn_nlt c; have k1 : (0 : Int32).toInt = 0 := ti_0; omega))
    replace hs := hs.trans ((if_neg (Int.not_lt.mpr c_2)).trans rfl)
    refine lv_iload_n hx hb dX11_led_4 rfl (lv_at hl 1 rfl) ?_
    refine lv_iconst (v := 5) hx hb dX11_led_5 ic_5 ?_
    refine lv_icmp_lt (tgt := 13) hx hb dX11_led_6 (by decide) (fun c => ?_) (fun c => ?_)
    · skip
      have c_3 : x0.toInt < 5 := (by first | exact (cm_lt1 ti_5 c) | (have z := bn_lt c; have k1 : (5 : Int32).toInt = 5 := ti_5; omega))
      refine lv_aload_n hx hb dX11_led_13 rfl (lv_at hl 0 rfl) ?_
      refine sl_gX_0_6_11 hx hb hts hown hK hP dX11_led_14 ?_
      refine sl_gX_28_2_11 hx hb hts hown hK hP dX11_led_17 ?_
      refine lv_iload_n hx hb dX11_led_20 rfl (lv_at hl 1 rfl) ?_
      refine sg_iald hx hb hK hP 29 (by decide) 0 rfl rfl (i := x0) (vp_in_iff.mpr ⟨by omega, by omega⟩) dX11_led_21 ?_
      refine lv_topi (fun v_5 ev_5 => ?_)
      exact hret _ _ _ _ (v_5) f L Q dX11_led_22 hP hS ⟨⟨rfl, rfl, rfl⟩, trivial, (Eq.trans (Eq.symm (hs.trans ((if_pos c_3).trans (spl_e ev_5 rfl)))) hsp)⟩
    · skip
      have c_4 : 5 ≤ x0.toInt := (by first | exact (cm_nlt1 ti_5 c) | (have z := bn_nlt c; have k1 : (5 : Int32).toInt = 5 := ti_5; omega))
      refine lv_iconst (v := (-1)) hx hb dX11_led_9 ic_m1 ?_
      refine lv_goto (tgt := 22) hx hb dX11_led_10 (by decide) ?_
      have k99 : ((-1) : Int32).toInt = (-1) := ti_m1
      exact hret _ _ _ _ (-1) f L Q dX11_led_22 hP hS ⟨⟨rfl, rfl, rfl⟩, trivial, (Eq.trans (Eq.symm (hs.trans ((if_neg (Int.not_lt.mpr c_4)).trans rfl))) hsp)⟩

abbrev WkX2_keepImage : List (Nat × Nat × Option Nat) := [(28, 28, some 5), (30, 30, none), (31, 31, none)]
set_option maxHeartbeats 4000000 in
set_option maxRecDepth 100000 in
theorem kX2_keepImage (l : Launch) (D : va_G) (ca : Nat → ClassId) (za h : Nat → Nat) (hh : sgH 52 h) (f : sg_F) (L : sg_L) (Q : sg_Q) (hI : sgI loX hiX f) (sz : Nat) : Met l yX2_keepImage gwX2_keepImage { frames := 1, cells := 0, slots := 0, locals := 64 } (sgP D vwCl (tyX ca) 52 h (eX ca h) zcX za f L Q sz [.ref (h 28)]) (sgQi D vwCl 52 h (eX ca h) sz (fun r f1 L1 Q1 => ((sgI loX hiX f1 ∧ sgK WkX2_keepImage f f1 ∧ L1 = L ∧ Q1 = Q) ∧ True ∧ (r, f1) = sX2_keepImage f L))) 0 0 (sgA 52 h sz) := by
  refine sg_ofWi (cc := cX2_keepImage) (maxL := 1) RX2 (by decide) rfl rfl (Nat.le_of_ble_eq_true rfl) ?_
  intro p e s m below meth cd Qz ls hx hb hml hown hts hK hZ hP hS hl hret
  have hA := sgY.self (n := 52) (h := h) (sz := s.heap.size)
  have hl : lv_has ls 1 [(0, .ref (h 28))] := hl
  obtain ⟨H, hH⟩ : ∃ z : Heap, z = s.heap := ⟨_, rfl⟩
  obtain ⟨locs, hlo⟩ : ∃ z : List Loc, z = [] := ⟨_, rfl⟩
  have hP : va_P D vwCl (sgw 52 h (eX ca h) f L Q) H := by rw [hH]; exact hP
  have hS : va_S (sgA 52 h s.heap.size) s.heap H locs := by rw [hH, hlo]; exact hS
  suffices hgo : W p l e ({ frames := 1, cells := 0, slots := 0, locals := 64 }) s m ([.ref (h 28)] : List Value).toArray below meth cd H locs 0 0 Qz (F0 m 0 ls []) by rw [hH, hlo] at hgo; exact hgo
  clear hH hlo
  obtain ⟨sp, hsp⟩ : ∃ z : Int32 × sg_F, z = sX2_keepImage f L := ⟨_, rfl⟩
  have hs : sp = sX2_keepImage f L := hsp
  have hF : sgK WkX2_keepImage f f := sgK.rf
  refine lv_aload_n hx hb dX2_keepImage_0 rfl (lv_at hl 0 rfl) ?_
  refine sl_gX_28_2_2 hx hb hts hown hK hP dX2_keepImage_1 ?_
  refine lv_iconst (v := 0) hx hb dX2_keepImage_4 ic_0 ?_
  refine lv_aload_n hx hb dX2_keepImage_5 rfl (lv_at hl 0 rfl) ?_
  refine sl_gX_28_3_2 hx hb hts hown hK hP dX2_keepImage_6 ?_
  refine lv_iconst (v := 0) hx hb dX2_keepImage_9 ic_0 ?_
  refine lv_iconst (v := 5) hx hb dX2_keepImage_10 ic_5 ?_
  refine sg_copyi hx hb (hml.trans hl.1.symm) hown (hts _ (List.mem_cons_of_mem _ mw_21)) (hts _ (List.mem_cons_of_mem _ mw_22)) (hts _ (List.mem_cons_of_mem _ mw_23)) (hts _ (List.mem_cons_of_mem _ mw_24)) hh hA hK hP hS 29 30 (by decide) (by decide) 0 0 rfl (fun _ => rfl) rfl rfl (sp := 0) (dp := 0) (nn := 5) (by decide) (by decide) (by decide) (by decide) (by decide) (Nat.le_of_ble_eq_true rfl) (Nat.le_of_ble_eq_true rfl) dX2_keepImage_11 (fun f_1 H locs ef_1 hP hS => ?_)
  have hI : sgI loX hiX f_1 := by rw [ef_1]; exact sgI.cpy hI 29 30 (fun _ _ => ⟨by show ((-2147483648) : Int) ≤ (-2147483648); decide, by show (2147483647 : Int) ≤ 2147483647; decide⟩)
  have hF : sgK WkX2_keepImage f f_1 := sgK.row hF ef_1 (fun _ => by rfl)
  refine lv_aload_n hx hb dX2_keepImage_14 rfl (lv_at hl 0 rfl) ?_
  refine sl_gX_28_0_2 hx hb hts hown hK hP dX2_keepImage_15 ?_
  refine sl_gX_1_1_2 hx hb hts hown hK hP dX2_keepImage_18 ?_
  refine lv_iconst (v := 0) hx hb dX2_keepImage_21 ic_0 ?_
  refine lv_aload_n hx hb dX2_keepImage_22 rfl (lv_at hl 0 rfl) ?_
  refine sl_gX_28_4_2 hx hb hts hown hK hP dX2_keepImage_23 ?_
  refine lv_iconst (v := 0) hx hb dX2_keepImage_26 ic_0 ?_
  refine lv_iconst (v := 3) hx hb dX2_keepImage_27 ic_3 ?_
  refine sg_copyi hx hb (hml.trans hl.1.symm) hown (hts _ (List.mem_cons_of_mem _ mw_21)) (hts _ (List.mem_cons_of_mem _ mw_22)) (hts _ (List.mem_cons_of_mem _ mw_23)) (hts _ (List.mem_cons_of_mem _ mw_24)) hh hA hK hP hS 3 31 (by decide) (by decide) 0 0 rfl (fun _ => rfl) rfl rfl (sp := 0) (dp := 0) (nn := 3) (by decide) (by decide) (by decide) (by decide) (by decide) (Nat.le_of_ble_eq_true rfl) (Nat.le_of_ble_eq_true rfl) dX2_keepImage_28 (fun f_2 H locs ef_2 hP hS => ?_)
  have hI : sgI loX hiX f_2 := by rw [ef_2]; exact sgI.cpy hI 3 31 (fun _ _ => ⟨by show (0 : Int) ≤ 0; decide, by show (60 : Int) ≤ 60; decide⟩)
  have hF : sgK WkX2_keepImage f f_2 := sgK.row hF ef_2 (fun _ => by rfl)
  refine lv_aload_n hx hb dX2_keepImage_31 rfl (lv_at hl 0 rfl) ?_
  refine lv_iconst (v := 1) hx hb dX2_keepImage_32 ic_1 ?_
  refine sg_put (ci := 2) (x := 1) (ty := .boolean) (C := RX2) (T := TX2) (N := 6) hx hb hts (fun w h => List.mem_cons_of_mem _ (gx_2 w h)) tyX2 tyX2_ok nmX2 hown hh hA hK hP hS 28 (by decide) rfl rfl 5 (by decide) (hts _ (List.mem_cons_of_mem _ mw_18)) (fun _ h9 => h9) rfl rfl (by decide +kernel) (by decide) (by decide) (Nat.le_of_ble_eq_true rfl) dX2_keepImage_33 (fun f_3 H locs ef_3 hP hS => ?_)
  have hI : sgI loX hiX f_3 := by rw [ef_3]; exact sgI.put hI 28 5 (show 0 ≤ (1 : Int32).toInt ∧ (1 : Int32).toInt ≤ 1 from by decide)
  have hF : sgK WkX2_keepImage f f_3 := sgK.put hF ef_3 (by rfl)
  refine lv_aload_n hx hb dX2_keepImage_36 rfl (lv_at hl 0 rfl) ?_
  refine sl_gX_28_2_2 hx hb hts hown hK hP dX2_keepImage_37 ?_
  refine lv_iconst (v := 0) hx hb dX2_keepImage_40 ic_0 ?_
  refine sg_iald hx hb hK hP 29 (by decide) 0 rfl rfl (i := 0) (vp_in_iff.mpr (by decide)) dX2_keepImage_41 ?_
  refine lv_topi (fun v_4 ev_4 => ?_)
  exact hret _ _ _ _ (v_4) f_3 L Q dX2_keepImage_42 hP hS ⟨⟨hI, hF, rfl, rfl⟩, trivial, (Eq.trans (Eq.symm (hs.trans ((spl_e ef_1 (spl_e ef_2 (spl_e ef_3 (spl_e ev_4 rfl))))))) hsp)⟩

abbrev WkX11_image : List (Nat × Nat × Option Nat) := [(28, 28, some 5), (30, 30, none), (31, 31, none)]
set_option maxHeartbeats 4000000 in
set_option maxRecDepth 100000 in
theorem kX11_image (l : Launch) (D : va_G) (ca : Nat → ClassId) (za h : Nat → Nat) (hh : sgH 52 h) (f : sg_F) (L : sg_L) (Q : sg_Q) (hI : sgI loX hiX f) (sz : Nat) : Met l yX11_image gwX11_image { frames := 2, cells := 0, slots := 0, locals := 84 } (sgP D vwCl (tyX ca) 52 h (eX ca h) zcX za f L Q sz [.ref (h 0)]) (sgQi D vwCl 52 h (eX ca h) sz (fun r f1 L1 Q1 => ((sgI loX hiX f1 ∧ sgK WkX11_image f f1 ∧ L1 = L ∧ Q1 = Q) ∧ True ∧ (r, f1) = sX11_image f L))) 0 0 (sgA 52 h sz) := by
  refine sg_ofWi (cc := cX11_image) (maxL := 1) RX11 (by decide) rfl rfl (Nat.le_of_ble_eq_true rfl) ?_
  intro p e s m below meth cd Qz ls hx hb hml hown hts hK hZ hP hS hl hret
  have hA := sgY.self (n := 52) (h := h) (sz := s.heap.size)
  have hl : lv_has ls 1 [(0, .ref (h 0))] := hl
  obtain ⟨H, hH⟩ : ∃ z : Heap, z = s.heap := ⟨_, rfl⟩
  obtain ⟨locs, hlo⟩ : ∃ z : List Loc, z = [] := ⟨_, rfl⟩
  have hP : va_P D vwCl (sgw 52 h (eX ca h) f L Q) H := by rw [hH]; exact hP
  have hS : va_S (sgA 52 h s.heap.size) s.heap H locs := by rw [hH, hlo]; exact hS
  suffices hgo : W p l e ({ frames := 2, cells := 0, slots := 0, locals := 84 }) s m ([.ref (h 0)] : List Value).toArray below meth cd H locs 0 0 Qz (F0 m 0 ls []) by rw [hH, hlo] at hgo; exact hgo
  clear hH hlo
  obtain ⟨sp, hsp⟩ : ∃ z : Int32 × sg_F, z = sX11_image f L := ⟨_, rfl⟩
  have hs : sp = sX11_image f L := hsp
  have hF : sgK WkX11_image f f := sgK.rf
  refine lv_aload_n hx hb dX11_image_0 rfl (lv_at hl 0 rfl) ?_
  refine sl_gX_0_6_11 hx hb hts hown hK hP dX11_image_1 ?_
  refine sg_calli (va_runV (As := []) (rest := []) ⟨hx, hb, hml, hown, hts⟩ (kX2_keepImage l D ca za h hh f L Q hI H.size) (sl_c2_keepImage_1_0_0_64_11 hts ⟨Nat.le_of_ble_eq_true rfl, Nat.le_of_ble_eq_true rfl⟩) (sl_vX_28 hA hK hP hS hZ) rfl rfl hl.1 rfl (lv_room (Nat.le_of_ble_eq_true rfl)) dX11_image_4 ⟨Nat.le_refl _, Nat.le_refl _⟩) hA hS (fun r_4 f_1 L_2 Q_3 H locs hq hP hS => ?_)
  obtain ⟨⟨hI, hk_f_1, eL9, eQ9⟩, hq, u_5⟩ := hq
  rw [eL9, eQ9] at hP; clear eL9 eQ9
  have hF : sgK WkX11_image f f_1 := sgK.tr hF hk_f_1 (by decide +kernel)
  exact hret _ _ _ _ (r_4) f_1 L Q dX11_image_7 hP hS ⟨⟨hI, hF, rfl, rfl⟩, trivial, (Eq.trans (Eq.symm (hs.trans ((spl2_e u_5 rfl)))) hsp)⟩

abbrev WkX2_layBack : List (Nat × Nat × Option Nat) := [(3, 3, none), (29, 29, none)]
set_option maxHeartbeats 4000000 in
set_option maxRecDepth 100000 in
theorem kX2_layBack (l : Launch) (D : va_G) (ca : Nat → ClassId) (za h : Nat → Nat) (hh : sgH 52 h) (f : sg_F) (L : sg_L) (Q : sg_Q) (hI : sgI loX hiX f) (sz : Nat) : Met l yX2_layBack gwX2_layBack { frames := 1, cells := 0, slots := 0, locals := 64 } (sgP D vwCl (tyX ca) 52 h (eX ca h) zcX za f L Q sz [.ref (h 28)]) (sgQi D vwCl 52 h (eX ca h) sz (fun r f1 L1 Q1 => ((sgI loX hiX f1 ∧ sgK WkX2_layBack f f1 ∧ L1 = L ∧ Q1 = Q) ∧ True ∧ (r, f1) = sX2_layBack f L))) 0 0 (sgA 52 h sz) := by
  refine sg_ofWi (cc := cX2_layBack) (maxL := 1) RX2 (by decide) rfl rfl (Nat.le_of_ble_eq_true rfl) ?_
  intro p e s m below meth cd Qz ls hx hb hml hown hts hK hZ hP hS hl hret
  have hA := sgY.self (n := 52) (h := h) (sz := s.heap.size)
  have hl : lv_has ls 1 [(0, .ref (h 28))] := hl
  obtain ⟨H, hH⟩ : ∃ z : Heap, z = s.heap := ⟨_, rfl⟩
  obtain ⟨locs, hlo⟩ : ∃ z : List Loc, z = [] := ⟨_, rfl⟩
  have hP : va_P D vwCl (sgw 52 h (eX ca h) f L Q) H := by rw [hH]; exact hP
  have hS : va_S (sgA 52 h s.heap.size) s.heap H locs := by rw [hH, hlo]; exact hS
  suffices hgo : W p l e ({ frames := 1, cells := 0, slots := 0, locals := 64 }) s m ([.ref (h 28)] : List Value).toArray below meth cd H locs 0 0 Qz (F0 m 0 ls []) by rw [hH, hlo] at hgo; exact hgo
  clear hH hlo
  obtain ⟨sp, hsp⟩ : ∃ z : Int32 × sg_F, z = sX2_layBack f L := ⟨_, rfl⟩
  have hs : sp = sX2_layBack f L := hsp
  have hF : sgK WkX2_layBack f f := sgK.rf
  refine lv_aload_n hx hb dX2_layBack_0 rfl (lv_at hl 0 rfl) ?_
  refine sl_gX_28_5_2 (v := (f 28 5)) hx hb hts hown hK hP rfl dX2_layBack_1 ?_
  refine lv_topi (fun v_1 ev_1 => ?_)
  replace hs := hs.trans (spl_e ev_1 rfl)
  have q_2 : 0 ≤ v_1.toInt ∧ v_1.toInt ≤ 1 := by rw [ev_1]; exact hI 28 5
  refine lv_if_ne (tgt := 10) hx hb dX2_layBack_4 (by decide) (fun c => ?_) (fun c => ?_)
  · skip
    have c_3 : v_1.toInt ≠ 0 := (by first | exact (cm_ne1 ti_0 c) | (have z := bn_ne c; have k1 : (0 : Int32).toInt = 0 := ti_0; omega))
    refine lv_aload_n hx hb dX2_layBack_10 rfl (lv_at hl 0 rfl) ?_
    refine sl_gX_28_3_2 hx hb hts hown hK hP dX2_layBack_11 ?_
    refine lv_iconst (v := 0) hx hb dX2_layBack_14 ic_0 ?_
    refine lv_aload_n hx hb dX2_layBack_15 rfl (lv_at hl 0 rfl) ?_
    refine sl_gX_28_2_2 hx hb hts hown hK hP dX2_layBack_16 ?_
    refine lv_iconst (v := 0) hx hb dX2_layBack_19 ic_0 ?_
    refine lv_iconst (v := 5) hx hb dX2_layBack_20 ic_5 ?_
    refine sg_copyi hx hb (hml.trans hl.1.symm) hown (hts _ (List.mem_cons_of_mem _ mw_21)) (hts _ (List.mem_cons_of_mem _ mw_22)) (hts _ (List.mem_cons_of_mem _ mw_23)) (hts _ (List.mem_cons_of_mem _ mw_24)) hh hA hK hP hS 30 29 (by decide) (by decide) 0 0 rfl (fun _ => rfl) rfl rfl (sp := 0) (dp := 0) (nn := 5) (by decide) (by decide) (by decide) (by decide) (by decide) (Nat.le_of_ble_eq_true rfl) (Nat.le_of_ble_eq_true rfl) dX2_layBack_21 (fun f_5 H locs ef_5 hP hS => ?_)
    have hI : sgI loX hiX f_5 := by rw [ef_5]; exact sgI.cpy hI 30 29 (fun _ _ => ⟨by show ((-2147483648) : Int) ≤ (-2147483648); decide, by show (2147483647 : Int) ≤ 2147483647; decide⟩)
    have hF : sgK WkX2_layBack f f_5 := sgK.row hF ef_5 (fun _ => by rfl)
    refine lv_aload_n hx hb dX2_layBack_24 rfl (lv_at hl 0 rfl) ?_
    refine sl_gX_28_4_2 hx hb hts hown hK hP dX2_layBack_25 ?_
    refine lv_iconst (v := 0) hx hb dX2_layBack_28 ic_0 ?_
    refine lv_aload_n hx hb dX2_layBack_29 rfl (lv_at hl 0 rfl) ?_
    refine sl_gX_28_0_2 hx hb hts hown hK hP dX2_layBack_30 ?_
    refine sl_gX_1_1_2 hx hb hts hown hK hP dX2_layBack_33 ?_
    refine lv_iconst (v := 0) hx hb dX2_layBack_36 ic_0 ?_
    refine lv_iconst (v := 3) hx hb dX2_layBack_37 ic_3 ?_
    refine sg_copyi hx hb (hml.trans hl.1.symm) hown (hts _ (List.mem_cons_of_mem _ mw_21)) (hts _ (List.mem_cons_of_mem _ mw_22)) (hts _ (List.mem_cons_of_mem _ mw_23)) (hts _ (List.mem_cons_of_mem _ mw_24)) hh hA hK hP hS 31 3 (by decide) (by decide) 0 0 rfl (fun _ => rfl) rfl rfl (sp := 0) (dp := 0) (nn := 3) (by decide) (by decide) (by decide) (by decide) (by decide) (Nat.le_of_ble_eq_true rfl) (Nat.le_of_ble_eq_true rfl) dX2_layBack_38 (fun f_6 H locs ef_6 hP hS => ?_)
    have hI : sgI loX hiX f_6 := by rw [ef_6]; exact sgI.cpy hI 31 3 (fun _ _ => ⟨by show (0 : Int) ≤ 0; decide, by show (60 : Int) ≤ 60; decide⟩)
    have hF : sgK WkX2_layBack f f_6 := sgK.row hF ef_6 (fun _ => by rfl)
    refine lv_aload_n hx hb dX2_layBack_41 rfl (lv_at hl 0 rfl) ?_
    refine sl_gX_28_2_2 hx hb hts hown hK hP dX2_layBack_42 ?_
    refine lv_iconst (v := 0) hx hb dX2_layBack_45 ic_0 ?_
    refine sg_iald hx hb hK hP 29 (by decide) 0 rfl rfl (i := 0) (vp_in_iff.mpr (by decide)) dX2_layBack_46 ?_
    refine lv_topi (fun v_7 ev_7 => ?_)
    exact hret _ _ _ _ (v_7) f_6 L Q dX2_layBack_47 hP hS ⟨⟨hI, hF, rfl, rfl⟩, trivial, (Eq.trans (Eq.symm (hs.trans ((if_neg c_3).trans (spl_e ef_5 (spl_e ef_6 (spl_e ev_7 rfl)))))) hsp)⟩
  · skip
    have c_4 : v_1.toInt = 0 := (by first | exact (cm_eq1 ti_0 c) | (have z := Int32.toInt_inj.mpr c; have k1 : (0 : Int32).toInt = 0 := ti_0; omega))
    refine lv_bipush (v := (-5)) hx hb dX2_layBack_7 bp_m5 ?_
    have k99 : ((-5) : Int32).toInt = (-5) := ti_m5
    exact hret _ _ _ _ (-5) f L Q dX2_layBack_9 hP hS ⟨⟨hI, hF, rfl, rfl⟩, trivial, (Eq.trans (Eq.symm (hs.trans ((if_pos c_4).trans rfl))) hsp)⟩

abbrev WkX11_back : List (Nat × Nat × Option Nat) := [(3, 3, none), (29, 29, none)]
set_option maxHeartbeats 4000000 in
set_option maxRecDepth 100000 in
theorem kX11_back (l : Launch) (D : va_G) (ca : Nat → ClassId) (za h : Nat → Nat) (hh : sgH 52 h) (f : sg_F) (L : sg_L) (Q : sg_Q) (hI : sgI loX hiX f) (sz : Nat) : Met l yX11_back gwX11_back { frames := 2, cells := 0, slots := 0, locals := 84 } (sgP D vwCl (tyX ca) 52 h (eX ca h) zcX za f L Q sz [.ref (h 0)]) (sgQi D vwCl 52 h (eX ca h) sz (fun r f1 L1 Q1 => ((sgI loX hiX f1 ∧ sgK WkX11_back f f1 ∧ L1 = L ∧ Q1 = Q) ∧ True ∧ (r, f1) = sX11_back f L))) 0 0 (sgA 52 h sz) := by
  refine sg_ofWi (cc := cX11_back) (maxL := 1) RX11 (by decide) rfl rfl (Nat.le_of_ble_eq_true rfl) ?_
  intro p e s m below meth cd Qz ls hx hb hml hown hts hK hZ hP hS hl hret
  have hA := sgY.self (n := 52) (h := h) (sz := s.heap.size)
  have hl : lv_has ls 1 [(0, .ref (h 0))] := hl
  obtain ⟨H, hH⟩ : ∃ z : Heap, z = s.heap := ⟨_, rfl⟩
  obtain ⟨locs, hlo⟩ : ∃ z : List Loc, z = [] := ⟨_, rfl⟩
  have hP : va_P D vwCl (sgw 52 h (eX ca h) f L Q) H := by rw [hH]; exact hP
  have hS : va_S (sgA 52 h s.heap.size) s.heap H locs := by rw [hH, hlo]; exact hS
  suffices hgo : W p l e ({ frames := 2, cells := 0, slots := 0, locals := 84 }) s m ([.ref (h 0)] : List Value).toArray below meth cd H locs 0 0 Qz (F0 m 0 ls []) by rw [hH, hlo] at hgo; exact hgo
  clear hH hlo
  obtain ⟨sp, hsp⟩ : ∃ z : Int32 × sg_F, z = sX11_back f L := ⟨_, rfl⟩
  have hs : sp = sX11_back f L := hsp
  have hF : sgK WkX11_back f f := sgK.rf
  refine lv_aload_n hx hb dX11_back_0 rfl (lv_at hl 0 rfl) ?_
  refine sl_gX_0_6_11 hx hb hts hown hK hP dX11_back_1 ?_
  refine sg_calli (va_runV (As := []) (rest := []) ⟨hx, hb, hml, hown, hts⟩ (kX2_layBack l D ca za h hh f L Q hI H.size) (sl_c2_layBack_1_0_0_64_11 hts ⟨Nat.le_of_ble_eq_true rfl, Nat.le_of_ble_eq_true rfl⟩) (sl_vX_28 hA hK hP hS hZ) rfl rfl hl.1 rfl (lv_room (Nat.le_of_ble_eq_true rfl)) dX11_back_4 ⟨Nat.le_refl _, Nat.le_refl _⟩) hA hS (fun r_4 f_1 L_2 Q_3 H locs hq hP hS => ?_)
  obtain ⟨⟨hI, hk_f_1, eL9, eQ9⟩, hq, u_5⟩ := hq
  rw [eL9, eQ9] at hP; clear eL9 eQ9
  have hF : sgK WkX11_back f f_1 := sgK.tr hF hk_f_1 (by decide +kernel)
  exact hret _ _ _ _ (r_4) f_1 L Q dX11_back_7 hP hS ⟨⟨hI, hF, rfl, rfl⟩, trivial, (Eq.trans (Eq.symm (hs.trans ((spl2_e u_5 rfl)))) hsp)⟩

abbrev WkX11_undo : List (Nat × Nat × Option Nat) := [(2, 2, none), (9, 9, none), (32, 32, some 3)]
set_option maxHeartbeats 4000000 in
set_option maxRecDepth 100000 in
theorem kX11_undo (l : Launch) (D : va_G) (ca : Nat → ClassId) (za h : Nat → Nat) (hh : sgH 52 h) (f : sg_F) (L : sg_L) (Q : sg_Q) (hI : sgI loX hiX f) (hJ : JX f) (sz : Nat) : Met l yX11_undo gwX11_undo { frames := 2, cells := 0, slots := 0, locals := 45 } (sgP D vwCl (tyX ca) 52 h (eX ca h) zcX za f L Q sz [.ref (h 0)]) (sgQi D vwCl 52 h (eX ca h) sz (fun r f1 L1 Q1 => ((sgI loX hiX f1 ∧ sgK WkX11_undo f f1 ∧ L1 = L ∧ Q1 = Q ∧ JX f1) ∧ ((-5) ≤ r.toInt ∧ r.toInt ≤ 39) ∧ (r, f1) = sX11_undo f L))) 0 0 (sgA 52 h sz) := by
  refine sg_ofWi (cc := cX11_undo) (maxL := 1) RX11 (by decide) rfl rfl (Nat.le_of_ble_eq_true rfl) ?_
  intro p e s m below meth cd Qz ls hx hb hml hown hts hK hZ hP hS hl hret
  have hA := sgY.self (n := 52) (h := h) (sz := s.heap.size)
  have hl : lv_has ls 1 [(0, .ref (h 0))] := hl
  obtain ⟨H, hH⟩ : ∃ z : Heap, z = s.heap := ⟨_, rfl⟩
  obtain ⟨locs, hlo⟩ : ∃ z : List Loc, z = [] := ⟨_, rfl⟩
  have hP : va_P D vwCl (sgw 52 h (eX ca h) f L Q) H := by rw [hH]; exact hP
  have hS : va_S (sgA 52 h s.heap.size) s.heap H locs := by rw [hH, hlo]; exact hS
  suffices hgo : W p l e ({ frames := 2, cells := 0, slots := 0, locals := 45 }) s m ([.ref (h 0)] : List Value).toArray below meth cd H locs 0 0 Qz (F0 m 0 ls []) by rw [hH, hlo] at hgo; exact hgo
  clear hH hlo
  obtain ⟨sp, hsp⟩ : ∃ z : Int32 × sg_F, z = sX11_undo f L := ⟨_, rfl⟩
  have hs : sp = sX11_undo f L := hsp
  have hF : sgK WkX11_undo f f := sgK.rf
  refine lv_aload_n hx hb dX11_undo_0 rfl (lv_at hl 0 rfl) ?_
  refine sl_gX_0_7_11 hx hb hts hown hK hP dX11_undo_1 ?_
  refine sl_gX_32_3_11 (v := (f 32 3)) hx hb hts hown hK hP rfl dX11_undo_4 ?_
  refine lv_topi (fun v_1 ev_1 => ?_)
  replace hs := hs.trans (spl_e ev_1 rfl)
  have q_2 : 0 ≤ v_1.toInt ∧ v_1.toInt ≤ 40 := by rw [ev_1]; exact hI 32 3
  refine lv_if_ne (tgt := 13) hx hb dX11_undo_7 (by decide) (fun c => ?_) (fun c => ?_)
  · skip
    have c_3 : v_1.toInt ≠ 0 := (by first | exact (cm_ne1 ti_0 c) | (have z := bn_ne c; have k1 : (0 : Int32).toInt = 0 := ti_0; omega))
    refine lv_aload_n hx hb dX11_undo_13 rfl (lv_at hl 0 rfl) ?_
    refine sl_gX_0_7_11 hx hb hts hown hK hP dX11_undo_14 ?_
    refine lv_dup hx hb dX11_undo_17 rfl ?_
    refine sl_gX_32_3_11 (v := v_1) hx hb hts hown hK hP (show f 32 3 = v_1 from ev_1.symm) dX11_undo_18 ?_
    refine lv_iconst (v := 1) hx hb dX11_undo_21 ic_1 ?_
    refine lv_isub hx hb dX11_undo_22 ?_
    refine lv_topi (fun v_5 ev_5 => ?_)
    have q_6 : v_5.toInt = v_1.toInt - 1 := by rw [ev_5]; first | exact cm_sub ti_1 (by omega) (by omega) | (have k1 : (1 : Int32).toInt = 1 := ti_1; exact (bn_subI (by omega) (by omega)).trans (by omega))
    refine sl_pX_32_3_11 (x := v_5) hx hb hts hown hh hA hK hP hS dX11_undo_23 (fun f_7 H locs ef_7 hP hS => ?_)
    have hI : sgI loX hiX f_7 := by rw [ef_7]; exact sgI.put hI 32 3 (show 0 ≤ (v_5 : Int32).toInt ∧ (v_5 : Int32).toInt ≤ 40 from ⟨by omega, by omega⟩)
    have hJ : JX f_7 := JX.put hJ ef_7 (by decide)
    have hF : sgK WkX11_undo f f_7 := sgK.put hF ef_7 (by rfl)
    refine lv_aload_n hx hb dX11_undo_26 rfl (lv_at hl 0 rfl) ?_
    refine sl_gX_0_0_11 hx hb hts hown hK hP dX11_undo_27 ?_
    refine lv_aload_n hx hb dX11_undo_30 rfl (lv_at hl 0 rfl) ?_
    refine sl_gX_0_7_11 hx hb hts hown hK hP dX11_undo_31 ?_
    refine sl_gX_32_0_11 hx hb hts hown hK hP dX11_undo_34 ?_
    refine lv_aload_n hx hb dX11_undo_37 rfl (lv_at hl 0 rfl) ?_
    refine sl_gX_0_7_11 hx hb hts hown hK hP dX11_undo_38 ?_
    refine sl_gX_32_3_11 (v := v_5) hx hb hts hown hK hP (show f_7 32 3 = v_5 from (by rw [ef_7, sg_up_s, sgu_s])) dX11_undo_41 ?_
    refine sg_iald hx hb hK hP 33 (by decide) 0 rfl rfl (i := v_5) (vp_in_iff.mpr ⟨by omega, by omega⟩) dX11_undo_44 ?_
    refine lv_topi (fun v_8 ev_8 => ?_)
    have q_9 : 0 ≤ v_8.toInt ∧ v_8.toInt ≤ 70 := by rw [ev_8]; exact hI 33 _
    have q_10 : (f_7 33 (Int32.toNatClampNeg v_5)).toInt = v_8.toInt := by rw [ev_8]
    refine lv_aload_n hx hb dX11_undo_45 rfl (lv_at hl 0 rfl) ?_
    refine sl_gX_0_7_11 hx hb hts hown hK hP dX11_undo_46 ?_
    refine sl_gX_32_1_11 hx hb hts hown hK hP dX11_undo_49 ?_
    refine lv_aload_n hx hb dX11_undo_52 rfl (lv_at hl 0 rfl) ?_
    refine sl_gX_0_7_11 hx hb hts hown hK hP dX11_undo_53 ?_
    refine sl_gX_32_3_11 (v := v_5) hx hb hts hown hK hP (show f_7 32 3 = v_5 from (by rw [ef_7, sg_up_s, sgu_s])) dX11_undo_56 ?_
    refine sg_iald hx hb hK hP 34 (by decide) 0 rfl rfl (i := v_5) (vp_in_iff.mpr ⟨by omega, by omega⟩) dX11_undo_59 ?_
    refine lv_topi (fun v_11 ev_11 => ?_)
    have q_12 : 0 ≤ v_11.toInt ∧ v_11.toInt ≤ 99 := by rw [ev_11]; exact hI 34 _
    have q_13 : (f_7 34 (Int32.toNatClampNeg v_5)).toInt = v_11.toInt := by rw [ev_11]
    have zJ := hJ.1 (Int32.toNatClampNeg v_5)
    refine sg_callv (va_runV (As := [.int v_8, .int v_11]) (rest := []) ⟨hx, hb, hml, hown, hts⟩ (kX0_becomes l D ca za h hh f_7 L Q hI v_8 v_11 q_9 q_12 (by omega) H.size) (sl_c0_becomes_1_0_0_23_11 hts ⟨Nat.le_of_ble_eq_true rfl, Nat.le_of_ble_eq_true rfl⟩) (sl_vX_1 hA hK hP hS hZ) rfl rfl hl.1 rfl (lv_room (Nat.le_of_ble_eq_true rfl)) dX11_undo_60 ⟨Nat.le_refl _, Nat.le_refl _⟩) hA hS (fun f_14 L_15 Q_16 H locs hq hP hS => ?_)
    obtain ⟨⟨hI, hk_f_14, eL9, eQ9⟩, u_17⟩ := hq
    rw [eL9, eQ9] at hP; clear eL9 eQ9
    have hJ : JX f_14 := JX.fr hJ hk_f_14 (fun _ => rfl) (fun _ => rfl) (fun _ => rfl) (by intro t j ht; rcases (show t = 0 ∨ t = 1 ∨ t = 2 ∨ t = 3 ∨ t = 4 ∨ t = 5 by omega) with rfl | rfl | rfl | rfl | rfl | rfl <;> rfl)
    have hF : sgK WkX11_undo f f_14 := sgK.tr hF hk_f_14 (by decide +kernel)
    refine lv_aload_n hx hb dX11_undo_63 rfl (lv_at hl 0 rfl) ?_
    refine sl_gX_0_7_11 hx hb hts hown hK hP dX11_undo_64 ?_
    refine sl_gX_32_3_11 (v := v_5) hx hb hts hown hK hP (show f_14 32 3 = v_5 from ((hk_f_14 32 3 (by decide)).trans (by rw [ef_7, sg_up_s, sgu_s]))) dX11_undo_67 ?_
    exact hret _ _ _ _ (v_5) f_14 L Q dX11_undo_70 hP hS ⟨⟨hI, hF, rfl, rfl, hJ⟩, ⟨by omega, by omega⟩, (Eq.trans (Eq.symm (hs.trans ((if_neg c_3).trans (spl_e ev_5 (spl_e ef_7 (spl_e ev_8 (spl_e ev_11 (spl_e u_17 rfl)))))))) hsp)⟩
  · skip
    have c_4 : v_1.toInt = 0 := (by first | exact (cm_eq1 ti_0 c) | (have z := Int32.toInt_inj.mpr c; have k1 : (0 : Int32).toInt = 0 := ti_0; omega))
    refine lv_bipush (v := (-5)) hx hb dX11_undo_10 bp_m5 ?_
    have k99 : ((-5) : Int32).toInt = (-5) := ti_m5
    exact hret _ _ _ _ (-5) f L Q dX11_undo_12 hP hS ⟨⟨hI, hF, rfl, rfl, hJ⟩, (by decide), (Eq.trans (Eq.symm (hs.trans ((if_pos c_4).trans rfl))) hsp)⟩

abbrev WkX11_redo : List (Nat × Nat × Option Nat) := [(2, 2, none), (9, 9, none), (32, 32, some 3)]
set_option maxHeartbeats 4000000 in
set_option maxRecDepth 100000 in
theorem kX11_redo (l : Launch) (D : va_G) (ca : Nat → ClassId) (za h : Nat → Nat) (hh : sgH 52 h) (f : sg_F) (L : sg_L) (Q : sg_Q) (hI : sgI loX hiX f) (hJ : JX f) (sz : Nat) : Met l yX11_redo gwX11_redo { frames := 2, cells := 0, slots := 0, locals := 45 } (sgP D vwCl (tyX ca) 52 h (eX ca h) zcX za f L Q sz [.ref (h 0)]) (sgQi D vwCl 52 h (eX ca h) sz (fun r f1 L1 Q1 => ((sgI loX hiX f1 ∧ sgK WkX11_redo f f1 ∧ L1 = L ∧ Q1 = Q ∧ JX f1) ∧ ((-100) ≤ r.toInt ∧ r.toInt ≤ 39) ∧ (r, f1) = sX11_redo f L))) 0 0 (sgA 52 h sz) := by
  refine sg_ofWi (cc := cX11_redo) (maxL := 1) RX11 (by decide) rfl rfl (Nat.le_of_ble_eq_true rfl) ?_
  intro p e s m below meth cd Qz ls hx hb hml hown hts hK hZ hP hS hl hret
  have hA := sgY.self (n := 52) (h := h) (sz := s.heap.size)
  have hl : lv_has ls 1 [(0, .ref (h 0))] := hl
  obtain ⟨H, hH⟩ : ∃ z : Heap, z = s.heap := ⟨_, rfl⟩
  obtain ⟨locs, hlo⟩ : ∃ z : List Loc, z = [] := ⟨_, rfl⟩
  have hP : va_P D vwCl (sgw 52 h (eX ca h) f L Q) H := by rw [hH]; exact hP
  have hS : va_S (sgA 52 h s.heap.size) s.heap H locs := by rw [hH, hlo]; exact hS
  suffices hgo : W p l e ({ frames := 2, cells := 0, slots := 0, locals := 45 }) s m ([.ref (h 0)] : List Value).toArray below meth cd H locs 0 0 Qz (F0 m 0 ls []) by rw [hH, hlo] at hgo; exact hgo
  clear hH hlo
  obtain ⟨sp, hsp⟩ : ∃ z : Int32 × sg_F, z = sX11_redo f L := ⟨_, rfl⟩
  have hs : sp = sX11_redo f L := hsp
  have hF : sgK WkX11_redo f f := sgK.rf
  refine lv_aload_n hx hb dX11_redo_0 rfl (lv_at hl 0 rfl) ?_
  refine sl_gX_0_7_11 hx hb hts hown hK hP dX11_redo_1 ?_
  refine sl_gX_32_3_11 (v := (f 32 3)) hx hb hts hown hK hP rfl dX11_redo_4 ?_
  refine lv_topi (fun v_1 ev_1 => ?_)
  have q_2 : 0 ≤ v_1.toInt ∧ v_1.toInt ≤ 40 := by rw [ev_1]; exact hI 32 3
  refine lv_aload_n hx hb dX11_redo_7 rfl (lv_at hl 0 rfl) ?_
  refine sl_gX_0_7_11 hx hb hts hown hK hP dX11_redo_8 ?_
  refine sl_gX_32_4_11 (v := (f 32 4)) hx hb hts hown hK hP rfl dX11_redo_11 ?_
  refine lv_topi (fun v_3 ev_3 => ?_)
  replace hs := hs.trans (spl_e ev_1 (spl_e ev_3 rfl))
  have q_4 : 0 ≤ v_3.toInt ∧ v_3.toInt ≤ 40 := by rw [ev_3]; exact hI 32 4
  refine lv_icmp_lt (tgt := 20) hx hb dX11_redo_14 (by decide) (fun c => ?_) (fun c => ?_)
  · skip
    have c_5 : v_1.toInt < v_3.toInt := (by first | exact (bn_lt c) | (have z := bn_lt c; omega))
    refine lv_aload_n hx hb dX11_redo_20 rfl (lv_at hl 0 rfl) ?_
    refine sl_gX_0_0_11 hx hb hts hown hK hP dX11_redo_21 ?_
    refine lv_aload_n hx hb dX11_redo_24 rfl (lv_at hl 0 rfl) ?_
    refine sl_gX_0_7_11 hx hb hts hown hK hP dX11_redo_25 ?_
    refine sl_gX_32_0_11 hx hb hts hown hK hP dX11_redo_28 ?_
    refine lv_aload_n hx hb dX11_redo_31 rfl (lv_at hl 0 rfl) ?_
    refine sl_gX_0_7_11 hx hb hts hown hK hP dX11_redo_32 ?_
    refine sl_gX_32_3_11 (v := v_1) hx hb hts hown hK hP (show f 32 3 = v_1 from ev_1.symm) dX11_redo_35 ?_
    refine sg_iald hx hb hK hP 33 (by decide) 0 rfl rfl (i := v_1) (vp_in_iff.mpr ⟨by omega, by omega⟩) dX11_redo_38 ?_
    refine lv_topi (fun v_7 ev_7 => ?_)
    have q_8 : 0 ≤ v_7.toInt ∧ v_7.toInt ≤ 70 := by rw [ev_7]; exact hI 33 _
    have q_9 : (f 33 (Int32.toNatClampNeg v_1)).toInt = v_7.toInt := by rw [ev_7]
    refine lv_aload_n hx hb dX11_redo_39 rfl (lv_at hl 0 rfl) ?_
    refine sl_gX_0_7_11 hx hb hts hown hK hP dX11_redo_40 ?_
    refine sl_gX_32_2_11 hx hb hts hown hK hP dX11_redo_43 ?_
    refine lv_aload_n hx hb dX11_redo_46 rfl (lv_at hl 0 rfl) ?_
    refine sl_gX_0_7_11 hx hb hts hown hK hP dX11_redo_47 ?_
    refine sl_gX_32_3_11 (v := v_1) hx hb hts hown hK hP (show f 32 3 = v_1 from ev_1.symm) dX11_redo_50 ?_
    refine sg_iald hx hb hK hP 35 (by decide) 0 rfl rfl (i := v_1) (vp_in_iff.mpr ⟨by omega, by omega⟩) dX11_redo_53 ?_
    refine lv_topi (fun v_10 ev_10 => ?_)
    have q_11 : 0 ≤ v_10.toInt ∧ v_10.toInt ≤ 99 := by rw [ev_10]; exact hI 35 _
    have q_12 : (f 35 (Int32.toNatClampNeg v_1)).toInt = v_10.toInt := by rw [ev_10]
    have zJ := hJ.1 (Int32.toNatClampNeg v_1)
    refine sg_callv (va_runV (As := [.int v_7, .int v_10]) (rest := []) ⟨hx, hb, hml, hown, hts⟩ (kX0_becomes l D ca za h hh f L Q hI v_7 v_10 q_8 q_11 (by omega) H.size) (sl_c0_becomes_1_0_0_23_11 hts ⟨Nat.le_of_ble_eq_true rfl, Nat.le_of_ble_eq_true rfl⟩) (sl_vX_1 hA hK hP hS hZ) rfl rfl hl.1 rfl (lv_room (Nat.le_of_ble_eq_true rfl)) dX11_redo_54 ⟨Nat.le_refl _, Nat.le_refl _⟩) hA hS (fun f_13 L_14 Q_15 H locs hq hP hS => ?_)
    obtain ⟨⟨hI, hk_f_13, eL9, eQ9⟩, u_16⟩ := hq
    rw [eL9, eQ9] at hP; clear eL9 eQ9
    have hJ : JX f_13 := JX.fr hJ hk_f_13 (fun _ => rfl) (fun _ => rfl) (fun _ => rfl) (by intro t j ht; rcases (show t = 0 ∨ t = 1 ∨ t = 2 ∨ t = 3 ∨ t = 4 ∨ t = 5 by omega) with rfl | rfl | rfl | rfl | rfl | rfl <;> rfl)
    have hF : sgK WkX11_redo f f_13 := sgK.tr hF hk_f_13 (by decide +kernel)
    refine lv_aload_n hx hb dX11_redo_57 rfl (lv_at hl 0 rfl) ?_
    refine sl_gX_0_7_11 hx hb hts hown hK hP dX11_redo_58 ?_
    refine lv_dup hx hb dX11_redo_61 rfl ?_
    refine sl_gX_32_3_11 (v := v_1) hx hb hts hown hK hP (show f_13 32 3 = v_1 from ((hk_f_13 32 3 (by decide)).trans ev_1.symm)) dX11_redo_62 ?_
    refine lv_iconst (v := 1) hx hb dX11_redo_65 ic_1 ?_
    refine lv_iadd hx hb dX11_redo_66 ?_
    refine lv_topi (fun v_17 ev_17 => ?_)
    have q_18 : v_17.toInt = v_1.toInt + 1 := by rw [ev_17]; first | exact cm_add ti_1 (by omega) (by omega) | (have k1 : (1 : Int32).toInt = 1 := ti_1; exact (bn_addI (by omega) (by omega)).trans (by omega))
    refine sl_pX_32_3_11 (x := v_17) hx hb hts hown hh hA hK hP hS dX11_redo_67 (fun f_19 H locs ef_19 hP hS => ?_)
    have hI : sgI loX hiX f_19 := by rw [ef_19]; exact sgI.put hI 32 3 (show 0 ≤ (v_17 : Int32).toInt ∧ (v_17 : Int32).toInt ≤ 40 from ⟨by omega, by omega⟩)
    have hJ : JX f_19 := JX.put hJ ef_19 (by decide)
    have hF : sgK WkX11_redo f f_19 := sgK.put hF ef_19 (by rfl)
    refine lv_aload_n hx hb dX11_redo_70 rfl (lv_at hl 0 rfl) ?_
    refine sl_gX_0_7_11 hx hb hts hown hK hP dX11_redo_71 ?_
    refine sl_gX_32_4_11 (v := v_3) hx hb hts hown hK hP (show f_19 32 4 = v_3 from (by rw [ef_19, sg_up_s, sgu_n (by decide)]; exact ((hk_f_13 32 4 (by decide)).trans ev_3.symm))) dX11_redo_74 ?_
    refine lv_aload_n hx hb dX11_redo_77 rfl (lv_at hl 0 rfl) ?_
    refine sl_gX_0_7_11 hx hb hts hown hK hP dX11_redo_78 ?_
    refine sl_gX_32_3_11 (v := v_17) hx hb hts hown hK hP (show f_19 32 3 = v_17 from (by rw [ef_19, sg_up_s, sgu_s])) dX11_redo_81 ?_
    refine lv_isub hx hb dX11_redo_84 ?_
    refine lv_topi (fun v_20 ev_20 => ?_)
    have q_21 : v_20.toInt = v_3.toInt - v_17.toInt := by rw [ev_20]; first | exact bn_subI (by omega) (by omega) | exact (bn_subI (by omega) (by omega)).trans (by omega)
    exact hret _ _ _ _ (v_20) f_19 L Q dX11_redo_85 hP hS ⟨⟨hI, hF, rfl, rfl, hJ⟩, ⟨by omega, by omega⟩, (Eq.trans (Eq.symm (hs.trans ((if_pos c_5).trans (spl_e ev_7 (spl_e ev_10 (spl_e u_16 (spl_e ev_17 (spl_e ef_19 (spl_e ev_20 rfl))))))))) hsp)⟩
  · skip
    have c_6 : v_3.toInt ≤ v_1.toInt := (by first | exact (bn_nlt c) | (have z := bn_nlt c; omega))
    refine lv_bipush (v := (-5)) hx hb dX11_redo_17 bp_m5 ?_
    have k99 : ((-5) : Int32).toInt = (-5) := ti_m5
    exact hret _ _ _ _ (-5) f L Q dX11_redo_19 hP hS ⟨⟨hI, hF, rfl, rfl, hJ⟩, (by decide), (Eq.trans (Eq.symm (hs.trans ((if_neg (Int.not_lt.mpr c_6)).trans rfl))) hsp)⟩

set_option maxHeartbeats 4000000 in
set_option maxRecDepth 100000 in
theorem kX11_isKind (l : Launch) (D : va_G) (ca : Nat → ClassId) (za h : Nat → Nat) (hh : sgH 52 h) (f : sg_F) (L : sg_L) (Q : sg_Q) (hI : sgI loX hiX f) (x0 : Int32) (sz : Nat) : Met l yX11_isKind gwX11_isKind { frames := 0, cells := 0, slots := 0, locals := 0 } (sgP D vwCl (tyX ca) 52 h (eX ca h) zcX za f L Q sz [.int x0]) (sgQi D vwCl 52 h (eX ca h) sz (fun r f1 L1 Q1 => ((f1 = f ∧ L1 = L ∧ Q1 = Q) ∧ ((r = 1 ∧ (0 ≤ x0.toInt ∧ x0.toInt ≤ 7)) ∨ (r = 0 ∧ (¬ (0 ≤ x0.toInt ∧ x0.toInt ≤ 7)))) ∧ (r) = sX11_isKind x0 f L))) 0 0 (sgA 52 h sz) := by
  refine sg_ofWz (cc := cX11_isKind) (maxL := 1) RX11 (by decide) rfl rfl (Nat.le_of_ble_eq_true rfl) ?_
  intro p e s m below meth cd Qz ls hx hb hml hown hts hK hZ hP hS hl hret
  have hA := sgY.self (n := 52) (h := h) (sz := s.heap.size)
  have hl : lv_has ls 1 [(0, .int x0)] := hl
  obtain ⟨H, hH⟩ : ∃ z : Heap, z = s.heap := ⟨_, rfl⟩
  obtain ⟨locs, hlo⟩ : ∃ z : List Loc, z = [] := ⟨_, rfl⟩
  have hP : va_P D vwCl (sgw 52 h (eX ca h) f L Q) H := by rw [hH]; exact hP
  have hS : va_S (sgA 52 h s.heap.size) s.heap H locs := by rw [hH, hlo]; exact hS
  suffices hgo : W p l e ({ frames := 0, cells := 0, slots := 0, locals := 0 }) s m ([.int x0] : List Value).toArray below meth cd H locs 0 0 Qz (F0 m 0 ls []) by rw [hH, hlo] at hgo; exact hgo
  clear hH hlo
  obtain ⟨sp, hsp⟩ : ∃ z : Int32, z = sX11_isKind x0 f L := ⟨_, rfl⟩
  have hs : sp = sX11_isKind x0 f L := hsp
  refine lv_iload_n hx hb dX11_isKind_0 rfl (lv_at hl 0 rfl) ?_
  refine lv_if_lt (tgt := 14) hx hb dX11_isKind_1 (by decide) (fun c => ?_) (fun c => ?_)
  · skip
    have c_1 : x0.toInt < 0 := (by first | exact (cm_lt1 ti_0 c) | (have z := bn_lt c; have k1 : (0 : Int32).toInt = 0 := ti_0; omega))
    refine lv_iconst (v := 0) hx hb dX11_isKind_14 ic_0 ?_
    have k99 : (0 : Int32).toInt = 0 := ti_0
    exact hret _ _ _ _ (0) f L Q dX11_isKind_15 (by decide) hP hS ⟨⟨rfl, rfl, rfl⟩, Or.inr (⟨rfl, by omega⟩), (Eq.trans (Eq.symm (hs.trans (((if_pos c_1).trans rfl)))) hsp)⟩
  · skip
    have c_2 : 0 ≤ x0.toInt := (by first | exact (cm_nlt1 ti_0 c) | (have z := bn_nlt c; have k1 : (0 : Int32).toInt = 0 := ti_0; omega))
    replace hs := hs.trans ((if_neg (Int.not_lt.mpr c_2)).trans rfl)
    refine lv_iload_n hx hb dX11_isKind_4 rfl (lv_at hl 0 rfl) ?_
    refine lv_bipush (v := 8) hx hb dX11_isKind_5 bp_8 ?_
    refine lv_icmp_ge (tgt := 14) hx hb dX11_isKind_7 (by decide) (fun c => ?_) (fun c => ?_)
    · skip
      have c_3 : 8 ≤ x0.toInt := (by first | exact (cm_le0 ti_8 c) | (have z := bn_le c; have k1 : (8 : Int32).toInt = 8 := ti_8; omega))
      refine lv_iconst (v := 0) hx hb dX11_isKind_14 ic_0 ?_
      have k99 : (0 : Int32).toInt = 0 := ti_0
      exact hret _ _ _ _ (0) f L Q dX11_isKind_15 (by decide) hP hS ⟨⟨rfl, rfl, rfl⟩, Or.inr (⟨rfl, by omega⟩), (Eq.trans (Eq.symm (hs.trans ((if_neg (Int.not_lt.mpr c_3)).trans rfl))) hsp)⟩
    · skip
      have c_4 : x0.toInt < 8 := (by first | exact (cm_nle0 ti_8 c) | (have z := bn_nle c; have k1 : (8 : Int32).toInt = 8 := ti_8; omega))
      refine lv_iconst (v := 1) hx hb dX11_isKind_10 ic_1 ?_
      refine lv_goto (tgt := 15) hx hb dX11_isKind_11 (by decide) ?_
      have k99 : (1 : Int32).toInt = 1 := ti_1
      exact hret _ _ _ _ (1) f L Q dX11_isKind_15 (by decide) hP hS ⟨⟨rfl, rfl, rfl⟩, Or.inl ⟨rfl, by omega⟩, (Eq.trans (Eq.symm (hs.trans ((if_pos c_4).trans rfl))) hsp)⟩

abbrev WkX3_comes : List (Nat × Nat × Option Nat) := [(36, 36, some 2), (37, 37, none)]
set_option maxHeartbeats 4000000 in
set_option maxRecDepth 100000 in
theorem kX3_comes (l : Launch) (D : va_G) (ca : Nat → ClassId) (za h : Nat → Nat) (hh : sgH 52 h) (f : sg_F) (L : sg_L) (Q : sg_Q) (hI : sgI loX hiX f) (x0 : Int32) (b0 : 0 ≤ x0.toInt ∧ x0.toInt ≤ 7) (sz : Nat) : Met l yX3_comes gwX3_comes { frames := 0, cells := 0, slots := 0, locals := 0 } (sgP D vwCl (tyX ca) 52 h (eX ca h) zcX za f L Q sz [.ref (h 36), .int x0]) (sgQi D vwCl 52 h (eX ca h) sz (fun r f1 L1 Q1 => ((sgI loX hiX f1 ∧ sgK WkX3_comes f f1 ∧ L1 = L ∧ Q1 = Q) ∧ ((-3) ≤ r.toInt ∧ r.toInt ≤ 49) ∧ (r, f1) = sX3_comes x0 f L))) 0 0 (sgA 52 h sz) := by
  refine sg_ofWi (cc := cX3_comes) (maxL := 2) RX3 (by decide) rfl rfl (Nat.le_of_ble_eq_true rfl) ?_
  intro p e s m below meth cd Qz ls hx hb hml hown hts hK hZ hP hS hl hret
  have hA := sgY.self (n := 52) (h := h) (sz := s.heap.size)
  have hl : lv_has ls 2 [(0, .ref (h 36)), (1, .int x0)] := hl
  obtain ⟨H, hH⟩ : ∃ z : Heap, z = s.heap := ⟨_, rfl⟩
  obtain ⟨locs, hlo⟩ : ∃ z : List Loc, z = [] := ⟨_, rfl⟩
  have hP : va_P D vwCl (sgw 52 h (eX ca h) f L Q) H := by rw [hH]; exact hP
  have hS : va_S (sgA 52 h s.heap.size) s.heap H locs := by rw [hH, hlo]; exact hS
  suffices hgo : W p l e ({ frames := 0, cells := 0, slots := 0, locals := 0 }) s m ([.ref (h 36), .int x0] : List Value).toArray below meth cd H locs 0 0 Qz (F0 m 0 ls []) by rw [hH, hlo] at hgo; exact hgo
  clear hH hlo
  obtain ⟨sp, hsp⟩ : ∃ z : Int32 × sg_F, z = sX3_comes x0 f L := ⟨_, rfl⟩
  have hs : sp = sX3_comes x0 f L := hsp
  have hF : sgK WkX3_comes f f := sgK.rf
  refine lv_aload_n hx hb dX3_comes_0 rfl (lv_at hl 0 rfl) ?_
  refine sl_gX_36_2_3 (v := (f 36 2)) hx hb hts hown hK hP rfl dX3_comes_1 ?_
  refine lv_topi (fun v_1 ev_1 => ?_)
  replace hs := hs.trans (spl_e ev_1 rfl)
  have q_2 : 0 ≤ v_1.toInt ∧ v_1.toInt ≤ 50 := by rw [ev_1]; exact hI 36 2
  refine lv_bipush (v := 50) hx hb dX3_comes_4 bp_50 ?_
  refine lv_icmp_lt (tgt := 12) hx hb dX3_comes_6 (by decide) (fun c => ?_) (fun c => ?_)
  · skip
    have c_3 : v_1.toInt < 50 := (by first | exact (cm_lt1 ti_50 c) | (have z := bn_lt c; have k1 : (50 : Int32).toInt = 50 := ti_50; omega))
    refine lv_aload_n hx hb dX3_comes_12 rfl (lv_at hl 0 rfl) ?_
    refine sl_gX_36_0_3 hx hb hts hown hK hP dX3_comes_13 ?_
    refine lv_aload_n hx hb dX3_comes_16 rfl (lv_at hl 0 rfl) ?_
    refine sl_gX_36_2_3 (v := v_1) hx hb hts hown hK hP (show f 36 2 = v_1 from ev_1.symm) dX3_comes_17 ?_
    refine lv_iload_n hx hb dX3_comes_20 rfl (lv_at hl 1 rfl) ?_
    refine sg_iast hx hb hh hA hK hP hS 37 (by decide) 0 (fun _ => rfl) rfl (i := v_1) (x := x0) (vp_in_iff.mpr ⟨by omega, by omega⟩) dX3_comes_21 (fun f_5 H locs ef_5 hP hS => ?_)
    have hI : sgI loX hiX f_5 := by rw [ef_5]; exact sgI.put hI 37 v_1.toNatClampNeg (show 0 ≤ (x0 : Int32).toInt ∧ (x0 : Int32).toInt ≤ 7 from b0)
    have hF : sgK WkX3_comes f f_5 := sgK.put hF ef_5 (by rfl)
    refine lv_aload_n hx hb dX3_comes_22 rfl (lv_at hl 0 rfl) ?_
    refine lv_dup hx hb dX3_comes_23 rfl ?_
    refine sl_gX_36_2_3 (v := v_1) hx hb hts hown hK hP (show f_5 36 2 = v_1 from (by rw [ef_5, sg_up_n (by decide)]; exact ev_1.symm)) dX3_comes_24 ?_
    refine lv_iconst (v := 1) hx hb dX3_comes_27 ic_1 ?_
    refine lv_iadd hx hb dX3_comes_28 ?_
    refine lv_topi (fun v_6 ev_6 => ?_)
    have q_7 : v_6.toInt = v_1.toInt + 1 := by rw [ev_6]; first | exact cm_add ti_1 (by omega) (by omega) | (have k1 : (1 : Int32).toInt = 1 := ti_1; exact (bn_addI (by omega) (by omega)).trans (by omega))
    refine sl_pX_36_2_3 (x := v_6) hx hb hts hown hh hA hK hP hS dX3_comes_29 (fun f_8 H locs ef_8 hP hS => ?_)
    have hI : sgI loX hiX f_8 := by rw [ef_8]; exact sgI.put hI 36 2 (show 0 ≤ (v_6 : Int32).toInt ∧ (v_6 : Int32).toInt ≤ 50 from ⟨by omega, by omega⟩)
    have hF : sgK WkX3_comes f f_8 := sgK.put hF ef_8 (by rfl)
    refine lv_aload_n hx hb dX3_comes_32 rfl (lv_at hl 0 rfl) ?_
    refine sl_gX_36_2_3 (v := v_6) hx hb hts hown hK hP (show f_8 36 2 = v_6 from (by rw [ef_8, sg_up_s, sgu_s])) dX3_comes_33 ?_
    refine lv_iconst (v := 1) hx hb dX3_comes_36 ic_1 ?_
    refine lv_isub hx hb dX3_comes_37 ?_
    refine lv_topi (fun v_9 ev_9 => ?_)
    have q_10 : v_9.toInt = v_6.toInt - 1 := by rw [ev_9]; first | exact cm_sub ti_1 (by omega) (by omega) | (have k1 : (1 : Int32).toInt = 1 := ti_1; exact (bn_subI (by omega) (by omega)).trans (by omega))
    exact hret _ _ _ _ (v_9) f_8 L Q dX3_comes_38 hP hS ⟨⟨hI, hF, rfl, rfl⟩, ⟨by omega, by omega⟩, (Eq.trans (Eq.symm (hs.trans ((if_pos c_3).trans (spl_e ef_5 (spl_e ev_6 (spl_e ef_8 (spl_e ev_9 rfl))))))) hsp)⟩
  · skip
    have c_4 : 50 ≤ v_1.toInt := (by first | exact (cm_nlt1 ti_50 c) | (have z := bn_nlt c; have k1 : (50 : Int32).toInt = 50 := ti_50; omega))
    refine lv_bipush (v := (-3)) hx hb dX3_comes_9 bp_m3 ?_
    have k99 : ((-3) : Int32).toInt = (-3) := ti_m3
    exact hret _ _ _ _ (-3) f L Q dX3_comes_11 hP hS ⟨⟨hI, hF, rfl, rfl⟩, (by decide), (Eq.trans (Eq.symm (hs.trans ((if_neg (Int.not_lt.mpr c_4)).trans rfl))) hsp)⟩
